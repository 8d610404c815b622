-- the class, on a fresh object
def FrC (τ : Mm) : Prop := (∀ i : Int, 0 ≤ i → i < 7 → τ 7 i 1 = 0) ∧ (∀ j : Int, 0 ≤ j → j < 16 → τ 15 0 j = 0) ∧ (∀ i : Int, 0 ≤ i → i < 8 → τ 12 i 0 = -1) ∧ (∀ i : Int, 0 ≤ i → i < 4 → τ 13 i 0 = -1)
def FrR (τ : Mm) : Prop := (∀ j : Int, 0 ≤ j → j < 176 → τ 31 0 j = 0) ∧ (∀ j : Int, 0 ≤ j → j < 16 → τ 35 0 j = 0) ∧ (∀ j : Int, 0 ≤ j → j < 8 → τ 39 0 j = -1) ∧ (∀ j : Int, 0 ≤ j → j < 4 → τ 45 0 j = -1)
theorem w_within {d : Nat} {Post : Option Vl → Mm → Prop} {τ : Mm} {a lo hi : Int} (k : ∀ r : Int, ((lo ≤ a ∧ a ≤ hi) ∧ r = 1) ∨ (¬ (lo ≤ a ∧ a ≤ hi) ∧ r = 0) → Post (some (vI r)) τ) : WP (d + 1) 124 [vI a, vI lo, vI hi] τ Post := by
  intro K hK
  have hK : StpF cX5_within RX5 (some .boolean) (WP (d + 0)) Post K := hK
  have hM := hK.1
  have hC := hK.1.1
  show K 0 [some (vI a), some (vI lo), some (vI hi)] [] τ
  refine r_iload_n hC dX5_within_0 rfl ?_
  refine r_iload_n hC dX5_within_1 rfl ?_
  refine r_icmp_gt (tgt := 14) hC dX5_within_2 rfl (fun h1 => ?_) (fun h1 => ?_)
  · refine r_iconst hC dX5_within_14 rfl ?_
    refine t_zret hK rfl dX5_within_15 (by omega) ?_
    exact k _ (by omega)
  · refine r_iload_n hC dX5_within_5 rfl ?_
    refine r_iload_n hC dX5_within_6 rfl ?_
    refine r_icmp_gt (tgt := 14) hC dX5_within_7 rfl (fun h2 => ?_) (fun h2 => ?_)
    · refine r_iconst hC dX5_within_14 rfl ?_
      refine t_zret hK rfl dX5_within_15 (by omega) ?_
      exact k _ (by omega)
    · refine r_iconst hC dX5_within_10 rfl ?_
      refine r_goto (tgt := 15) hC dX5_within_11 rfl ?_
      refine t_zret hK rfl dX5_within_15 (by omega) ?_
      exact k _ (by omega)
theorem w_isLane {d : Nat} {Post : Option Vl → Mm → Prop} {τ : Mm} {a : Int} (k : ∀ r : Int, ((0 ≤ a ∧ a ≤ 3) ∧ r = 1) ∨ (¬ (0 ≤ a ∧ a ≤ 3) ∧ r = 0) → Post (some (vI r)) τ) : WP (d + 2) 125 [vI a] τ Post := by
  intro K hK
  have hK : StpF cX5_isLane RX5 (some .boolean) (WP (d + 1)) Post K := hK
  have hM := hK.1
  have hC := hK.1.1
  show K 0 [some (vI a)] [] τ
  refine r_iload_n hC dX5_isLane_0 rfl ?_
  refine r_iconst hC dX5_isLane_1 rfl ?_
  refine r_iconst hC dX5_isLane_2 rfl ?_
  refine m_ins3 hM dX5_isLane_3 tl_RX5_59 rfl (Nat.le_of_ble_eq_true rfl) (Nat.le_of_ble_eq_true rfl) ?_
  refine w_within (fun rh1 h1 => ?_)
  refine t_zret hK rfl dX5_isLane_6 (by omega) ?_
  exact k _ (by omega)
theorem w_isTime {d : Nat} {Post : Option Vl → Mm → Prop} {τ : Mm} {a : Int} (k : ∀ r : Int, ((0 ≤ a ∧ a ≤ 100000) ∧ r = 1) ∨ (¬ (0 ≤ a ∧ a ≤ 100000) ∧ r = 0) → Post (some (vI r)) τ) : WP (d + 2) 126 [vI a] τ Post := by
  intro K hK
  have hK : StpF cX5_isTime RX5 (some .boolean) (WP (d + 1)) Post K := hK
  have hM := hK.1
  have hC := hK.1.1
  show K 0 [some (vI a)] [] τ
  refine r_iload_n hC dX5_isTime_0 rfl ?_
  refine r_iconst hC dX5_isTime_1 rfl ?_
  refine r_ldcw hC dX5_isTime_2 co_RX5_284 rfl ?_
  refine m_ins3 hM dX5_isTime_5 tl_RX5_59 rfl (Nat.le_of_ble_eq_true rfl) (Nat.le_of_ble_eq_true rfl) ?_
  refine w_within (fun rh1 h1 => ?_)
  refine t_zret hK rfl dX5_isTime_8 (by omega) ?_
  exact k _ (by omega)
theorem w_isValue {d : Nat} {Post : Option Vl → Mm → Prop} {τ : Mm} {a : Int} (k : ∀ r : Int, ((-1000 ≤ a ∧ a ≤ 1000) ∧ r = 1) ∨ (¬ (-1000 ≤ a ∧ a ≤ 1000) ∧ r = 0) → Post (some (vI r)) τ) : WP (d + 2) 127 [vI a] τ Post := by
  intro K hK
  have hK : StpF cX5_isValue RX5 (some .boolean) (WP (d + 1)) Post K := hK
  have hM := hK.1
  have hC := hK.1.1
  show K 0 [some (vI a)] [] τ
  refine r_iload_n hC dX5_isValue_0 rfl ?_
  refine r_sipush hC dX5_isValue_1 rfl ?_
  refine r_sipush hC dX5_isValue_4 rfl ?_
  refine m_ins3 hM dX5_isValue_7 tl_RX5_59 rfl (Nat.le_of_ble_eq_true rfl) (Nat.le_of_ble_eq_true rfl) ?_
  refine w_within (fun rh1 h1 => ?_)
  refine t_zret hK rfl dX5_isValue_10 (by omega) ?_
  exact k _ (by omega)
theorem w_isGap {d : Nat} {Post : Option Vl → Mm → Prop} {τ : Mm} {a : Int} (k : ∀ r : Int, ((0 ≤ a ∧ a ≤ 100000) ∧ r = 1) ∨ (¬ (0 ≤ a ∧ a ≤ 100000) ∧ r = 0) → Post (some (vI r)) τ) : WP (d + 2) 128 [vI a] τ Post := by
  intro K hK
  have hK : StpF cX5_isGap RX5 (some .boolean) (WP (d + 1)) Post K := hK
  have hM := hK.1
  have hC := hK.1.1
  show K 0 [some (vI a)] [] τ
  refine r_iload_n hC dX5_isGap_0 rfl ?_
  refine r_iconst hC dX5_isGap_1 rfl ?_
  refine r_ldcw hC dX5_isGap_2 co_RX5_284 rfl ?_
  refine m_ins3 hM dX5_isGap_5 tl_RX5_59 rfl (Nat.le_of_ble_eq_true rfl) (Nat.le_of_ble_eq_true rfl) ?_
  refine w_within (fun rh1 h1 => ?_)
  refine t_zret hK rfl dX5_isGap_8 (by omega) ?_
  exact k _ (by omega)
theorem w_openLane0 {d : Nat} {Post : Option Vl → Mm → Prop} {τ : Mm} {l : Int} (hF : FrC τ) (k : Post (some vN) τ) : WP (d + 3) 129 [vR 2 0, vI l] τ Post := by
  intro K hK
  have hK : StpF cX5_openLane RX5 (some (.object "SlideFold$Lane")) (WP (d + 2)) Post K := hK
  have hM := hK.1
  have hC := hK.1.1
  show K 0 [some (vR 2 0), some (vI l)] [] τ
  refine r_iload_n hC dX5_openLane_0 rfl ?_
  refine m_ins1 hM dX5_openLane_1 tl_RX5_102 rfl (Nat.le_of_ble_eq_true rfl) (Nat.le_of_ble_eq_true rfl) ?_
  refine w_isLane (fun rh1 h1 => ?_)
  refine r_if_eq (tgt := 28) hC dX5_openLane_4 rfl (fun h2 => ?_) (fun h2 => ?_)
  · refine r_null hC dX5_openLane_28 ?_
    refine t_aret hK rfl dX5_openLane_29 ?_
    exact k
  · refine r_aload_n hC dX5_openLane_7 rfl ?_
    refine m_getR hM dX5_openLane_8 fl_RX5_13 rfl rfl (vld_of (n := 1) rfl (by omega) (by omega)) ?_
    refine r_iload_n hC dX5_openLane_11 rfl ?_
    refine m_aald hM dX5_openLane_12 rfl (by decide) (by omega) (by omega) (vld_of (n := 7) rfl (by omega) (by omega)) ?_
    refine m_getI (jz := 1) hM dX5_openLane_13 fl_RX5_94 rfl rfl rfl ?_
    have e1 := hF.1 l (by omega) (by omega)
    refine r_if_eq (tgt := 28) hC dX5_openLane_16 rfl (fun h3 => ?_) (fun h3 => by omega)
    refine r_null hC dX5_openLane_28 ?_
    refine t_aret hK rfl dX5_openLane_29 ?_
    exact k
theorem w_laneWith0 {d : Nat} {Post : Option Vl → Mm → Prop} {τ : Mm} {l w : Int} (hF : FrC τ) (k : Post (some vN) τ) : WP (d + 4) 130 [vR 2 0, vI l, vI w] τ Post := by
  intro K hK
  have hK : StpF cX5_laneWith RX5 (some (.object "SlideFold$Lane")) (WP (d + 3)) Post K := hK
  have hM := hK.1
  have hC := hK.1.1
  show K 0 [some (vR 2 0), some (vI l), some (vI w), none] [] τ
  refine r_aload_n hC dX5_laneWith_0 rfl ?_
  refine r_iload_n hC dX5_laneWith_1 rfl ?_
  refine m_inv1 hM dX5_laneWith_2 vl_RX5_123 rfl rfl rfl (Nat.le_of_ble_eq_true rfl) (Nat.le_of_ble_eq_true rfl) ?_
  refine w_openLane0 hF ?_
  refine r_astoreN_n hC dX5_laneWith_5 rfl ?_
  refine r_aloadN_n hC dX5_laneWith_6 rfl ?_
  refine r_ifnullN (tgt := 22) hC dX5_laneWith_7 rfl ?_
  refine r_null hC dX5_laneWith_22 ?_
  refine t_aret hK rfl dX5_laneWith_23 ?_
  exact k
theorem w_laneHolding0 {d : Nat} {Post : Option Vl → Mm → Prop} {τ : Mm} {l w : Int} (hF : FrC τ) (k : Post (some vN) τ) : WP (d + 4) 131 [vR 2 0, vI l, vI w] τ Post := by
  intro K hK
  have hK : StpF cX5_laneHolding RX5 (some (.object "SlideFold$Lane")) (WP (d + 3)) Post K := hK
  have hM := hK.1
  have hC := hK.1.1
  show K 0 [some (vR 2 0), some (vI l), some (vI w), none] [] τ
  refine r_aload_n hC dX5_laneHolding_0 rfl ?_
  refine r_iload_n hC dX5_laneHolding_1 rfl ?_
  refine m_inv1 hM dX5_laneHolding_2 vl_RX5_123 rfl rfl rfl (Nat.le_of_ble_eq_true rfl) (Nat.le_of_ble_eq_true rfl) ?_
  refine w_openLane0 hF ?_
  refine r_astoreN_n hC dX5_laneHolding_5 rfl ?_
  refine r_aloadN_n hC dX5_laneHolding_6 rfl ?_
  refine r_ifnullN (tgt := 28) hC dX5_laneHolding_7 rfl ?_
  refine r_null hC dX5_laneHolding_28 ?_
  refine t_aret hK rfl dX5_laneHolding_29 ?_
  exact k
theorem c0_shut {d : Nat} {Post : Option Vl → Mm → Prop} {τ : Mm} {l : Int} (hF : FrC τ) (k : Post (some (vI (0))) τ) : WP (d + 4) 60 [vR 2 0, vI l] τ Post := by
  intro K hK
  have hK : StpF cX5_shut RX5 (some .boolean) (WP (d + 3)) Post K := hK
  have hM := hK.1
  have hC := hK.1.1
  show K 0 [some (vR 2 0), some (vI l), none] [] τ
  refine r_aload_n hC dX5_shut_0 rfl ?_
  refine r_iload_n hC dX5_shut_1 rfl ?_
  refine m_inv1 hM dX5_shut_2 vl_RX5_123 rfl rfl rfl (Nat.le_of_ble_eq_true rfl) (Nat.le_of_ble_eq_true rfl) ?_
  refine w_openLane0 hF ?_
  refine r_astoreN_n hC dX5_shut_5 rfl ?_
  refine r_aloadN_n hC dX5_shut_6 rfl ?_
  refine r_ifnonnullN hC dX5_shut_7 ?_
  refine r_iconst hC dX5_shut_10 rfl ?_
  refine t_zret hK rfl dX5_shut_11 (by omega) ?_
  exact k
theorem c0_come {d : Nat} {Post : Option Vl → Mm → Prop} {τ : Mm} {l t v : Int} (hF : FrC τ) (k : Post (some (vI (-1))) τ) : WP (d + 4) 61 [vR 2 0, vI l, vI t, vI v] τ Post := by
  intro K hK
  have hK : StpF cX5_come RX5 (some .int) (WP (d + 3)) Post K := hK
  have hM := hK.1
  have hC := hK.1.1
  show K 0 [some (vR 2 0), some (vI l), some (vI t), some (vI v), none] [] τ
  refine r_aload_n hC dX5_come_0 rfl ?_
  refine r_iload_n hC dX5_come_1 rfl ?_
  refine m_inv1 hM dX5_come_2 vl_RX5_123 rfl rfl rfl (Nat.le_of_ble_eq_true rfl) (Nat.le_of_ble_eq_true rfl) ?_
  refine w_openLane0 hF ?_
  refine r_astoreN hC dX5_come_5 rfl ?_
  refine r_aloadN hC dX5_come_7 rfl ?_
  refine r_ifnullN (tgt := 26) hC dX5_come_9 rfl ?_
  refine r_iconst hC dX5_come_26 rfl ?_
  refine t_iret hK rfl dX5_come_27 ?_
  exact k
theorem c0_burst {d : Nat} {Post : Option Vl → Mm → Prop} {τ : Mm} {l m v z : Int} (hF : FrC τ) (k : Post (some (vI (-1))) τ) : WP (d + 4) 62 [vR 2 0, vI l, vI m, vI v, vI z] τ Post := by
  intro K hK
  have hK : StpF cX5_burst RX5 (some .int) (WP (d + 3)) Post K := hK
  have hM := hK.1
  have hC := hK.1.1
  show K 0 [some (vR 2 0), some (vI l), some (vI m), some (vI v), some (vI z), none, none, none] [] τ
  refine r_aload_n hC dX5_burst_0 rfl ?_
  refine r_iload_n hC dX5_burst_1 rfl ?_
  refine m_inv1 hM dX5_burst_2 vl_RX5_123 rfl rfl rfl (Nat.le_of_ble_eq_true rfl) (Nat.le_of_ble_eq_true rfl) ?_
  refine w_openLane0 hF ?_
  refine r_astoreN hC dX5_burst_5 rfl ?_
  refine r_aloadN hC dX5_burst_7 rfl ?_
  refine r_ifnullN (tgt := 36) hC dX5_burst_9 rfl ?_
  refine r_iconst hC dX5_burst_36 rfl ?_
  refine t_iret hK rfl dX5_burst_37 ?_
  exact k
theorem c0_leave {d : Nat} {Post : Option Vl → Mm → Prop} {τ : Mm} {l m : Int} (hF : FrC τ) (k : Post (some (vI (-1))) τ) : WP (d + 4) 63 [vR 2 0, vI l, vI m] τ Post := by
  intro K hK
  have hK : StpF cX5_leave RX5 (some .int) (WP (d + 3)) Post K := hK
  have hM := hK.1
  have hC := hK.1.1
  show K 0 [some (vR 2 0), some (vI l), some (vI m), none, none] [] τ
  refine r_aload_n hC dX5_leave_0 rfl ?_
  refine r_iload_n hC dX5_leave_1 rfl ?_
  refine m_inv1 hM dX5_leave_2 vl_RX5_123 rfl rfl rfl (Nat.le_of_ble_eq_true rfl) (Nat.le_of_ble_eq_true rfl) ?_
  refine w_openLane0 hF ?_
  refine r_astoreN_n hC dX5_leave_5 rfl ?_
  refine r_aloadN_n hC dX5_leave_6 rfl ?_
  refine r_ifnullN (tgt := 22) hC dX5_leave_7 rfl ?_
  refine r_iconst hC dX5_leave_22 rfl ?_
  refine t_iret hK rfl dX5_leave_23 ?_
  exact k
theorem c0_until {d : Nat} {Post : Option Vl → Mm → Prop} {τ : Mm} {l t : Int} (hF : FrC τ) (k : Post (some (vI (-1))) τ) : WP (d + 4) 64 [vR 2 0, vI l, vI t] τ Post := by
  intro K hK
  have hK : StpF cX5_until RX5 (some .int) (WP (d + 3)) Post K := hK
  have hM := hK.1
  have hC := hK.1.1
  show K 0 [some (vR 2 0), some (vI l), some (vI t), none, none, none] [] τ
  refine r_aload_n hC dX5_until_0 rfl ?_
  refine r_iload_n hC dX5_until_1 rfl ?_
  refine m_inv1 hM dX5_until_2 vl_RX5_123 rfl rfl rfl (Nat.le_of_ble_eq_true rfl) (Nat.le_of_ble_eq_true rfl) ?_
  refine w_openLane0 hF ?_
  refine r_astoreN_n hC dX5_until_5 rfl ?_
  refine r_aloadN_n hC dX5_until_6 rfl ?_
  refine r_ifnonnullN hC dX5_until_7 ?_
  refine r_iconst hC dX5_until_10 rfl ?_
  refine t_iret hK rfl dX5_until_11 ?_
  exact k
theorem c0_take {d : Nat} {Post : Option Vl → Mm → Prop} {τ : Mm} {l v : Int} (hF : FrC τ) (k : Post (some (vI (-2147483648))) τ) : WP (d + 5) 65 [vR 2 0, vI l, vI v] τ Post := by
  intro K hK
  have hK : StpF cX5_take RX5 (some .int) (WP (d + 4)) Post K := hK
  have hM := hK.1
  have hC := hK.1.1
  show K 0 [some (vR 2 0), some (vI l), some (vI v), none, none] [] τ
  refine r_aload_n hC dX5_take_0 rfl ?_
  refine r_iload_n hC dX5_take_1 rfl ?_
  refine r_iload_n hC dX5_take_2 rfl ?_
  refine m_inv2 hM dX5_take_3 vl_RX5_171 rfl rfl rfl (Nat.le_of_ble_eq_true rfl) (Nat.le_of_ble_eq_true rfl) ?_
  refine w_laneHolding0 hF ?_
  refine r_astoreN_n hC dX5_take_6 rfl ?_
  refine r_aloadN_n hC dX5_take_7 rfl ?_
  refine r_ifnonnullN hC dX5_take_8 ?_
  refine r_ldc hC dX5_take_11 co_RX5_175 rfl ?_
  refine t_iret hK rfl dX5_take_13 ?_
  exact k
theorem c0_alter {d : Nat} {Post : Option Vl → Mm → Prop} {τ : Mm} {l i v : Int} (hF : FrC τ) (k : Post (some (vI (0))) τ) : WP (d + 5) 66 [vR 2 0, vI l, vI i, vI v] τ Post := by
  intro K hK
  have hK : StpF cX5_alter RX5 (some .boolean) (WP (d + 4)) Post K := hK
  have hM := hK.1
  have hC := hK.1.1
  show K 0 [some (vR 2 0), some (vI l), some (vI i), some (vI v), none] [] τ
  refine r_aload_n hC dX5_alter_0 rfl ?_
  refine r_iload_n hC dX5_alter_1 rfl ?_
  refine r_iload_n hC dX5_alter_2 rfl ?_
  refine m_inv2 hM dX5_alter_3 vl_RX5_171 rfl rfl rfl (Nat.le_of_ble_eq_true rfl) (Nat.le_of_ble_eq_true rfl) ?_
  refine w_laneHolding0 hF ?_
  refine r_astoreN hC dX5_alter_6 rfl ?_
  refine r_aloadN hC dX5_alter_8 rfl ?_
  refine r_ifnullN (tgt := 20) hC dX5_alter_10 rfl ?_
  refine r_iconst hC dX5_alter_20 rfl ?_
  refine t_zret hK rfl dX5_alter_21 (by omega) ?_
  exact k
theorem c0_event {d : Nat} {Post : Option Vl → Mm → Prop} {τ : Mm} {l i w : Int} (hF : FrC τ) (k : Post (some (vI (-2147483648))) τ) : WP (d + 5) 72 [vR 2 0, vI l, vI i, vI w] τ Post := by
  intro K hK
  have hK : StpF cX5_event RX5 (some .int) (WP (d + 4)) Post K := hK
  have hM := hK.1
  have hC := hK.1.1
  show K 0 [some (vR 2 0), some (vI l), some (vI i), some (vI w), none] [] τ
  refine r_aload_n hC dX5_event_0 rfl ?_
  refine r_iload_n hC dX5_event_1 rfl ?_
  refine r_iload_n hC dX5_event_2 rfl ?_
  refine m_inv2 hM dX5_event_3 vl_RX5_171 rfl rfl rfl (Nat.le_of_ble_eq_true rfl) (Nat.le_of_ble_eq_true rfl) ?_
  refine w_laneHolding0 hF ?_
  refine r_astoreN hC dX5_event_6 rfl ?_
  refine r_aloadN hC dX5_event_8 rfl ?_
  refine r_ifnonnullN hC dX5_event_10 ?_
  refine r_ldc hC dX5_event_13 co_RX5_175 rfl ?_
  refine t_iret hK rfl dX5_event_15 ?_
  exact k
theorem c0_total {d : Nat} {Post : Option Vl → Mm → Prop} {τ : Mm} {l w : Int} (hF : FrC τ) (k : Post (some (vI (-2147483648))) τ) : WP (d + 5) 73 [vR 2 0, vI l, vI w] τ Post := by
  intro K hK
  have hK : StpF cX5_total RX5 (some .int) (WP (d + 4)) Post K := hK
  have hM := hK.1
  have hC := hK.1.1
  show K 0 [some (vR 2 0), some (vI l), some (vI w), none] [] τ
  refine r_aload_n hC dX5_total_0 rfl ?_
  refine r_iload_n hC dX5_total_1 rfl ?_
  refine r_iload_n hC dX5_total_2 rfl ?_
  refine m_inv2 hM dX5_total_3 vl_RX5_248 rfl rfl rfl (Nat.le_of_ble_eq_true rfl) (Nat.le_of_ble_eq_true rfl) ?_
  refine w_laneWith0 hF ?_
  refine r_astoreN_n hC dX5_total_6 rfl ?_
  refine r_aloadN_n hC dX5_total_7 rfl ?_
  refine r_ifnonnullN hC dX5_total_8 ?_
  refine r_ldc hC dX5_total_11 co_RX5_175 rfl ?_
  refine r_goto (tgt := 27) hC dX5_total_13 rfl ?_
  refine t_iret hK rfl dX5_total_27 ?_
  exact k
theorem c0_part {d : Nat} {Post : Option Vl → Mm → Prop} {τ : Mm} {l f t w : Int} (hF : FrC τ) (k : Post (some (vI (-2147483648))) τ) : WP (d + 5) 74 [vR 2 0, vI l, vI f, vI t, vI w] τ Post := by
  intro K hK
  have hK : StpF cX5_part RX5 (some .int) (WP (d + 4)) Post K := hK
  have hM := hK.1
  have hC := hK.1.1
  show K 0 [some (vR 2 0), some (vI l), some (vI f), some (vI t), some (vI w), none] [] τ
  refine r_aload_n hC dX5_part_0 rfl ?_
  refine r_iload_n hC dX5_part_1 rfl ?_
  refine r_iload hC dX5_part_2 rfl ?_
  refine m_inv2 hM dX5_part_4 vl_RX5_248 rfl rfl rfl (Nat.le_of_ble_eq_true rfl) (Nat.le_of_ble_eq_true rfl) ?_
  refine w_laneWith0 hF ?_
  refine r_astoreN hC dX5_part_7 rfl ?_
  refine r_aloadN hC dX5_part_9 rfl ?_
  refine r_ifnullN (tgt := 32) hC dX5_part_11 rfl ?_
  refine r_ldc hC dX5_part_32 co_RX5_175 rfl ?_
  refine t_iret hK rfl dX5_part_34 ?_
  exact k
theorem c0_during {d : Nat} {Post : Option Vl → Mm → Prop} {τ : Mm} {l f t w : Int} (hF : FrC τ) (k : Post (some (vI (-2147483648))) τ) : WP (d + 5) 75 [vR 2 0, vI l, vI f, vI t, vI w] τ Post := by
  intro K hK
  have hK : StpF cX5_during RX5 (some .int) (WP (d + 4)) Post K := hK
  have hM := hK.1
  have hC := hK.1.1
  show K 0 [some (vR 2 0), some (vI l), some (vI f), some (vI t), some (vI w), none] [] τ
  refine r_aload_n hC dX5_during_0 rfl ?_
  refine r_iload_n hC dX5_during_1 rfl ?_
  refine r_iload hC dX5_during_2 rfl ?_
  refine m_inv2 hM dX5_during_4 vl_RX5_248 rfl rfl rfl (Nat.le_of_ble_eq_true rfl) (Nat.le_of_ble_eq_true rfl) ?_
  refine w_laneWith0 hF ?_
  refine r_astoreN hC dX5_during_7 rfl ?_
  refine r_aloadN hC dX5_during_9 rfl ?_
  refine r_ifnonnullN hC dX5_during_11 ?_
  refine r_ldc hC dX5_during_14 co_RX5_175 rfl ?_
  refine r_goto (tgt := 43) hC dX5_during_16 rfl ?_
  refine t_iret hK rfl dX5_during_43 ?_
  exact k
theorem c0_many {d : Nat} {Post : Option Vl → Mm → Prop} {τ : Mm} {l f t : Int} (hF : FrC τ) (k : Post (some (vI (-1))) τ) : WP (d + 4) 76 [vR 2 0, vI l, vI f, vI t] τ Post := by
  intro K hK
  have hK : StpF cX5_many RX5 (some .int) (WP (d + 3)) Post K := hK
  have hM := hK.1
  have hC := hK.1.1
  show K 0 [some (vR 2 0), some (vI l), some (vI f), some (vI t), none] [] τ
  refine r_aload_n hC dX5_many_0 rfl ?_
  refine r_iload_n hC dX5_many_1 rfl ?_
  refine m_inv1 hM dX5_many_2 vl_RX5_123 rfl rfl rfl (Nat.le_of_ble_eq_true rfl) (Nat.le_of_ble_eq_true rfl) ?_
  refine w_openLane0 hF ?_
  refine r_astoreN hC dX5_many_5 rfl ?_
  refine r_aloadN hC dX5_many_7 rfl ?_
  refine r_ifnonnullN hC dX5_many_9 ?_
  refine r_iconst hC dX5_many_12 rfl ?_
  refine r_goto (tgt := 37) hC dX5_many_13 rfl ?_
  refine t_iret hK rfl dX5_many_37 ?_
  exact k
theorem c0_reach {d : Nat} {Post : Option Vl → Mm → Prop} {τ : Mm} {l w b : Int} (hF : FrC τ) (k : Post (some (vI (-1))) τ) : WP (d + 5) 77 [vR 2 0, vI l, vI w, vI b] τ Post := by
  intro K hK
  have hK : StpF cX5_reach RX5 (some .int) (WP (d + 4)) Post K := hK
  have hM := hK.1
  have hC := hK.1.1
  show K 0 [some (vR 2 0), some (vI l), some (vI w), some (vI b), none, none] [] τ
  refine r_aload_n hC dX5_reach_0 rfl ?_
  refine r_iload_n hC dX5_reach_1 rfl ?_
  refine r_iload_n hC dX5_reach_2 rfl ?_
  refine m_inv2 hM dX5_reach_3 vl_RX5_248 rfl rfl rfl (Nat.le_of_ble_eq_true rfl) (Nat.le_of_ble_eq_true rfl) ?_
  refine w_laneWith0 hF ?_
  refine r_astoreN hC dX5_reach_6 rfl ?_
  refine r_aloadN hC dX5_reach_8 rfl ?_
  refine r_ifnonnullN hC dX5_reach_10 ?_
  refine r_iconst hC dX5_reach_13 rfl ?_
  refine t_iret hK rfl dX5_reach_14 ?_
  exact k
theorem c0_reachBack {d : Nat} {Post : Option Vl → Mm → Prop} {τ : Mm} {l w b : Int} (hF : FrC τ) (k : Post (some (vI (-1))) τ) : WP (d + 5) 78 [vR 2 0, vI l, vI w, vI b] τ Post := by
  intro K hK
  have hK : StpF cX5_reachBack RX5 (some .int) (WP (d + 4)) Post K := hK
  have hM := hK.1
  have hC := hK.1.1
  show K 0 [some (vR 2 0), some (vI l), some (vI w), some (vI b), none, none] [] τ
  refine r_aload_n hC dX5_reachBack_0 rfl ?_
  refine r_iload_n hC dX5_reachBack_1 rfl ?_
  refine r_iload_n hC dX5_reachBack_2 rfl ?_
  refine m_inv2 hM dX5_reachBack_3 vl_RX5_248 rfl rfl rfl (Nat.le_of_ble_eq_true rfl) (Nat.le_of_ble_eq_true rfl) ?_
  refine w_laneWith0 hF ?_
  refine r_astoreN hC dX5_reachBack_6 rfl ?_
  refine r_aloadN hC dX5_reachBack_8 rfl ?_
  refine r_ifnonnullN hC dX5_reachBack_10 ?_
  refine r_iconst hC dX5_reachBack_13 rfl ?_
  refine t_iret hK rfl dX5_reachBack_14 ?_
  exact k
theorem c0_peakAt {d : Nat} {Post : Option Vl → Mm → Prop} {τ : Mm} {l m w : Int} (hF : FrC τ) (k : Post (some (vI (-1))) τ) : WP (d + 5) 80 [vR 2 0, vI l, vI m, vI w] τ Post := by
  intro K hK
  have hK : StpF cX5_peakAt RX5 (some .int) (WP (d + 4)) Post K := hK
  have hM := hK.1
  have hC := hK.1.1
  show K 0 [some (vR 2 0), some (vI l), some (vI m), some (vI w), none, none, none, none, none] [] τ
  refine r_aload_n hC dX5_peakAt_0 rfl ?_
  refine r_iload_n hC dX5_peakAt_1 rfl ?_
  refine r_iload_n hC dX5_peakAt_2 rfl ?_
  refine m_inv2 hM dX5_peakAt_3 vl_RX5_248 rfl rfl rfl (Nat.le_of_ble_eq_true rfl) (Nat.le_of_ble_eq_true rfl) ?_
  refine w_laneWith0 hF ?_
  refine r_astoreN hC dX5_peakAt_6 rfl ?_
  refine r_aloadN hC dX5_peakAt_8 rfl ?_
  refine r_ifnullN (tgt := 26) hC dX5_peakAt_10 rfl ?_
  refine r_iconst hC dX5_peakAt_26 rfl ?_
  refine t_iret hK rfl dX5_peakAt_27 ?_
  exact k
theorem c0_without {d : Nat} {Post : Option Vl → Mm → Prop} {τ : Mm} {l i w : Int} (hF : FrC τ) (k : Post (some (vI (-2147483648))) τ) : WP (d + 5) 81 [vR 2 0, vI l, vI i, vI w] τ Post := by
  intro K hK
  have hK : StpF cX5_without RX5 (some .int) (WP (d + 4)) Post K := hK
  have hM := hK.1
  have hC := hK.1.1
  show K 0 [some (vR 2 0), some (vI l), some (vI i), some (vI w), none] [] τ
  refine r_aload_n hC dX5_without_0 rfl ?_
  refine r_iload_n hC dX5_without_1 rfl ?_
  refine r_iload_n hC dX5_without_2 rfl ?_
  refine m_inv2 hM dX5_without_3 vl_RX5_171 rfl rfl rfl (Nat.le_of_ble_eq_true rfl) (Nat.le_of_ble_eq_true rfl) ?_
  refine w_laneHolding0 hF ?_
  refine r_astoreN hC dX5_without_6 rfl ?_
  refine r_aloadN hC dX5_without_8 rfl ?_
  refine r_ifnullN (tgt := 22) hC dX5_without_10 rfl ?_
  refine r_ldc hC dX5_without_22 co_RX5_175 rfl ?_
  refine r_goto (tgt := 35) hC dX5_without_24 rfl ?_
  refine t_iret hK rfl dX5_without_35 ?_
  exact k
theorem c0_spare {d : Nat} {Post : Option Vl → Mm → Prop} {τ : Mm} {l w : Int} (hF : FrC τ) (k : Post (some (vI (-1))) τ) : WP (d + 5) 82 [vR 2 0, vI l, vI w] τ Post := by
  intro K hK
  have hK : StpF cX5_spare RX5 (some .int) (WP (d + 4)) Post K := hK
  have hM := hK.1
  have hC := hK.1.1
  show K 0 [some (vR 2 0), some (vI l), some (vI w), none, none, none, none, none] [] τ
  refine r_aload_n hC dX5_spare_0 rfl ?_
  refine r_iload_n hC dX5_spare_1 rfl ?_
  refine r_iload_n hC dX5_spare_2 rfl ?_
  refine m_inv2 hM dX5_spare_3 vl_RX5_248 rfl rfl rfl (Nat.le_of_ble_eq_true rfl) (Nat.le_of_ble_eq_true rfl) ?_
  refine w_laneWith0 hF ?_
  refine r_astoreN_n hC dX5_spare_6 rfl ?_
  refine r_aloadN_n hC dX5_spare_7 rfl ?_
  refine r_ifnullN (tgt := 19) hC dX5_spare_8 rfl ?_
  refine r_iconst hC dX5_spare_19 rfl ?_
  refine t_iret hK rfl dX5_spare_20 ?_
  exact k
theorem c0_turned {d : Nat} {Post : Option Vl → Mm → Prop} {τ : Mm} {l w : Int} (hF : FrC τ) (k : Post (some (vI (-2147483648))) τ) : WP (d + 5) 83 [vR 2 0, vI l, vI w] τ Post := by
  intro K hK
  have hK : StpF cX5_turned RX5 (some .int) (WP (d + 4)) Post K := hK
  have hM := hK.1
  have hC := hK.1.1
  show K 0 [some (vR 2 0), some (vI l), some (vI w), none, none] [] τ
  refine r_aload_n hC dX5_turned_0 rfl ?_
  refine r_iload_n hC dX5_turned_1 rfl ?_
  refine r_iload_n hC dX5_turned_2 rfl ?_
  refine m_inv2 hM dX5_turned_3 vl_RX5_248 rfl rfl rfl (Nat.le_of_ble_eq_true rfl) (Nat.le_of_ble_eq_true rfl) ?_
  refine w_laneWith0 hF ?_
  refine r_astoreN_n hC dX5_turned_6 rfl ?_
  refine r_aloadN_n hC dX5_turned_7 rfl ?_
  refine r_ifnonnullN hC dX5_turned_8 ?_
  refine r_ldc hC dX5_turned_11 co_RX5_175 rfl ?_
  refine t_iret hK rfl dX5_turned_13 ?_
  exact k
theorem c0_commutes {d : Nat} {Post : Option Vl → Mm → Prop} {τ : Mm} {l i : Int} (hF : FrC τ) (k : Post (some (vI (-1))) τ) : WP (d + 5) 84 [vR 2 0, vI l, vI i] τ Post := by
  intro K hK
  have hK : StpF cX5_commutes RX5 (some .int) (WP (d + 4)) Post K := hK
  have hM := hK.1
  have hC := hK.1.1
  show K 0 [some (vR 2 0), some (vI l), some (vI i), none, none, none] [] τ
  refine r_aload_n hC dX5_commutes_0 rfl ?_
  refine r_iload_n hC dX5_commutes_1 rfl ?_
  refine r_iload_n hC dX5_commutes_2 rfl ?_
  refine m_inv2 hM dX5_commutes_3 vl_RX5_171 rfl rfl rfl (Nat.le_of_ble_eq_true rfl) (Nat.le_of_ble_eq_true rfl) ?_
  refine w_laneHolding0 hF ?_
  refine r_astoreN_n hC dX5_commutes_6 rfl ?_
  refine r_aloadN_n hC dX5_commutes_7 rfl ?_
  refine r_ifnullN (tgt := 21) hC dX5_commutes_8 rfl ?_
  refine r_iconst hC dX5_commutes_21 rfl ?_
  refine t_iret hK rfl dX5_commutes_22 ?_
  exact k
theorem c0_joined {d : Nat} {Post : Option Vl → Mm → Prop} {τ : Mm} {l o w : Int} (hF : FrC τ) (k : Post (some (vI (-2147483648))) τ) : WP (d + 5) 86 [vR 2 0, vI l, vI o, vI w] τ Post := by
  intro K hK
  have hK : StpF cX5_joined RX5 (some .int) (WP (d + 4)) Post K := hK
  have hM := hK.1
  have hC := hK.1.1
  show K 0 [some (vR 2 0), some (vI l), some (vI o), some (vI w), none, none, none] [] τ
  refine r_aload_n hC dX5_joined_0 rfl ?_
  refine r_iload_n hC dX5_joined_1 rfl ?_
  refine r_iload_n hC dX5_joined_2 rfl ?_
  refine m_inv2 hM dX5_joined_3 vl_RX5_248 rfl rfl rfl (Nat.le_of_ble_eq_true rfl) (Nat.le_of_ble_eq_true rfl) ?_
  refine w_laneWith0 hF ?_
  refine r_astoreN hC dX5_joined_6 rfl ?_
  refine r_aload_n hC dX5_joined_8 rfl ?_
  refine r_iload_n hC dX5_joined_9 rfl ?_
  refine m_inv1 hM dX5_joined_10 vl_RX5_123 rfl rfl rfl (Nat.le_of_ble_eq_true rfl) (Nat.le_of_ble_eq_true rfl) ?_
  refine w_openLane0 hF ?_
  refine r_astoreN hC dX5_joined_13 rfl ?_
  refine r_aloadN hC dX5_joined_15 rfl ?_
  refine r_ifnullN (tgt := 38) hC dX5_joined_17 rfl ?_
  refine r_ldc hC dX5_joined_38 co_RX5_175 rfl ?_
  refine t_iret hK rfl dX5_joined_40 ?_
  exact k
theorem c0_woven {d : Nat} {Post : Option Vl → Mm → Prop} {τ : Mm} {l o w : Int} (hF : FrC τ) (k : Post (some (vI (-2147483648))) τ) : WP (d + 5) 87 [vR 2 0, vI l, vI o, vI w] τ Post := by
  intro K hK
  have hK : StpF cX5_woven RX5 (some .int) (WP (d + 4)) Post K := hK
  have hM := hK.1
  have hC := hK.1.1
  show K 0 [some (vR 2 0), some (vI l), some (vI o), some (vI w), none, none, none, none, none, none] [] τ
  refine r_aload_n hC dX5_woven_0 rfl ?_
  refine r_iload_n hC dX5_woven_1 rfl ?_
  refine r_iload_n hC dX5_woven_2 rfl ?_
  refine m_inv2 hM dX5_woven_3 vl_RX5_248 rfl rfl rfl (Nat.le_of_ble_eq_true rfl) (Nat.le_of_ble_eq_true rfl) ?_
  refine w_laneWith0 hF ?_
  refine r_astoreN hC dX5_woven_6 rfl ?_
  refine r_aload_n hC dX5_woven_8 rfl ?_
  refine r_iload_n hC dX5_woven_9 rfl ?_
  refine m_inv1 hM dX5_woven_10 vl_RX5_123 rfl rfl rfl (Nat.le_of_ble_eq_true rfl) (Nat.le_of_ble_eq_true rfl) ?_
  refine w_openLane0 hF ?_
  refine r_astoreN hC dX5_woven_13 rfl ?_
  refine r_aloadN hC dX5_woven_15 rfl ?_
  refine r_ifnullN (tgt := 38) hC dX5_woven_17 rfl ?_
  refine r_ldc hC dX5_woven_38 co_RX5_175 rfl ?_
  refine t_iret hK rfl dX5_woven_40 ?_
  exact k
theorem c0_same {d : Nat} {Post : Option Vl → Mm → Prop} {τ : Mm} {l o : Int} (hF : FrC τ) (k : Post (some (vI (-1))) τ) : WP (d + 4) 88 [vR 2 0, vI l, vI o] τ Post := by
  intro K hK
  have hK : StpF cX5_same RX5 (some .int) (WP (d + 3)) Post K := hK
  have hM := hK.1
  have hC := hK.1.1
  show K 0 [some (vR 2 0), some (vI l), some (vI o), none, none] [] τ
  refine r_aload_n hC dX5_same_0 rfl ?_
  refine r_iload_n hC dX5_same_1 rfl ?_
  refine m_inv1 hM dX5_same_2 vl_RX5_123 rfl rfl rfl (Nat.le_of_ble_eq_true rfl) (Nat.le_of_ble_eq_true rfl) ?_
  refine w_openLane0 hF ?_
  refine r_astoreN_n hC dX5_same_5 rfl ?_
  refine r_aload_n hC dX5_same_6 rfl ?_
  refine r_iload_n hC dX5_same_7 rfl ?_
  refine m_inv1 hM dX5_same_8 vl_RX5_123 rfl rfl rfl (Nat.le_of_ble_eq_true rfl) (Nat.le_of_ble_eq_true rfl) ?_
  refine w_openLane0 hF ?_
  refine r_astoreN hC dX5_same_11 rfl ?_
  refine r_aloadN_n hC dX5_same_13 rfl ?_
  refine r_ifnullN (tgt := 34) hC dX5_same_14 rfl ?_
  refine r_iconst hC dX5_same_34 rfl ?_
  refine t_iret hK rfl dX5_same_35 ?_
  exact k
theorem c0_panes {d : Nat} {Post : Option Vl → Mm → Prop} {τ : Mm} {l w : Int} (hF : FrC τ) (k : Post (some (vI (-1))) τ) : WP (d + 4) 89 [vR 2 0, vI l, vI w] τ Post := by
  intro K hK
  have hK : StpF cX5_panes RX5 (some .int) (WP (d + 3)) Post K := hK
  have hM := hK.1
  have hC := hK.1.1
  show K 0 [some (vR 2 0), some (vI l), some (vI w), none, none, none, none, none] [] τ
  refine r_aload_n hC dX5_panes_0 rfl ?_
  refine r_iload_n hC dX5_panes_1 rfl ?_
  refine m_inv1 hM dX5_panes_2 vl_RX5_123 rfl rfl rfl (Nat.le_of_ble_eq_true rfl) (Nat.le_of_ble_eq_true rfl) ?_
  refine w_openLane0 hF ?_
  refine r_astoreN_n hC dX5_panes_5 rfl ?_
  refine r_aloadN_n hC dX5_panes_6 rfl ?_
  refine r_ifnullN (tgt := 21) hC dX5_panes_7 rfl ?_
  refine r_iconst hC dX5_panes_21 rfl ?_
  refine t_iret hK rfl dX5_panes_22 ?_
  exact k
theorem c0_fullest {d : Nat} {Post : Option Vl → Mm → Prop} {τ : Mm} {l w : Int} (hF : FrC τ) (k : Post (some (vI (-1))) τ) : WP (d + 4) 90 [vR 2 0, vI l, vI w] τ Post := by
  intro K hK
  have hK : StpF cX5_fullest RX5 (some .int) (WP (d + 3)) Post K := hK
  have hM := hK.1
  have hC := hK.1.1
  show K 0 [some (vR 2 0), some (vI l), some (vI w), none, none, none, none, none, none, none] [] τ
  refine r_aload_n hC dX5_fullest_0 rfl ?_
  refine r_iload_n hC dX5_fullest_1 rfl ?_
  refine m_inv1 hM dX5_fullest_2 vl_RX5_123 rfl rfl rfl (Nat.le_of_ble_eq_true rfl) (Nat.le_of_ble_eq_true rfl) ?_
  refine w_openLane0 hF ?_
  refine r_astoreN_n hC dX5_fullest_5 rfl ?_
  refine r_aloadN_n hC dX5_fullest_6 rfl ?_
  refine r_ifnullN (tgt := 21) hC dX5_fullest_7 rfl ?_
  refine r_iconst hC dX5_fullest_21 rfl ?_
  refine t_iret hK rfl dX5_fullest_22 ?_
  exact k
theorem c0_sessions {d : Nat} {Post : Option Vl → Mm → Prop} {τ : Mm} {l w : Int} (hF : FrC τ) (k : Post (some (vI (-1))) τ) : WP (d + 4) 91 [vR 2 0, vI l, vI w] τ Post := by
  intro K hK
  have hK : StpF cX5_sessions RX5 (some .int) (WP (d + 3)) Post K := hK
  have hM := hK.1
  have hC := hK.1.1
  show K 0 [some (vR 2 0), some (vI l), some (vI w), none, none, none] [] τ
  refine r_aload_n hC dX5_sessions_0 rfl ?_
  refine r_iload_n hC dX5_sessions_1 rfl ?_
  refine m_inv1 hM dX5_sessions_2 vl_RX5_123 rfl rfl rfl (Nat.le_of_ble_eq_true rfl) (Nat.le_of_ble_eq_true rfl) ?_
  refine w_openLane0 hF ?_
  refine r_astoreN_n hC dX5_sessions_5 rfl ?_
  refine r_aloadN_n hC dX5_sessions_6 rfl ?_
  refine r_ifnullN (tgt := 17) hC dX5_sessions_7 rfl ?_
  refine r_iconst hC dX5_sessions_17 rfl ?_
  refine t_iret hK rfl dX5_sessions_18 ?_
  exact k
theorem c0_session {d : Nat} {Post : Option Vl → Mm → Prop} {τ : Mm} {l a b w : Int} (hF : FrC τ) (k : Post (some (vI (-2147483648))) τ) : WP (d + 5) 92 [vR 2 0, vI l, vI a, vI b, vI w] τ Post := by
  intro K hK
  have hK : StpF cX5_session RX5 (some .int) (WP (d + 4)) Post K := hK
  have hM := hK.1
  have hC := hK.1.1
  show K 0 [some (vR 2 0), some (vI l), some (vI a), some (vI b), some (vI w), none, none, none] [] τ
  refine r_aload_n hC dX5_session_0 rfl ?_
  refine r_iload_n hC dX5_session_1 rfl ?_
  refine r_iload hC dX5_session_2 rfl ?_
  refine m_inv2 hM dX5_session_4 vl_RX5_248 rfl rfl rfl (Nat.le_of_ble_eq_true rfl) (Nat.le_of_ble_eq_true rfl) ?_
  refine w_laneWith0 hF ?_
  refine r_astoreN hC dX5_session_7 rfl ?_
  refine r_aloadN hC dX5_session_9 rfl ?_
  refine r_ifnullN (tgt := 25) hC dX5_session_11 rfl ?_
  refine r_ldc hC dX5_session_25 co_RX5_175 rfl ?_
  refine t_iret hK rfl dX5_session_27 ?_
  exact k
theorem c0_longest {d : Nat} {Post : Option Vl → Mm → Prop} {τ : Mm} {l w : Int} (hF : FrC τ) (k : Post (some (vI (-1))) τ) : WP (d + 4) 93 [vR 2 0, vI l, vI w] τ Post := by
  intro K hK
  have hK : StpF cX5_longest RX5 (some .int) (WP (d + 3)) Post K := hK
  have hM := hK.1
  have hC := hK.1.1
  show K 0 [some (vR 2 0), some (vI l), some (vI w), none, none, none, none, none, none, none] [] τ
  refine r_aload_n hC dX5_longest_0 rfl ?_
  refine r_iload_n hC dX5_longest_1 rfl ?_
  refine m_inv1 hM dX5_longest_2 vl_RX5_123 rfl rfl rfl (Nat.le_of_ble_eq_true rfl) (Nat.le_of_ble_eq_true rfl) ?_
  refine w_openLane0 hF ?_
  refine r_astoreN_n hC dX5_longest_5 rfl ?_
  refine r_aloadN_n hC dX5_longest_6 rfl ?_
  refine r_ifnullN (tgt := 17) hC dX5_longest_7 rfl ?_
  refine r_iconst hC dX5_longest_17 rfl ?_
  refine t_iret hK rfl dX5_longest_18 ?_
  exact k
theorem c0_state {d : Nat} {Post : Option Vl → Mm → Prop} {τ : Mm} {l w : Int} (hF : FrC τ) (k : Post (some (vI (-1))) τ) : WP (d + 4) 94 [vR 2 0, vI l, vI w] τ Post := by
  intro K hK
  have hK : StpF cX5_state RX5 (some .int) (WP (d + 3)) Post K := hK
  have hM := hK.1
  have hC := hK.1.1
  show K 0 [some (vR 2 0), some (vI l), some (vI w), none] [] τ
  refine r_aload_n hC dX5_state_0 rfl ?_
  refine r_iload_n hC dX5_state_1 rfl ?_
  refine m_inv1 hM dX5_state_2 vl_RX5_123 rfl rfl rfl (Nat.le_of_ble_eq_true rfl) (Nat.le_of_ble_eq_true rfl) ?_
  refine w_openLane0 hF ?_
  refine r_astoreN_n hC dX5_state_5 rfl ?_
  refine r_aloadN_n hC dX5_state_6 rfl ?_
  refine r_ifnonnullN hC dX5_state_7 ?_
  refine r_iconst hC dX5_state_10 rfl ?_
  refine r_goto (tgt := 22) hC dX5_state_11 rfl ?_
  refine t_iret hK rfl dX5_state_22 ?_
  exact k
theorem c0_soon {d : Nat} {Post : Option Vl → Mm → Prop} {τ : Mm} {l w : Int} (hF : FrC τ) (k : Post (some (vI (-1))) τ) : WP (d + 4) 95 [vR 2 0, vI l, vI w] τ Post := by
  intro K hK
  have hK : StpF cX5_soon RX5 (some .int) (WP (d + 3)) Post K := hK
  have hM := hK.1
  have hC := hK.1.1
  show K 0 [some (vR 2 0), some (vI l), some (vI w), none, none] [] τ
  refine r_aload_n hC dX5_soon_0 rfl ?_
  refine r_iload_n hC dX5_soon_1 rfl ?_
  refine m_inv1 hM dX5_soon_2 vl_RX5_123 rfl rfl rfl (Nat.le_of_ble_eq_true rfl) (Nat.le_of_ble_eq_true rfl) ?_
  refine w_openLane0 hF ?_
  refine r_astoreN_n hC dX5_soon_5 rfl ?_
  refine r_aloadN_n hC dX5_soon_6 rfl ?_
  refine r_ifnullN (tgt := 19) hC dX5_soon_7 rfl ?_
  refine r_iconst hC dX5_soon_19 rfl ?_
  refine t_iret hK rfl dX5_soon_20 ?_
  exact k
theorem c0_cost {d : Nat} {Post : Option Vl → Mm → Prop} {τ : Mm} {l m w : Int} (hF : FrC τ) (k : Post (some (vI (-1))) τ) : WP (d + 4) 96 [vR 2 0, vI l, vI m, vI w] τ Post := by
  intro K hK
  have hK : StpF cX5_cost RX5 (some .int) (WP (d + 3)) Post K := hK
  have hM := hK.1
  have hC := hK.1.1
  show K 0 [some (vR 2 0), some (vI l), some (vI m), some (vI w), none, none] [] τ
  refine r_aload_n hC dX5_cost_0 rfl ?_
  refine r_iload_n hC dX5_cost_1 rfl ?_
  refine m_inv1 hM dX5_cost_2 vl_RX5_123 rfl rfl rfl (Nat.le_of_ble_eq_true rfl) (Nat.le_of_ble_eq_true rfl) ?_
  refine w_openLane0 hF ?_
  refine r_astoreN hC dX5_cost_5 rfl ?_
  refine r_aloadN hC dX5_cost_7 rfl ?_
  refine r_ifnullN (tgt := 32) hC dX5_cost_9 rfl ?_
  refine r_iconst hC dX5_cost_32 rfl ?_
  refine t_iret hK rfl dX5_cost_33 ?_
  exact k
theorem c0_lane {d : Nat} {Post : Option Vl → Mm → Prop} {τ : Mm} {l w : Int} (hF : FrC τ) (k : Post (some (vI (-1))) τ) : WP (d + 4) 97 [vR 2 0, vI l, vI w] τ Post := by
  intro K hK
  have hK : StpF cX5_lane RX5 (some .int) (WP (d + 3)) Post K := hK
  have hM := hK.1
  have hC := hK.1.1
  show K 0 [some (vR 2 0), some (vI l), some (vI w), none] [] τ
  refine r_aload_n hC dX5_lane_0 rfl ?_
  refine r_iload_n hC dX5_lane_1 rfl ?_
  refine m_inv1 hM dX5_lane_2 vl_RX5_123 rfl rfl rfl (Nat.le_of_ble_eq_true rfl) (Nat.le_of_ble_eq_true rfl) ?_
  refine w_openLane0 hF ?_
  refine r_astoreN_n hC dX5_lane_5 rfl ?_
  refine r_aloadN_n hC dX5_lane_6 rfl ?_
  refine r_ifnonnullN hC dX5_lane_7 ?_
  refine r_iconst hC dX5_lane_10 rfl ?_
  refine r_goto (tgt := 19) hC dX5_lane_11 rfl ?_
  refine t_iret hK rfl dX5_lane_19 ?_
  exact k
theorem c0_watch {d : Nat} {Post : Option Vl → Mm → Prop} {τ : Mm} {v l w b : Int} (hF : FrC τ) (k : Post (some (vI (-1))) τ) : WP (d + 5) 98 [vR 2 0, vI v, vI l, vI w, vI b] τ Post := by
  intro K hK
  have hK : StpF cX5_watch RX5 (some .int) (WP (d + 4)) Post K := hK
  have hM := hK.1
  have hC := hK.1.1
  show K 0 [some (vR 2 0), some (vI v), some (vI l), some (vI w), some (vI b), none, none] [] τ
  refine r_aload_n hC dX5_watch_0 rfl ?_
  refine r_iload_n hC dX5_watch_1 rfl ?_
  refine r_iload_n hC dX5_watch_2 rfl ?_
  refine m_inv2 hM dX5_watch_3 vl_RX5_248 rfl rfl rfl (Nat.le_of_ble_eq_true rfl) (Nat.le_of_ble_eq_true rfl) ?_
  refine w_laneWith0 hF ?_
  refine r_astoreN hC dX5_watch_6 rfl ?_
  refine r_aloadN hC dX5_watch_8 rfl ?_
  refine r_ifnullN (tgt := 23) hC dX5_watch_10 rfl ?_
  refine r_iconst hC dX5_watch_23 rfl ?_
  refine t_iret hK rfl dX5_watch_24 ?_
  exact k
theorem c0_link {d : Nat} {Post : Option Vl → Mm → Prop} {τ : Mm} {l o a w : Int} (hF : FrC τ) (k : Post (some (vI (0))) τ) : WP (d + 5) 104 [vR 2 0, vI l, vI o, vI a, vI w] τ Post := by
  intro K hK
  have hK : StpF cX5_link RX5 (some .boolean) (WP (d + 4)) Post K := hK
  have hM := hK.1
  have hC := hK.1.1
  show K 0 [some (vR 2 0), some (vI l), some (vI o), some (vI a), some (vI w), none] [] τ
  refine r_aload_n hC dX5_link_0 rfl ?_
  refine r_iload_n hC dX5_link_1 rfl ?_
  refine r_iload hC dX5_link_2 rfl ?_
  refine m_inv2 hM dX5_link_4 vl_RX5_248 rfl rfl rfl (Nat.le_of_ble_eq_true rfl) (Nat.le_of_ble_eq_true rfl) ?_
  refine w_laneWith0 hF ?_
  refine r_astoreN hC dX5_link_7 rfl ?_
  refine r_aloadN hC dX5_link_9 rfl ?_
  refine r_ifnullN (tgt := 34) hC dX5_link_11 rfl ?_
  refine r_iconst hC dX5_link_34 rfl ?_
  refine t_zret hK rfl dX5_link_35 (by omega) ?_
  exact k
theorem c0_shortest {d : Nat} {Post : Option Vl → Mm → Prop} {τ : Mm} {l w b z : Int} (hF : FrC τ) (k : Post (some (vI (-1))) τ) : WP (d + 5) 109 [vR 2 0, vI l, vI w, vI b, vI z] τ Post := by
  intro K hK
  have hK : StpF cX5_shortest RX5 (some .int) (WP (d + 4)) Post K := hK
  have hM := hK.1
  have hC := hK.1.1
  show K 0 [some (vR 2 0), some (vI l), some (vI w), some (vI b), some (vI z), none, none, none, none, none] [] τ
  refine r_aload_n hC dX5_shortest_0 rfl ?_
  refine r_iload_n hC dX5_shortest_1 rfl ?_
  refine r_iload_n hC dX5_shortest_2 rfl ?_
  refine m_inv2 hM dX5_shortest_3 vl_RX5_248 rfl rfl rfl (Nat.le_of_ble_eq_true rfl) (Nat.le_of_ble_eq_true rfl) ?_
  refine w_laneWith0 hF ?_
  refine r_astoreN hC dX5_shortest_6 rfl ?_
  refine r_aloadN hC dX5_shortest_8 rfl ?_
  refine r_ifnullN (tgt := 23) hC dX5_shortest_10 rfl ?_
  refine r_iconst hC dX5_shortest_23 rfl ?_
  refine t_iret hK rfl dX5_shortest_24 ?_
  exact k
theorem c0_windows {d : Nat} {Post : Option Vl → Mm → Prop} {τ : Mm} {l w a b : Int} (hF : FrC τ) (k : Post (some (vI (-1))) τ) : WP (d + 5) 110 [vR 2 0, vI l, vI w, vI a, vI b] τ Post := by
  intro K hK
  have hK : StpF cX5_windows RX5 (some .int) (WP (d + 4)) Post K := hK
  have hM := hK.1
  have hC := hK.1.1
  show K 0 [some (vR 2 0), some (vI l), some (vI w), some (vI a), some (vI b), none, none, none, none, none] [] τ
  refine r_aload_n hC dX5_windows_0 rfl ?_
  refine r_iload_n hC dX5_windows_1 rfl ?_
  refine r_iload_n hC dX5_windows_2 rfl ?_
  refine m_inv2 hM dX5_windows_3 vl_RX5_248 rfl rfl rfl (Nat.le_of_ble_eq_true rfl) (Nat.le_of_ble_eq_true rfl) ?_
  refine w_laneWith0 hF ?_
  refine r_astoreN hC dX5_windows_6 rfl ?_
  refine r_aloadN hC dX5_windows_8 rfl ?_
  refine r_ifnonnullN hC dX5_windows_10 ?_
  refine r_iconst hC dX5_windows_13 rfl ?_
  refine t_iret hK rfl dX5_windows_14 ?_
  exact k
theorem c0_were {d : Nat} {Post : Option Vl → Mm → Prop} {τ : Mm} {l t v w : Int} (hF : FrC τ) (k : Post (some (vI (-2147483648))) τ) : WP (d + 5) 111 [vR 2 0, vI l, vI t, vI v, vI w] τ Post := by
  intro K hK
  have hK : StpF cX5_were RX5 (some .int) (WP (d + 4)) Post K := hK
  have hM := hK.1
  have hC := hK.1.1
  show K 0 [some (vR 2 0), some (vI l), some (vI t), some (vI v), some (vI w), none, none, none, none, none, none] [] τ
  refine r_aload_n hC dX5_were_0 rfl ?_
  refine r_iload_n hC dX5_were_1 rfl ?_
  refine r_iload hC dX5_were_2 rfl ?_
  refine m_inv2 hM dX5_were_4 vl_RX5_248 rfl rfl rfl (Nat.le_of_ble_eq_true rfl) (Nat.le_of_ble_eq_true rfl) ?_
  refine w_laneWith0 hF ?_
  refine r_astoreN hC dX5_were_7 rfl ?_
  refine r_aloadN hC dX5_were_9 rfl ?_
  refine r_ifnullN (tgt := 45) hC dX5_were_11 rfl ?_
  refine r_ldc hC dX5_were_45 co_RX5_175 rfl ?_
  refine t_iret hK rfl dX5_were_47 ?_
  exact k
theorem c0_parted {d : Nat} {Post : Option Vl → Mm → Prop} {τ : Mm} {l m w i : Int} (hF : FrC τ) (k : Post (some (vI (-2147483648))) τ) : WP (d + 5) 112 [vR 2 0, vI l, vI m, vI w, vI i] τ Post := by
  intro K hK
  have hK : StpF cX5_parted RX5 (some .int) (WP (d + 4)) Post K := hK
  have hM := hK.1
  have hC := hK.1.1
  show K 0 [some (vR 2 0), some (vI l), some (vI m), some (vI w), some (vI i), none, none, none, none] [] τ
  refine r_aload_n hC dX5_parted_0 rfl ?_
  refine r_iload_n hC dX5_parted_1 rfl ?_
  refine r_iload_n hC dX5_parted_2 rfl ?_
  refine m_inv2 hM dX5_parted_3 vl_RX5_248 rfl rfl rfl (Nat.le_of_ble_eq_true rfl) (Nat.le_of_ble_eq_true rfl) ?_
  refine w_laneWith0 hF ?_
  refine r_astoreN hC dX5_parted_6 rfl ?_
  refine r_aloadN hC dX5_parted_8 rfl ?_
  refine r_ifnullN (tgt := 41) hC dX5_parted_10 rfl ?_
  refine r_ldc hC dX5_parted_41 co_RX5_175 rfl ?_
  refine t_iret hK rfl dX5_parted_43 ?_
  exact k
theorem c0_keep {d : Nat} {Post : Option Vl → Mm → Prop} {τ : Mm} {l b : Int} (hF : FrC τ) (k : Post (some (vI (-1))) τ) : WP (d + 4) 114 [vR 2 0, vI l, vI b] τ Post := by
  intro K hK
  have hK : StpF cX5_keep RX5 (some .int) (WP (d + 3)) Post K := hK
  have hM := hK.1
  have hC := hK.1.1
  show K 0 [some (vR 2 0), some (vI l), some (vI b), none] [] τ
  refine r_aload_n hC dX5_keep_0 rfl ?_
  refine r_iload_n hC dX5_keep_1 rfl ?_
  refine m_inv1 hM dX5_keep_2 vl_RX5_123 rfl rfl rfl (Nat.le_of_ble_eq_true rfl) (Nat.le_of_ble_eq_true rfl) ?_
  refine w_openLane0 hF ?_
  refine r_astoreN_n hC dX5_keep_5 rfl ?_
  refine r_aloadN_n hC dX5_keep_6 rfl ?_
  refine r_ifnullN (tgt := 19) hC dX5_keep_7 rfl ?_
  refine r_iconst hC dX5_keep_19 rfl ?_
  refine t_iret hK rfl dX5_keep_20 ?_
  exact k
theorem c0_peak {d : Nat} {Post : Option Vl → Mm → Prop} {τ : Mm} {l m w : Int} (hF : FrC τ) (k : Post (some (vI (-2147483648))) τ) : WP (d + 6) 79 [vR 2 0, vI l, vI m, vI w] τ Post := by
  intro K hK
  have hK : StpF cX5_peak RX5 (some .int) (WP (d + 5)) Post K := hK
  have hM := hK.1
  have hC := hK.1.1
  show K 0 [some (vR 2 0), some (vI l), some (vI m), some (vI w), none] [] τ
  refine r_aload_n hC dX5_peak_0 rfl ?_
  refine r_iload_n hC dX5_peak_1 rfl ?_
  refine r_iload_n hC dX5_peak_2 rfl ?_
  refine r_iload_n hC dX5_peak_3 rfl ?_
  refine m_inv3 hM dX5_peak_4 vl_RX5_262 rfl rfl rfl (Nat.le_of_ble_eq_true rfl) (Nat.le_of_ble_eq_true rfl) ?_
  refine c0_peakAt hF ?_
  refine r_istore hC dX5_peak_7 rfl ?_
  refine r_iload hC dX5_peak_9 rfl ?_
  refine r_iconst hC dX5_peak_11 rfl ?_
  refine r_icmp_ne (tgt := 20) hC dX5_peak_12 rfl (fun h2 => by omega) (fun h2 => ?_)
  refine r_ldc hC dX5_peak_15 co_RX5_175 rfl ?_
  refine r_goto (tgt := 37) hC dX5_peak_17 rfl ?_
  refine t_iret hK rfl dX5_peak_37 ?_
  exact k
theorem c0_law {d : Nat} {Post : Option Vl → Mm → Prop} {τ : Mm} {l o w : Int} (hF : FrC τ) (k : Post (some (vI (-2147483648))) τ) : WP (d + 6) 85 [vR 2 0, vI l, vI o, vI w] τ Post := by
  intro K hK
  have hK : StpF cX5_law RX5 (some .int) (WP (d + 5)) Post K := hK
  have hM := hK.1
  have hC := hK.1.1
  show K 0 [some (vR 2 0), some (vI l), some (vI o), some (vI w)] [] τ
  refine r_iload_n hC dX5_law_0 rfl ?_
  refine r_iconst hC dX5_law_1 rfl ?_
  refine r_iconst hC dX5_law_2 rfl ?_
  refine m_ins3 hM dX5_law_3 tl_RX5_59 rfl (Nat.le_of_ble_eq_true rfl) (Nat.le_of_ble_eq_true rfl) ?_
  refine w_within (fun rh1 h1 => ?_)
  refine r_if_eq (tgt := 18) hC dX5_law_6 rfl (fun h2 => ?_) (fun h2 => ?_)
  · refine r_ldc hC dX5_law_18 co_RX5_175 rfl ?_
    refine t_iret hK rfl dX5_law_20 ?_
    exact k
  · refine r_aload_n hC dX5_law_9 rfl ?_
    refine r_iload_n hC dX5_law_10 rfl ?_
    refine r_iload_n hC dX5_law_11 rfl ?_
    refine m_inv2 hM dX5_law_12 vl_RX5_281 rfl rfl rfl (Nat.le_of_ble_eq_true rfl) (Nat.le_of_ble_eq_true rfl) ?_
    refine c0_total hF ?_
    refine r_goto (tgt := 20) hC dX5_law_15 rfl ?_
    refine t_iret hK rfl dX5_law_20 ?_
    exact k
theorem w_isTold0 {d : Nat} {Post : Option Vl → Mm → Prop} {τ : Mm} {v : Int} (hF : FrC τ) (k : Post (some (vI (0))) τ) : WP (d + 2) 101 [vR 2 0, vI v] τ Post := by
  intro K hK
  have hK : StpF cX5_isTold RX5 (some .boolean) (WP (d + 1)) Post K := hK
  have hM := hK.1
  have hC := hK.1.1
  show K 0 [some (vR 2 0), some (vI v)] [] τ
  refine r_iload_n hC dX5_isTold_0 rfl ?_
  refine r_iconst hC dX5_isTold_1 rfl ?_
  refine r_bipush hC dX5_isTold_2 rfl ?_
  refine m_ins3 hM dX5_isTold_4 tl_RX5_59 rfl (Nat.le_of_ble_eq_true rfl) (Nat.le_of_ble_eq_true rfl) ?_
  refine w_within (fun rh1 h1 => ?_)
  refine r_if_eq (tgt := 27) hC dX5_isTold_7 rfl (fun h2 => ?_) (fun h2 => ?_)
  · refine r_iconst hC dX5_isTold_27 rfl ?_
    refine t_zret hK rfl dX5_isTold_28 (by omega) ?_
    exact k
  · refine r_aload_n hC dX5_isTold_10 rfl ?_
    refine m_getR hM dX5_isTold_11 fl_RX5_32 rfl rfl (vld_of (n := 1) rfl (by omega) (by omega)) ?_
    refine r_iload_n hC dX5_isTold_14 rfl ?_
    refine m_aald hM dX5_isTold_15 rfl (by decide) (by omega) (by omega) (vld_of (n := 8) rfl (by omega) (by omega)) ?_
    refine m_getI (jz := 0) hM dX5_isTold_16 fl_RX5_321 rfl rfl rfl ?_
    refine r_iconst hC dX5_isTold_19 rfl ?_
    have e1 := hF.2.2.1 v (by omega) (by omega)
    refine r_icmp_eq (tgt := 27) hC dX5_isTold_20 rfl (fun h3 => ?_) (fun h3 => by omega)
    refine r_iconst hC dX5_isTold_27 rfl ?_
    refine t_zret hK rfl dX5_isTold_28 (by omega) ?_
    exact k
theorem c0_rings {d : Nat} {Post : Option Vl → Mm → Prop} {τ : Mm} {v : Int} (hF : FrC τ) (k : Post (some (vI (-1))) τ) : WP (d + 3) 99 [vR 2 0, vI v] τ Post := by
  intro K hK
  have hK : StpF cX5_rings RX5 (some .int) (WP (d + 2)) Post K := hK
  have hM := hK.1
  have hC := hK.1.1
  show K 0 [some (vR 2 0), some (vI v)] [] τ
  refine r_aload_n hC dX5_rings_0 rfl ?_
  refine r_iload_n hC dX5_rings_1 rfl ?_
  refine m_inv1 hM dX5_rings_2 vl_RX5_312 rfl rfl rfl (Nat.le_of_ble_eq_true rfl) (Nat.le_of_ble_eq_true rfl) ?_
  refine w_isTold0 hF ?_
  refine r_if_eq (tgt := 20) hC dX5_rings_5 rfl (fun h2 => ?_) (fun h2 => by omega)
  refine r_iconst hC dX5_rings_20 rfl ?_
  refine t_iret hK rfl dX5_rings_21 ?_
  exact k
theorem c0_rang {d : Nat} {Post : Option Vl → Mm → Prop} {τ : Mm} {v : Int} (hF : FrC τ) (k : Post (some (vI (-1))) τ) : WP (d + 3) 100 [vR 2 0, vI v] τ Post := by
  intro K hK
  have hK : StpF cX5_rang RX5 (some .int) (WP (d + 2)) Post K := hK
  have hM := hK.1
  have hC := hK.1.1
  show K 0 [some (vR 2 0), some (vI v)] [] τ
  refine r_aload_n hC dX5_rang_0 rfl ?_
  refine r_iload_n hC dX5_rang_1 rfl ?_
  refine m_inv1 hM dX5_rang_2 vl_RX5_312 rfl rfl rfl (Nat.le_of_ble_eq_true rfl) (Nat.le_of_ble_eq_true rfl) ?_
  refine w_isTold0 hF ?_
  refine r_if_eq (tgt := 20) hC dX5_rang_5 rfl (fun h2 => ?_) (fun h2 => by omega)
  refine r_iconst hC dX5_rang_20 rfl ?_
  refine t_iret hK rfl dX5_rang_21 ?_
  exact k
theorem c0_unlink {d : Nat} {Post : Option Vl → Mm → Prop} {τ : Mm} {l : Int} (hF : FrC τ) (k : Post (some (vI (0))) τ) : WP (d + 3) 105 [vR 2 0, vI l] τ Post := by
  intro K hK
  have hK : StpF cX5_unlink RX5 (some .boolean) (WP (d + 2)) Post K := hK
  have hM := hK.1
  have hC := hK.1.1
  show K 0 [some (vR 2 0), some (vI l)] [] τ
  refine r_iload_n hC dX5_unlink_0 rfl ?_
  refine m_ins1 hM dX5_unlink_1 tl_RX5_102 rfl (Nat.le_of_ble_eq_true rfl) (Nat.le_of_ble_eq_true rfl) ?_
  refine w_isLane (fun rh1 h1 => ?_)
  refine r_if_eq (tgt := 20) hC dX5_unlink_4 rfl (fun h2 => ?_) (fun h2 => ?_)
  · refine r_iconst hC dX5_unlink_20 rfl ?_
    refine t_zret hK rfl dX5_unlink_21 (by omega) ?_
    exact k
  · refine r_aload_n hC dX5_unlink_7 rfl ?_
    refine m_getR hM dX5_unlink_8 fl_RX5_19 rfl rfl (vld_of (n := 1) rfl (by omega) (by omega)) ?_
    refine r_iload_n hC dX5_unlink_11 rfl ?_
    refine m_aald hM dX5_unlink_12 rfl (by decide) (by omega) (by omega) (vld_of (n := 4) rfl (by omega) (by omega)) ?_
    refine m_getI (jz := 0) hM dX5_unlink_13 fl_RX5_215 rfl rfl rfl ?_
    refine r_iconst hC dX5_unlink_16 rfl ?_
    have e1 := hF.2.2.2 l (by omega) (by omega)
    refine r_icmp_ne (tgt := 22) hC dX5_unlink_17 rfl (fun h3 => by omega) (fun h3 => ?_)
    refine r_iconst hC dX5_unlink_20 rfl ?_
    refine t_zret hK rfl dX5_unlink_21 (by omega) ?_
    exact k
theorem c0_linked {d : Nat} {Post : Option Vl → Mm → Prop} {τ : Mm} {l w : Int} (hF : FrC τ) (k : Post (some (vI (-1))) τ) : WP (d + 3) 106 [vR 2 0, vI l, vI w] τ Post := by
  intro K hK
  have hK : StpF cX5_linked RX5 (some .int) (WP (d + 2)) Post K := hK
  have hM := hK.1
  have hC := hK.1.1
  show K 0 [some (vR 2 0), some (vI l), some (vI w)] [] τ
  refine r_iload_n hC dX5_linked_0 rfl ?_
  refine m_ins1 hM dX5_linked_1 tl_RX5_102 rfl (Nat.le_of_ble_eq_true rfl) (Nat.le_of_ble_eq_true rfl) ?_
  refine w_isLane (fun rh1 h1 => ?_)
  refine r_if_eq (tgt := 33) hC dX5_linked_4 rfl (fun h2 => ?_) (fun h2 => ?_)
  · refine r_iconst hC dX5_linked_33 rfl ?_
    refine t_iret hK rfl dX5_linked_34 ?_
    exact k
  · refine r_aload_n hC dX5_linked_7 rfl ?_
    refine m_getR hM dX5_linked_8 fl_RX5_19 rfl rfl (vld_of (n := 1) rfl (by omega) (by omega)) ?_
    refine r_iload_n hC dX5_linked_11 rfl ?_
    refine m_aald hM dX5_linked_12 rfl (by decide) (by omega) (by omega) (vld_of (n := 4) rfl (by omega) (by omega)) ?_
    refine m_getI (jz := 0) hM dX5_linked_13 fl_RX5_215 rfl rfl rfl ?_
    refine r_iconst hC dX5_linked_16 rfl ?_
    have e1 := hF.2.2.2 l (by omega) (by omega)
    refine r_icmp_eq (tgt := 33) hC dX5_linked_17 rfl (fun h3 => ?_) (fun h3 => by omega)
    refine r_iconst hC dX5_linked_33 rfl ?_
    refine t_iret hK rfl dX5_linked_34 ?_
    exact k
theorem c0_back {d : Nat} {Post : Option Vl → Mm → Prop} {τ : Mm} {b : Int} (hF : FrC τ) (k : Post (some (vI (-1))) τ) : WP (d + 2) 115 [vR 2 0, vI b] τ Post := by
  intro K hK
  have hK : StpF cX5_back RX5 (some .int) (WP (d + 1)) Post K := hK
  have hM := hK.1
  have hC := hK.1.1
  show K 0 [some (vR 2 0), some (vI b), none] [] τ
  refine r_iload_n hC dX5_back_0 rfl ?_
  refine r_iconst hC dX5_back_1 rfl ?_
  refine r_iconst hC dX5_back_2 rfl ?_
  refine m_ins3 hM dX5_back_3 tl_RX5_59 rfl (Nat.le_of_ble_eq_true rfl) (Nat.le_of_ble_eq_true rfl) ?_
  refine w_within (fun rh1 h1 => ?_)
  refine r_if_eq (tgt := 21) hC dX5_back_6 rfl (fun h2 => ?_) (fun h2 => ?_)
  · refine r_iconst hC dX5_back_21 rfl ?_
    refine t_iret hK rfl dX5_back_22 ?_
    exact k
  · refine r_aload_n hC dX5_back_9 rfl ?_
    refine m_getR hM dX5_back_10 fl_RX5_27 rfl rfl (vld_of (n := 1) rfl (by omega) (by omega)) ?_
    refine r_iload_n hC dX5_back_13 rfl ?_
    refine m_aald hM dX5_back_14 rfl (by decide) (by omega) (by omega) (vld_of (n := 7) rfl (by omega) (by omega)) ?_
    refine m_getI (jz := 1) hM dX5_back_15 fl_RX5_94 rfl rfl rfl ?_
    have e1 := hF.1 (4 + b) (by omega) (by omega)
    have e1 : τ 7 (4 + b) 1 = 0 := e1
    refine r_if_ne (tgt := 23) hC dX5_back_18 rfl (fun h3 => by omega) (fun h3 => ?_)
    refine r_iconst hC dX5_back_21 rfl ?_
    refine t_iret hK rfl dX5_back_22 ?_
    exact k
theorem w_openLanes0 {d : Nat} {Post : Option Vl → Mm → Prop} {τ : Mm}  (hF : FrC τ) (k : Post (some (vI (0))) τ) : WP (d + 1) 117 [vR 2 0] τ Post := by
  intro K hK
  have hK : StpF cX5_openLanes RX5 (some .int) (WP (d + 0)) Post K := hK
  have hM := hK.1
  have hC := hK.1.1
  show K 0 [some (vR 2 0), none, none] [] τ
  refine r_iconst hC dX5_openLanes_0 rfl ?_
  refine r_istore_n hC dX5_openLanes_1 rfl ?_
  refine r_iconst hC dX5_openLanes_2 rfl ?_
  refine r_istore_n hC dX5_openLanes_3 rfl ?_
  refine r_iload_n hC dX5_openLanes_4 rfl ?_
  refine r_iconst hC dX5_openLanes_5 rfl ?_
  refine r_icmp_ge (tgt := 35) hC dX5_openLanes_6 rfl (fun h1 => by omega) (fun h1 => ?_)
  refine r_iload_n hC dX5_openLanes_9 rfl ?_
  refine r_aload_n hC dX5_openLanes_10 rfl ?_
  refine m_getR hM dX5_openLanes_11 fl_RX5_13 rfl rfl (vld_of (n := 1) rfl (by omega) (by omega)) ?_
  refine r_iload_n hC dX5_openLanes_14 rfl ?_
  refine m_aald hM dX5_openLanes_15 rfl (by decide) (by omega) (by omega) (vld_of (n := 7) rfl (by omega) (by omega)) ?_
  refine m_getI (jz := 1) hM dX5_openLanes_16 fl_RX5_94 rfl rfl rfl ?_
  have e1 := hF.1 (0) (by decide) (by decide)
  refine r_if_eq (tgt := 26) hC dX5_openLanes_19 rfl (fun h2 => ?_) (fun h2 => by omega)
  refine r_iconst hC dX5_openLanes_26 rfl ?_
  refine r_iaddE hC (0) dX5_openLanes_27 rfl (inR_lit rfl) ?_
  refine r_istore_n hC dX5_openLanes_28 rfl ?_
  show K _ [_, _, _] _ _
  refine r_iincE hC (1) dX5_openLanes_29 rfl rfl rfl (inR_lit rfl) ?_
  refine r_goto (tgt := 4) hC dX5_openLanes_32 rfl ?_
  refine r_iload_n hC dX5_openLanes_4 rfl ?_
  refine r_iconst hC dX5_openLanes_5 rfl ?_
  refine r_icmp_ge (tgt := 35) hC dX5_openLanes_6 rfl (fun h3 => by omega) (fun h3 => ?_)
  refine r_iload_n hC dX5_openLanes_9 rfl ?_
  refine r_aload_n hC dX5_openLanes_10 rfl ?_
  refine m_getR hM dX5_openLanes_11 fl_RX5_13 rfl rfl (vld_of (n := 1) rfl (by omega) (by omega)) ?_
  refine r_iload_n hC dX5_openLanes_14 rfl ?_
  refine m_aald hM dX5_openLanes_15 rfl (by decide) (by omega) (by omega) (vld_of (n := 7) rfl (by omega) (by omega)) ?_
  refine m_getI (jz := 1) hM dX5_openLanes_16 fl_RX5_94 rfl rfl rfl ?_
  have e1 := hF.1 (1) (by decide) (by decide)
  refine r_if_eq (tgt := 26) hC dX5_openLanes_19 rfl (fun h4 => ?_) (fun h4 => by omega)
  refine r_iconst hC dX5_openLanes_26 rfl ?_
  refine r_iaddE hC (0) dX5_openLanes_27 rfl (inR_lit rfl) ?_
  refine r_istore_n hC dX5_openLanes_28 rfl ?_
  refine r_iincE hC (2) dX5_openLanes_29 rfl rfl rfl (inR_lit rfl) ?_
  show K _ [_, _, _] _ _
  refine r_goto (tgt := 4) hC dX5_openLanes_32 rfl ?_
  refine r_iload_n hC dX5_openLanes_4 rfl ?_
  refine r_iconst hC dX5_openLanes_5 rfl ?_
  refine r_icmp_ge (tgt := 35) hC dX5_openLanes_6 rfl (fun h5 => by omega) (fun h5 => ?_)
  refine r_iload_n hC dX5_openLanes_9 rfl ?_
  refine r_aload_n hC dX5_openLanes_10 rfl ?_
  refine m_getR hM dX5_openLanes_11 fl_RX5_13 rfl rfl (vld_of (n := 1) rfl (by omega) (by omega)) ?_
  refine r_iload_n hC dX5_openLanes_14 rfl ?_
  refine m_aald hM dX5_openLanes_15 rfl (by decide) (by omega) (by omega) (vld_of (n := 7) rfl (by omega) (by omega)) ?_
  refine m_getI (jz := 1) hM dX5_openLanes_16 fl_RX5_94 rfl rfl rfl ?_
  have e1 := hF.1 (2) (by decide) (by decide)
  refine r_if_eq (tgt := 26) hC dX5_openLanes_19 rfl (fun h6 => ?_) (fun h6 => by omega)
  refine r_iconst hC dX5_openLanes_26 rfl ?_
  refine r_iaddE hC (0) dX5_openLanes_27 rfl (inR_lit rfl) ?_
  refine r_istore_n hC dX5_openLanes_28 rfl ?_
  refine r_iincE hC (3) dX5_openLanes_29 rfl rfl rfl (inR_lit rfl) ?_
  refine r_goto (tgt := 4) hC dX5_openLanes_32 rfl ?_
  refine r_iload_n hC dX5_openLanes_4 rfl ?_
  refine r_iconst hC dX5_openLanes_5 rfl ?_
  refine r_icmp_ge (tgt := 35) hC dX5_openLanes_6 rfl (fun h7 => by omega) (fun h7 => ?_)
  refine r_iload_n hC dX5_openLanes_9 rfl ?_
  refine r_aload_n hC dX5_openLanes_10 rfl ?_
  refine m_getR hM dX5_openLanes_11 fl_RX5_13 rfl rfl (vld_of (n := 1) rfl (by omega) (by omega)) ?_
  refine r_iload_n hC dX5_openLanes_14 rfl ?_
  refine m_aald hM dX5_openLanes_15 rfl (by decide) (by omega) (by omega) (vld_of (n := 7) rfl (by omega) (by omega)) ?_
  refine m_getI (jz := 1) hM dX5_openLanes_16 fl_RX5_94 rfl rfl rfl ?_
  have e1 := hF.1 (3) (by decide) (by decide)
  refine r_if_eq (tgt := 26) hC dX5_openLanes_19 rfl (fun h8 => ?_) (fun h8 => by omega)
  refine r_iconst hC dX5_openLanes_26 rfl ?_
  refine r_iaddE hC (0) dX5_openLanes_27 rfl (inR_lit rfl) ?_
  refine r_istore_n hC dX5_openLanes_28 rfl ?_
  show K _ [_, _, _] _ _
  refine r_iincE hC (4) dX5_openLanes_29 rfl rfl rfl (inR_lit rfl) ?_
  refine r_goto (tgt := 4) hC dX5_openLanes_32 rfl ?_
  refine r_iload_n hC dX5_openLanes_4 rfl ?_
  refine r_iconst hC dX5_openLanes_5 rfl ?_
  refine r_icmp_ge (tgt := 35) hC dX5_openLanes_6 rfl (fun h9 => ?_) (fun h9 => by omega)
  refine r_iload_n hC dX5_openLanes_35 rfl ?_
  refine t_iret hK rfl dX5_openLanes_36 ?_
  exact k
theorem w_heldInAll0 {d : Nat} {Post : Option Vl → Mm → Prop} {τ : Mm}  (hF : FrC τ) (k : Post (some (vI (0))) τ) : WP (d + 1) 118 [vR 2 0] τ Post := by
  intro K hK
  have hK : StpF cX5_heldInAll RX5 (some .int) (WP (d + 0)) Post K := hK
  have hM := hK.1
  have hC := hK.1.1
  show K 0 [some (vR 2 0), none, none] [] τ
  refine r_iconst hC dX5_heldInAll_0 rfl ?_
  refine r_istore_n hC dX5_heldInAll_1 rfl ?_
  refine r_iconst hC dX5_heldInAll_2 rfl ?_
  refine r_istore_n hC dX5_heldInAll_3 rfl ?_
  refine r_iload_n hC dX5_heldInAll_4 rfl ?_
  refine r_iconst hC dX5_heldInAll_5 rfl ?_
  refine r_icmp_ge (tgt := 43) hC dX5_heldInAll_6 rfl (fun h1 => by omega) (fun h1 => ?_)
  refine r_iload_n hC dX5_heldInAll_9 rfl ?_
  refine r_aload_n hC dX5_heldInAll_10 rfl ?_
  refine m_getR hM dX5_heldInAll_11 fl_RX5_13 rfl rfl (vld_of (n := 1) rfl (by omega) (by omega)) ?_
  refine r_iload_n hC dX5_heldInAll_14 rfl ?_
  refine m_aald hM dX5_heldInAll_15 rfl (by decide) (by omega) (by omega) (vld_of (n := 7) rfl (by omega) (by omega)) ?_
  refine m_getI (jz := 1) hM dX5_heldInAll_16 fl_RX5_94 rfl rfl rfl ?_
  have e1 := hF.1 (0) (by decide) (by decide)
  refine r_if_eq (tgt := 34) hC dX5_heldInAll_19 rfl (fun h2 => ?_) (fun h2 => by omega)
  refine r_iconst hC dX5_heldInAll_34 rfl ?_
  refine r_iaddE hC (0) dX5_heldInAll_35 rfl (inR_lit rfl) ?_
  refine r_istore_n hC dX5_heldInAll_36 rfl ?_
  show K _ [_, _, _] _ _
  refine r_iincE hC (1) dX5_heldInAll_37 rfl rfl rfl (inR_lit rfl) ?_
  refine r_goto (tgt := 4) hC dX5_heldInAll_40 rfl ?_
  refine r_iload_n hC dX5_heldInAll_4 rfl ?_
  refine r_iconst hC dX5_heldInAll_5 rfl ?_
  refine r_icmp_ge (tgt := 43) hC dX5_heldInAll_6 rfl (fun h3 => by omega) (fun h3 => ?_)
  refine r_iload_n hC dX5_heldInAll_9 rfl ?_
  refine r_aload_n hC dX5_heldInAll_10 rfl ?_
  refine m_getR hM dX5_heldInAll_11 fl_RX5_13 rfl rfl (vld_of (n := 1) rfl (by omega) (by omega)) ?_
  refine r_iload_n hC dX5_heldInAll_14 rfl ?_
  refine m_aald hM dX5_heldInAll_15 rfl (by decide) (by omega) (by omega) (vld_of (n := 7) rfl (by omega) (by omega)) ?_
  refine m_getI (jz := 1) hM dX5_heldInAll_16 fl_RX5_94 rfl rfl rfl ?_
  have e1 := hF.1 (1) (by decide) (by decide)
  refine r_if_eq (tgt := 34) hC dX5_heldInAll_19 rfl (fun h4 => ?_) (fun h4 => by omega)
  refine r_iconst hC dX5_heldInAll_34 rfl ?_
  refine r_iaddE hC (0) dX5_heldInAll_35 rfl (inR_lit rfl) ?_
  refine r_istore_n hC dX5_heldInAll_36 rfl ?_
  refine r_iincE hC (2) dX5_heldInAll_37 rfl rfl rfl (inR_lit rfl) ?_
  show K _ [_, _, _] _ _
  refine r_goto (tgt := 4) hC dX5_heldInAll_40 rfl ?_
  refine r_iload_n hC dX5_heldInAll_4 rfl ?_
  refine r_iconst hC dX5_heldInAll_5 rfl ?_
  refine r_icmp_ge (tgt := 43) hC dX5_heldInAll_6 rfl (fun h5 => by omega) (fun h5 => ?_)
  refine r_iload_n hC dX5_heldInAll_9 rfl ?_
  refine r_aload_n hC dX5_heldInAll_10 rfl ?_
  refine m_getR hM dX5_heldInAll_11 fl_RX5_13 rfl rfl (vld_of (n := 1) rfl (by omega) (by omega)) ?_
  refine r_iload_n hC dX5_heldInAll_14 rfl ?_
  refine m_aald hM dX5_heldInAll_15 rfl (by decide) (by omega) (by omega) (vld_of (n := 7) rfl (by omega) (by omega)) ?_
  refine m_getI (jz := 1) hM dX5_heldInAll_16 fl_RX5_94 rfl rfl rfl ?_
  have e1 := hF.1 (2) (by decide) (by decide)
  refine r_if_eq (tgt := 34) hC dX5_heldInAll_19 rfl (fun h6 => ?_) (fun h6 => by omega)
  refine r_iconst hC dX5_heldInAll_34 rfl ?_
  refine r_iaddE hC (0) dX5_heldInAll_35 rfl (inR_lit rfl) ?_
  refine r_istore_n hC dX5_heldInAll_36 rfl ?_
  refine r_iincE hC (3) dX5_heldInAll_37 rfl rfl rfl (inR_lit rfl) ?_
  refine r_goto (tgt := 4) hC dX5_heldInAll_40 rfl ?_
  refine r_iload_n hC dX5_heldInAll_4 rfl ?_
  refine r_iconst hC dX5_heldInAll_5 rfl ?_
  refine r_icmp_ge (tgt := 43) hC dX5_heldInAll_6 rfl (fun h7 => by omega) (fun h7 => ?_)
  refine r_iload_n hC dX5_heldInAll_9 rfl ?_
  refine r_aload_n hC dX5_heldInAll_10 rfl ?_
  refine m_getR hM dX5_heldInAll_11 fl_RX5_13 rfl rfl (vld_of (n := 1) rfl (by omega) (by omega)) ?_
  refine r_iload_n hC dX5_heldInAll_14 rfl ?_
  refine m_aald hM dX5_heldInAll_15 rfl (by decide) (by omega) (by omega) (vld_of (n := 7) rfl (by omega) (by omega)) ?_
  refine m_getI (jz := 1) hM dX5_heldInAll_16 fl_RX5_94 rfl rfl rfl ?_
  have e1 := hF.1 (3) (by decide) (by decide)
  refine r_if_eq (tgt := 34) hC dX5_heldInAll_19 rfl (fun h8 => ?_) (fun h8 => by omega)
  refine r_iconst hC dX5_heldInAll_34 rfl ?_
  refine r_iaddE hC (0) dX5_heldInAll_35 rfl (inR_lit rfl) ?_
  refine r_istore_n hC dX5_heldInAll_36 rfl ?_
  show K _ [_, _, _] _ _
  refine r_iincE hC (4) dX5_heldInAll_37 rfl rfl rfl (inR_lit rfl) ?_
  refine r_goto (tgt := 4) hC dX5_heldInAll_40 rfl ?_
  refine r_iload_n hC dX5_heldInAll_4 rfl ?_
  refine r_iconst hC dX5_heldInAll_5 rfl ?_
  refine r_icmp_ge (tgt := 43) hC dX5_heldInAll_6 rfl (fun h9 => ?_) (fun h9 => by omega)
  refine r_iload_n hC dX5_heldInAll_43 rfl ?_
  refine t_iret hK rfl dX5_heldInAll_44 ?_
  exact k
theorem w_spentInAll0 {d : Nat} {Post : Option Vl → Mm → Prop} {τ : Mm}  (hF : FrC τ) (k : Post (some (vI (0))) τ) : WP (d + 1) 119 [vR 2 0] τ Post := by
  intro K hK
  have hK : StpF cX5_spentInAll RX5 (some .int) (WP (d + 0)) Post K := hK
  have hM := hK.1
  have hC := hK.1.1
  show K 0 [some (vR 2 0), none, none] [] τ
  refine r_iconst hC dX5_spentInAll_0 rfl ?_
  refine r_istore_n hC dX5_spentInAll_1 rfl ?_
  refine r_iconst hC dX5_spentInAll_2 rfl ?_
  refine r_istore_n hC dX5_spentInAll_3 rfl ?_
  refine r_iload_n hC dX5_spentInAll_4 rfl ?_
  refine r_iconst hC dX5_spentInAll_5 rfl ?_
  refine r_icmp_ge (tgt := 46) hC dX5_spentInAll_6 rfl (fun h1 => by omega) (fun h1 => ?_)
  refine r_iload_n hC dX5_spentInAll_9 rfl ?_
  refine r_aload_n hC dX5_spentInAll_10 rfl ?_
  refine m_getR hM dX5_spentInAll_11 fl_RX5_13 rfl rfl (vld_of (n := 1) rfl (by omega) (by omega)) ?_
  refine r_iload_n hC dX5_spentInAll_14 rfl ?_
  refine m_aald hM dX5_spentInAll_15 rfl (by decide) (by omega) (by omega) (vld_of (n := 7) rfl (by omega) (by omega)) ?_
  refine m_getI (jz := 1) hM dX5_spentInAll_16 fl_RX5_94 rfl rfl rfl ?_
  have e1 := hF.1 (0) (by decide) (by decide)
  refine r_if_eq (tgt := 37) hC dX5_spentInAll_19 rfl (fun h2 => ?_) (fun h2 => by omega)
  refine r_iconst hC dX5_spentInAll_37 rfl ?_
  refine r_iaddE hC (0) dX5_spentInAll_38 rfl (inR_lit rfl) ?_
  refine r_istore_n hC dX5_spentInAll_39 rfl ?_
  show K _ [_, _, _] _ _
  refine r_iincE hC (1) dX5_spentInAll_40 rfl rfl rfl (inR_lit rfl) ?_
  refine r_goto (tgt := 4) hC dX5_spentInAll_43 rfl ?_
  refine r_iload_n hC dX5_spentInAll_4 rfl ?_
  refine r_iconst hC dX5_spentInAll_5 rfl ?_
  refine r_icmp_ge (tgt := 46) hC dX5_spentInAll_6 rfl (fun h3 => by omega) (fun h3 => ?_)
  refine r_iload_n hC dX5_spentInAll_9 rfl ?_
  refine r_aload_n hC dX5_spentInAll_10 rfl ?_
  refine m_getR hM dX5_spentInAll_11 fl_RX5_13 rfl rfl (vld_of (n := 1) rfl (by omega) (by omega)) ?_
  refine r_iload_n hC dX5_spentInAll_14 rfl ?_
  refine m_aald hM dX5_spentInAll_15 rfl (by decide) (by omega) (by omega) (vld_of (n := 7) rfl (by omega) (by omega)) ?_
  refine m_getI (jz := 1) hM dX5_spentInAll_16 fl_RX5_94 rfl rfl rfl ?_
  have e1 := hF.1 (1) (by decide) (by decide)
  refine r_if_eq (tgt := 37) hC dX5_spentInAll_19 rfl (fun h4 => ?_) (fun h4 => by omega)
  refine r_iconst hC dX5_spentInAll_37 rfl ?_
  refine r_iaddE hC (0) dX5_spentInAll_38 rfl (inR_lit rfl) ?_
  refine r_istore_n hC dX5_spentInAll_39 rfl ?_
  refine r_iincE hC (2) dX5_spentInAll_40 rfl rfl rfl (inR_lit rfl) ?_
  show K _ [_, _, _] _ _
  refine r_goto (tgt := 4) hC dX5_spentInAll_43 rfl ?_
  refine r_iload_n hC dX5_spentInAll_4 rfl ?_
  refine r_iconst hC dX5_spentInAll_5 rfl ?_
  refine r_icmp_ge (tgt := 46) hC dX5_spentInAll_6 rfl (fun h5 => by omega) (fun h5 => ?_)
  refine r_iload_n hC dX5_spentInAll_9 rfl ?_
  refine r_aload_n hC dX5_spentInAll_10 rfl ?_
  refine m_getR hM dX5_spentInAll_11 fl_RX5_13 rfl rfl (vld_of (n := 1) rfl (by omega) (by omega)) ?_
  refine r_iload_n hC dX5_spentInAll_14 rfl ?_
  refine m_aald hM dX5_spentInAll_15 rfl (by decide) (by omega) (by omega) (vld_of (n := 7) rfl (by omega) (by omega)) ?_
  refine m_getI (jz := 1) hM dX5_spentInAll_16 fl_RX5_94 rfl rfl rfl ?_
  have e1 := hF.1 (2) (by decide) (by decide)
  refine r_if_eq (tgt := 37) hC dX5_spentInAll_19 rfl (fun h6 => ?_) (fun h6 => by omega)
  refine r_iconst hC dX5_spentInAll_37 rfl ?_
  refine r_iaddE hC (0) dX5_spentInAll_38 rfl (inR_lit rfl) ?_
  refine r_istore_n hC dX5_spentInAll_39 rfl ?_
  refine r_iincE hC (3) dX5_spentInAll_40 rfl rfl rfl (inR_lit rfl) ?_
  refine r_goto (tgt := 4) hC dX5_spentInAll_43 rfl ?_
  refine r_iload_n hC dX5_spentInAll_4 rfl ?_
  refine r_iconst hC dX5_spentInAll_5 rfl ?_
  refine r_icmp_ge (tgt := 46) hC dX5_spentInAll_6 rfl (fun h7 => by omega) (fun h7 => ?_)
  refine r_iload_n hC dX5_spentInAll_9 rfl ?_
  refine r_aload_n hC dX5_spentInAll_10 rfl ?_
  refine m_getR hM dX5_spentInAll_11 fl_RX5_13 rfl rfl (vld_of (n := 1) rfl (by omega) (by omega)) ?_
  refine r_iload_n hC dX5_spentInAll_14 rfl ?_
  refine m_aald hM dX5_spentInAll_15 rfl (by decide) (by omega) (by omega) (vld_of (n := 7) rfl (by omega) (by omega)) ?_
  refine m_getI (jz := 1) hM dX5_spentInAll_16 fl_RX5_94 rfl rfl rfl ?_
  have e1 := hF.1 (3) (by decide) (by decide)
  refine r_if_eq (tgt := 37) hC dX5_spentInAll_19 rfl (fun h8 => ?_) (fun h8 => by omega)
  refine r_iconst hC dX5_spentInAll_37 rfl ?_
  refine r_iaddE hC (0) dX5_spentInAll_38 rfl (inR_lit rfl) ?_
  refine r_istore_n hC dX5_spentInAll_39 rfl ?_
  show K _ [_, _, _] _ _
  refine r_iincE hC (4) dX5_spentInAll_40 rfl rfl rfl (inR_lit rfl) ?_
  refine r_goto (tgt := 4) hC dX5_spentInAll_43 rfl ?_
  refine r_iload_n hC dX5_spentInAll_4 rfl ?_
  refine r_iconst hC dX5_spentInAll_5 rfl ?_
  refine r_icmp_ge (tgt := 46) hC dX5_spentInAll_6 rfl (fun h9 => ?_) (fun h9 => by omega)
  refine r_iload_n hC dX5_spentInAll_46 rfl ?_
  refine t_iret hK rfl dX5_spentInAll_47 ?_
  exact k
theorem w_toldWatches0 {d : Nat} {Post : Option Vl → Mm → Prop} {τ : Mm}  (hF : FrC τ) (k : Post (some (vI (0))) τ) : WP (d + 3) 120 [vR 2 0] τ Post := by
  intro K hK
  have hK : StpF cX5_toldWatches RX5 (some .int) (WP (d + 2)) Post K := hK
  have hM := hK.1
  have hC := hK.1.1
  show K 0 [some (vR 2 0), none, none] [] τ
  refine r_iconst hC dX5_toldWatches_0 rfl ?_
  refine r_istore_n hC dX5_toldWatches_1 rfl ?_
  refine r_iconst hC dX5_toldWatches_2 rfl ?_
  refine r_istore_n hC dX5_toldWatches_3 rfl ?_
  refine r_iload_n hC dX5_toldWatches_4 rfl ?_
  refine r_bipush hC dX5_toldWatches_5 rfl ?_
  refine r_icmp_ge (tgt := 32) hC dX5_toldWatches_7 rfl (fun h1 => by omega) (fun h1 => ?_)
  refine r_iload_n hC dX5_toldWatches_10 rfl ?_
  refine r_aload_n hC dX5_toldWatches_11 rfl ?_
  refine r_iload_n hC dX5_toldWatches_12 rfl ?_
  refine m_inv1 hM dX5_toldWatches_13 vl_RX5_312 rfl rfl rfl (Nat.le_of_ble_eq_true rfl) (Nat.le_of_ble_eq_true rfl) ?_
  refine w_isTold0 hF ?_
  refine r_if_eq (tgt := 23) hC dX5_toldWatches_16 rfl (fun h3 => ?_) (fun h3 => by omega)
  refine r_iconst hC dX5_toldWatches_23 rfl ?_
  refine r_iaddE hC (0) dX5_toldWatches_24 rfl (inR_lit rfl) ?_
  refine r_istore_n hC dX5_toldWatches_25 rfl ?_
  show K _ [_, _, _] _ _
  refine r_iincE hC (1) dX5_toldWatches_26 rfl rfl rfl (inR_lit rfl) ?_
  refine r_goto (tgt := 4) hC dX5_toldWatches_29 rfl ?_
  refine r_iload_n hC dX5_toldWatches_4 rfl ?_
  refine r_bipush hC dX5_toldWatches_5 rfl ?_
  refine r_icmp_ge (tgt := 32) hC dX5_toldWatches_7 rfl (fun h4 => by omega) (fun h4 => ?_)
  refine r_iload_n hC dX5_toldWatches_10 rfl ?_
  refine r_aload_n hC dX5_toldWatches_11 rfl ?_
  refine r_iload_n hC dX5_toldWatches_12 rfl ?_
  refine m_inv1 hM dX5_toldWatches_13 vl_RX5_312 rfl rfl rfl (Nat.le_of_ble_eq_true rfl) (Nat.le_of_ble_eq_true rfl) ?_
  refine w_isTold0 hF ?_
  refine r_if_eq (tgt := 23) hC dX5_toldWatches_16 rfl (fun h6 => ?_) (fun h6 => by omega)
  refine r_iconst hC dX5_toldWatches_23 rfl ?_
  refine r_iaddE hC (0) dX5_toldWatches_24 rfl (inR_lit rfl) ?_
  refine r_istore_n hC dX5_toldWatches_25 rfl ?_
  refine r_iincE hC (2) dX5_toldWatches_26 rfl rfl rfl (inR_lit rfl) ?_
  show K _ [_, _, _] _ _
  refine r_goto (tgt := 4) hC dX5_toldWatches_29 rfl ?_
  refine r_iload_n hC dX5_toldWatches_4 rfl ?_
  refine r_bipush hC dX5_toldWatches_5 rfl ?_
  refine r_icmp_ge (tgt := 32) hC dX5_toldWatches_7 rfl (fun h7 => by omega) (fun h7 => ?_)
  refine r_iload_n hC dX5_toldWatches_10 rfl ?_
  refine r_aload_n hC dX5_toldWatches_11 rfl ?_
  refine r_iload_n hC dX5_toldWatches_12 rfl ?_
  refine m_inv1 hM dX5_toldWatches_13 vl_RX5_312 rfl rfl rfl (Nat.le_of_ble_eq_true rfl) (Nat.le_of_ble_eq_true rfl) ?_
  refine w_isTold0 hF ?_
  refine r_if_eq (tgt := 23) hC dX5_toldWatches_16 rfl (fun h9 => ?_) (fun h9 => by omega)
  refine r_iconst hC dX5_toldWatches_23 rfl ?_
  refine r_iaddE hC (0) dX5_toldWatches_24 rfl (inR_lit rfl) ?_
  refine r_istore_n hC dX5_toldWatches_25 rfl ?_
  refine r_iincE hC (3) dX5_toldWatches_26 rfl rfl rfl (inR_lit rfl) ?_
  refine r_goto (tgt := 4) hC dX5_toldWatches_29 rfl ?_
  refine r_iload_n hC dX5_toldWatches_4 rfl ?_
  refine r_bipush hC dX5_toldWatches_5 rfl ?_
  refine r_icmp_ge (tgt := 32) hC dX5_toldWatches_7 rfl (fun h10 => by omega) (fun h10 => ?_)
  refine r_iload_n hC dX5_toldWatches_10 rfl ?_
  refine r_aload_n hC dX5_toldWatches_11 rfl ?_
  refine r_iload_n hC dX5_toldWatches_12 rfl ?_
  refine m_inv1 hM dX5_toldWatches_13 vl_RX5_312 rfl rfl rfl (Nat.le_of_ble_eq_true rfl) (Nat.le_of_ble_eq_true rfl) ?_
  refine w_isTold0 hF ?_
  refine r_if_eq (tgt := 23) hC dX5_toldWatches_16 rfl (fun h12 => ?_) (fun h12 => by omega)
  refine r_iconst hC dX5_toldWatches_23 rfl ?_
  refine r_iaddE hC (0) dX5_toldWatches_24 rfl (inR_lit rfl) ?_
  refine r_istore_n hC dX5_toldWatches_25 rfl ?_
  show K _ [_, _, _] _ _
  refine r_iincE hC (4) dX5_toldWatches_26 rfl rfl rfl (inR_lit rfl) ?_
  refine r_goto (tgt := 4) hC dX5_toldWatches_29 rfl ?_
  refine r_iload_n hC dX5_toldWatches_4 rfl ?_
  refine r_bipush hC dX5_toldWatches_5 rfl ?_
  refine r_icmp_ge (tgt := 32) hC dX5_toldWatches_7 rfl (fun h13 => by omega) (fun h13 => ?_)
  refine r_iload_n hC dX5_toldWatches_10 rfl ?_
  refine r_aload_n hC dX5_toldWatches_11 rfl ?_
  refine r_iload_n hC dX5_toldWatches_12 rfl ?_
  refine m_inv1 hM dX5_toldWatches_13 vl_RX5_312 rfl rfl rfl (Nat.le_of_ble_eq_true rfl) (Nat.le_of_ble_eq_true rfl) ?_
  refine w_isTold0 hF ?_
  refine r_if_eq (tgt := 23) hC dX5_toldWatches_16 rfl (fun h15 => ?_) (fun h15 => by omega)
  refine r_iconst hC dX5_toldWatches_23 rfl ?_
  refine r_iaddE hC (0) dX5_toldWatches_24 rfl (inR_lit rfl) ?_
  refine r_istore_n hC dX5_toldWatches_25 rfl ?_
  refine r_iincE hC (5) dX5_toldWatches_26 rfl rfl rfl (inR_lit rfl) ?_
  show K _ [_, _, _] _ _
  refine r_goto (tgt := 4) hC dX5_toldWatches_29 rfl ?_
  refine r_iload_n hC dX5_toldWatches_4 rfl ?_
  refine r_bipush hC dX5_toldWatches_5 rfl ?_
  refine r_icmp_ge (tgt := 32) hC dX5_toldWatches_7 rfl (fun h16 => by omega) (fun h16 => ?_)
  refine r_iload_n hC dX5_toldWatches_10 rfl ?_
  refine r_aload_n hC dX5_toldWatches_11 rfl ?_
  refine r_iload_n hC dX5_toldWatches_12 rfl ?_
  refine m_inv1 hM dX5_toldWatches_13 vl_RX5_312 rfl rfl rfl (Nat.le_of_ble_eq_true rfl) (Nat.le_of_ble_eq_true rfl) ?_
  refine w_isTold0 hF ?_
  refine r_if_eq (tgt := 23) hC dX5_toldWatches_16 rfl (fun h18 => ?_) (fun h18 => by omega)
  refine r_iconst hC dX5_toldWatches_23 rfl ?_
  refine r_iaddE hC (0) dX5_toldWatches_24 rfl (inR_lit rfl) ?_
  refine r_istore_n hC dX5_toldWatches_25 rfl ?_
  refine r_iincE hC (6) dX5_toldWatches_26 rfl rfl rfl (inR_lit rfl) ?_
  refine r_goto (tgt := 4) hC dX5_toldWatches_29 rfl ?_
  refine r_iload_n hC dX5_toldWatches_4 rfl ?_
  refine r_bipush hC dX5_toldWatches_5 rfl ?_
  refine r_icmp_ge (tgt := 32) hC dX5_toldWatches_7 rfl (fun h19 => by omega) (fun h19 => ?_)
  refine r_iload_n hC dX5_toldWatches_10 rfl ?_
  refine r_aload_n hC dX5_toldWatches_11 rfl ?_
  refine r_iload_n hC dX5_toldWatches_12 rfl ?_
  refine m_inv1 hM dX5_toldWatches_13 vl_RX5_312 rfl rfl rfl (Nat.le_of_ble_eq_true rfl) (Nat.le_of_ble_eq_true rfl) ?_
  refine w_isTold0 hF ?_
  refine r_if_eq (tgt := 23) hC dX5_toldWatches_16 rfl (fun h21 => ?_) (fun h21 => by omega)
  refine r_iconst hC dX5_toldWatches_23 rfl ?_
  refine r_iaddE hC (0) dX5_toldWatches_24 rfl (inR_lit rfl) ?_
  refine r_istore_n hC dX5_toldWatches_25 rfl ?_
  show K _ [_, _, _] _ _
  refine r_iincE hC (7) dX5_toldWatches_26 rfl rfl rfl (inR_lit rfl) ?_
  refine r_goto (tgt := 4) hC dX5_toldWatches_29 rfl ?_
  refine r_iload_n hC dX5_toldWatches_4 rfl ?_
  refine r_bipush hC dX5_toldWatches_5 rfl ?_
  refine r_icmp_ge (tgt := 32) hC dX5_toldWatches_7 rfl (fun h22 => by omega) (fun h22 => ?_)
  refine r_iload_n hC dX5_toldWatches_10 rfl ?_
  refine r_aload_n hC dX5_toldWatches_11 rfl ?_
  refine r_iload_n hC dX5_toldWatches_12 rfl ?_
  refine m_inv1 hM dX5_toldWatches_13 vl_RX5_312 rfl rfl rfl (Nat.le_of_ble_eq_true rfl) (Nat.le_of_ble_eq_true rfl) ?_
  refine w_isTold0 hF ?_
  refine r_if_eq (tgt := 23) hC dX5_toldWatches_16 rfl (fun h24 => ?_) (fun h24 => by omega)
  refine r_iconst hC dX5_toldWatches_23 rfl ?_
  refine r_iaddE hC (0) dX5_toldWatches_24 rfl (inR_lit rfl) ?_
  refine r_istore_n hC dX5_toldWatches_25 rfl ?_
  refine r_iincE hC (8) dX5_toldWatches_26 rfl rfl rfl (inR_lit rfl) ?_
  show K _ [_, _, _] _ _
  refine r_goto (tgt := 4) hC dX5_toldWatches_29 rfl ?_
  refine r_iload_n hC dX5_toldWatches_4 rfl ?_
  refine r_bipush hC dX5_toldWatches_5 rfl ?_
  refine r_icmp_ge (tgt := 32) hC dX5_toldWatches_7 rfl (fun h25 => ?_) (fun h25 => by omega)
  refine r_iload_n hC dX5_toldWatches_32 rfl ?_
  refine t_iret hK rfl dX5_toldWatches_33 ?_
  exact k
theorem w_fullBoxes0 {d : Nat} {Post : Option Vl → Mm → Prop} {τ : Mm}  (hF : FrC τ) (k : Post (some (vI (0))) τ) : WP (d + 1) 121 [vR 2 0] τ Post := by
  intro K hK
  have hK : StpF cX5_fullBoxes RX5 (some .int) (WP (d + 0)) Post K := hK
  have hM := hK.1
  have hC := hK.1.1
  show K 0 [some (vR 2 0), none, none] [] τ
  refine r_iconst hC dX5_fullBoxes_0 rfl ?_
  refine r_istore_n hC dX5_fullBoxes_1 rfl ?_
  refine r_iconst hC dX5_fullBoxes_2 rfl ?_
  refine r_istore_n hC dX5_fullBoxes_3 rfl ?_
  refine r_iload_n hC dX5_fullBoxes_4 rfl ?_
  refine r_iconst hC dX5_fullBoxes_5 rfl ?_
  refine r_icmp_ge (tgt := 35) hC dX5_fullBoxes_6 rfl (fun h1 => by omega) (fun h1 => ?_)
  refine r_iload_n hC dX5_fullBoxes_9 rfl ?_
  refine r_aload_n hC dX5_fullBoxes_10 rfl ?_
  refine m_getR hM dX5_fullBoxes_11 fl_RX5_27 rfl rfl (vld_of (n := 1) rfl (by omega) (by omega)) ?_
  refine r_iload_n hC dX5_fullBoxes_14 rfl ?_
  refine m_aald hM dX5_fullBoxes_15 rfl (by decide) (by omega) (by omega) (vld_of (n := 7) rfl (by omega) (by omega)) ?_
  refine m_getI (jz := 1) hM dX5_fullBoxes_16 fl_RX5_94 rfl rfl rfl ?_
  have e1 : τ 7 (4 + 0) 1 = 0 := hF.1 (4 + 0) (by decide) (by decide)
  refine r_if_eq (tgt := 26) hC dX5_fullBoxes_19 rfl (fun h2 => ?_) (fun h2 => by omega)
  refine r_iconst hC dX5_fullBoxes_26 rfl ?_
  refine r_iaddE hC (0) dX5_fullBoxes_27 rfl (inR_lit rfl) ?_
  refine r_istore_n hC dX5_fullBoxes_28 rfl ?_
  show K _ [_, _, _] _ _
  refine r_iincE hC (1) dX5_fullBoxes_29 rfl rfl rfl (inR_lit rfl) ?_
  refine r_goto (tgt := 4) hC dX5_fullBoxes_32 rfl ?_
  refine r_iload_n hC dX5_fullBoxes_4 rfl ?_
  refine r_iconst hC dX5_fullBoxes_5 rfl ?_
  refine r_icmp_ge (tgt := 35) hC dX5_fullBoxes_6 rfl (fun h3 => by omega) (fun h3 => ?_)
  refine r_iload_n hC dX5_fullBoxes_9 rfl ?_
  refine r_aload_n hC dX5_fullBoxes_10 rfl ?_
  refine m_getR hM dX5_fullBoxes_11 fl_RX5_27 rfl rfl (vld_of (n := 1) rfl (by omega) (by omega)) ?_
  refine r_iload_n hC dX5_fullBoxes_14 rfl ?_
  refine m_aald hM dX5_fullBoxes_15 rfl (by decide) (by omega) (by omega) (vld_of (n := 7) rfl (by omega) (by omega)) ?_
  refine m_getI (jz := 1) hM dX5_fullBoxes_16 fl_RX5_94 rfl rfl rfl ?_
  have e1 : τ 7 (4 + 1) 1 = 0 := hF.1 (4 + 1) (by decide) (by decide)
  refine r_if_eq (tgt := 26) hC dX5_fullBoxes_19 rfl (fun h4 => ?_) (fun h4 => by omega)
  refine r_iconst hC dX5_fullBoxes_26 rfl ?_
  refine r_iaddE hC (0) dX5_fullBoxes_27 rfl (inR_lit rfl) ?_
  refine r_istore_n hC dX5_fullBoxes_28 rfl ?_
  refine r_iincE hC (2) dX5_fullBoxes_29 rfl rfl rfl (inR_lit rfl) ?_
  show K _ [_, _, _] _ _
  refine r_goto (tgt := 4) hC dX5_fullBoxes_32 rfl ?_
  refine r_iload_n hC dX5_fullBoxes_4 rfl ?_
  refine r_iconst hC dX5_fullBoxes_5 rfl ?_
  refine r_icmp_ge (tgt := 35) hC dX5_fullBoxes_6 rfl (fun h5 => by omega) (fun h5 => ?_)
  refine r_iload_n hC dX5_fullBoxes_9 rfl ?_
  refine r_aload_n hC dX5_fullBoxes_10 rfl ?_
  refine m_getR hM dX5_fullBoxes_11 fl_RX5_27 rfl rfl (vld_of (n := 1) rfl (by omega) (by omega)) ?_
  refine r_iload_n hC dX5_fullBoxes_14 rfl ?_
  refine m_aald hM dX5_fullBoxes_15 rfl (by decide) (by omega) (by omega) (vld_of (n := 7) rfl (by omega) (by omega)) ?_
  refine m_getI (jz := 1) hM dX5_fullBoxes_16 fl_RX5_94 rfl rfl rfl ?_
  have e1 : τ 7 (4 + 2) 1 = 0 := hF.1 (4 + 2) (by decide) (by decide)
  refine r_if_eq (tgt := 26) hC dX5_fullBoxes_19 rfl (fun h6 => ?_) (fun h6 => by omega)
  refine r_iconst hC dX5_fullBoxes_26 rfl ?_
  refine r_iaddE hC (0) dX5_fullBoxes_27 rfl (inR_lit rfl) ?_
  refine r_istore_n hC dX5_fullBoxes_28 rfl ?_
  refine r_iincE hC (3) dX5_fullBoxes_29 rfl rfl rfl (inR_lit rfl) ?_
  refine r_goto (tgt := 4) hC dX5_fullBoxes_32 rfl ?_
  refine r_iload_n hC dX5_fullBoxes_4 rfl ?_
  refine r_iconst hC dX5_fullBoxes_5 rfl ?_
  refine r_icmp_ge (tgt := 35) hC dX5_fullBoxes_6 rfl (fun h7 => ?_) (fun h7 => by omega)
  refine r_iload_n hC dX5_fullBoxes_35 rfl ?_
  refine t_iret hK rfl dX5_fullBoxes_36 ?_
  exact k
theorem w_ringsInAll0 {d : Nat} {Post : Option Vl → Mm → Prop} {τ : Mm}  (hF : FrC τ) (k : Post (some (vI (0))) τ) : WP (d + 3) 122 [vR 2 0] τ Post := by
  intro K hK
  have hK : StpF cX5_ringsInAll RX5 (some .int) (WP (d + 2)) Post K := hK
  have hM := hK.1
  have hC := hK.1.1
  show K 0 [some (vR 2 0), none, none] [] τ
  refine r_iconst hC dX5_ringsInAll_0 rfl ?_
  refine r_istore_n hC dX5_ringsInAll_1 rfl ?_
  refine r_iconst hC dX5_ringsInAll_2 rfl ?_
  refine r_istore_n hC dX5_ringsInAll_3 rfl ?_
  refine r_iload_n hC dX5_ringsInAll_4 rfl ?_
  refine r_bipush hC dX5_ringsInAll_5 rfl ?_
  refine r_icmp_ge (tgt := 40) hC dX5_ringsInAll_7 rfl (fun h1 => by omega) (fun h1 => ?_)
  refine r_iload_n hC dX5_ringsInAll_10 rfl ?_
  refine r_aload_n hC dX5_ringsInAll_11 rfl ?_
  refine r_iload_n hC dX5_ringsInAll_12 rfl ?_
  refine m_inv1 hM dX5_ringsInAll_13 vl_RX5_312 rfl rfl rfl (Nat.le_of_ble_eq_true rfl) (Nat.le_of_ble_eq_true rfl) ?_
  refine w_isTold0 hF ?_
  refine r_if_eq (tgt := 31) hC dX5_ringsInAll_16 rfl (fun h3 => ?_) (fun h3 => by omega)
  refine r_iconst hC dX5_ringsInAll_31 rfl ?_
  refine r_iaddE hC (0) dX5_ringsInAll_32 rfl (inR_lit rfl) ?_
  refine r_istore_n hC dX5_ringsInAll_33 rfl ?_
  show K _ [_, _, _] _ _
  refine r_iincE hC (1) dX5_ringsInAll_34 rfl rfl rfl (inR_lit rfl) ?_
  refine r_goto (tgt := 4) hC dX5_ringsInAll_37 rfl ?_
  refine r_iload_n hC dX5_ringsInAll_4 rfl ?_
  refine r_bipush hC dX5_ringsInAll_5 rfl ?_
  refine r_icmp_ge (tgt := 40) hC dX5_ringsInAll_7 rfl (fun h4 => by omega) (fun h4 => ?_)
  refine r_iload_n hC dX5_ringsInAll_10 rfl ?_
  refine r_aload_n hC dX5_ringsInAll_11 rfl ?_
  refine r_iload_n hC dX5_ringsInAll_12 rfl ?_
  refine m_inv1 hM dX5_ringsInAll_13 vl_RX5_312 rfl rfl rfl (Nat.le_of_ble_eq_true rfl) (Nat.le_of_ble_eq_true rfl) ?_
  refine w_isTold0 hF ?_
  refine r_if_eq (tgt := 31) hC dX5_ringsInAll_16 rfl (fun h6 => ?_) (fun h6 => by omega)
  refine r_iconst hC dX5_ringsInAll_31 rfl ?_
  refine r_iaddE hC (0) dX5_ringsInAll_32 rfl (inR_lit rfl) ?_
  refine r_istore_n hC dX5_ringsInAll_33 rfl ?_
  refine r_iincE hC (2) dX5_ringsInAll_34 rfl rfl rfl (inR_lit rfl) ?_
  show K _ [_, _, _] _ _
  refine r_goto (tgt := 4) hC dX5_ringsInAll_37 rfl ?_
  refine r_iload_n hC dX5_ringsInAll_4 rfl ?_
  refine r_bipush hC dX5_ringsInAll_5 rfl ?_
  refine r_icmp_ge (tgt := 40) hC dX5_ringsInAll_7 rfl (fun h7 => by omega) (fun h7 => ?_)
  refine r_iload_n hC dX5_ringsInAll_10 rfl ?_
  refine r_aload_n hC dX5_ringsInAll_11 rfl ?_
  refine r_iload_n hC dX5_ringsInAll_12 rfl ?_
  refine m_inv1 hM dX5_ringsInAll_13 vl_RX5_312 rfl rfl rfl (Nat.le_of_ble_eq_true rfl) (Nat.le_of_ble_eq_true rfl) ?_
  refine w_isTold0 hF ?_
  refine r_if_eq (tgt := 31) hC dX5_ringsInAll_16 rfl (fun h9 => ?_) (fun h9 => by omega)
  refine r_iconst hC dX5_ringsInAll_31 rfl ?_
  refine r_iaddE hC (0) dX5_ringsInAll_32 rfl (inR_lit rfl) ?_
  refine r_istore_n hC dX5_ringsInAll_33 rfl ?_
  refine r_iincE hC (3) dX5_ringsInAll_34 rfl rfl rfl (inR_lit rfl) ?_
  refine r_goto (tgt := 4) hC dX5_ringsInAll_37 rfl ?_
  refine r_iload_n hC dX5_ringsInAll_4 rfl ?_
  refine r_bipush hC dX5_ringsInAll_5 rfl ?_
  refine r_icmp_ge (tgt := 40) hC dX5_ringsInAll_7 rfl (fun h10 => by omega) (fun h10 => ?_)
  refine r_iload_n hC dX5_ringsInAll_10 rfl ?_
  refine r_aload_n hC dX5_ringsInAll_11 rfl ?_
  refine r_iload_n hC dX5_ringsInAll_12 rfl ?_
  refine m_inv1 hM dX5_ringsInAll_13 vl_RX5_312 rfl rfl rfl (Nat.le_of_ble_eq_true rfl) (Nat.le_of_ble_eq_true rfl) ?_
  refine w_isTold0 hF ?_
  refine r_if_eq (tgt := 31) hC dX5_ringsInAll_16 rfl (fun h12 => ?_) (fun h12 => by omega)
  refine r_iconst hC dX5_ringsInAll_31 rfl ?_
  refine r_iaddE hC (0) dX5_ringsInAll_32 rfl (inR_lit rfl) ?_
  refine r_istore_n hC dX5_ringsInAll_33 rfl ?_
  show K _ [_, _, _] _ _
  refine r_iincE hC (4) dX5_ringsInAll_34 rfl rfl rfl (inR_lit rfl) ?_
  refine r_goto (tgt := 4) hC dX5_ringsInAll_37 rfl ?_
  refine r_iload_n hC dX5_ringsInAll_4 rfl ?_
  refine r_bipush hC dX5_ringsInAll_5 rfl ?_
  refine r_icmp_ge (tgt := 40) hC dX5_ringsInAll_7 rfl (fun h13 => by omega) (fun h13 => ?_)
  refine r_iload_n hC dX5_ringsInAll_10 rfl ?_
  refine r_aload_n hC dX5_ringsInAll_11 rfl ?_
  refine r_iload_n hC dX5_ringsInAll_12 rfl ?_
  refine m_inv1 hM dX5_ringsInAll_13 vl_RX5_312 rfl rfl rfl (Nat.le_of_ble_eq_true rfl) (Nat.le_of_ble_eq_true rfl) ?_
  refine w_isTold0 hF ?_
  refine r_if_eq (tgt := 31) hC dX5_ringsInAll_16 rfl (fun h15 => ?_) (fun h15 => by omega)
  refine r_iconst hC dX5_ringsInAll_31 rfl ?_
  refine r_iaddE hC (0) dX5_ringsInAll_32 rfl (inR_lit rfl) ?_
  refine r_istore_n hC dX5_ringsInAll_33 rfl ?_
  refine r_iincE hC (5) dX5_ringsInAll_34 rfl rfl rfl (inR_lit rfl) ?_
  show K _ [_, _, _] _ _
  refine r_goto (tgt := 4) hC dX5_ringsInAll_37 rfl ?_
  refine r_iload_n hC dX5_ringsInAll_4 rfl ?_
  refine r_bipush hC dX5_ringsInAll_5 rfl ?_
  refine r_icmp_ge (tgt := 40) hC dX5_ringsInAll_7 rfl (fun h16 => by omega) (fun h16 => ?_)
  refine r_iload_n hC dX5_ringsInAll_10 rfl ?_
  refine r_aload_n hC dX5_ringsInAll_11 rfl ?_
  refine r_iload_n hC dX5_ringsInAll_12 rfl ?_
  refine m_inv1 hM dX5_ringsInAll_13 vl_RX5_312 rfl rfl rfl (Nat.le_of_ble_eq_true rfl) (Nat.le_of_ble_eq_true rfl) ?_
  refine w_isTold0 hF ?_
  refine r_if_eq (tgt := 31) hC dX5_ringsInAll_16 rfl (fun h18 => ?_) (fun h18 => by omega)
  refine r_iconst hC dX5_ringsInAll_31 rfl ?_
  refine r_iaddE hC (0) dX5_ringsInAll_32 rfl (inR_lit rfl) ?_
  refine r_istore_n hC dX5_ringsInAll_33 rfl ?_
  refine r_iincE hC (6) dX5_ringsInAll_34 rfl rfl rfl (inR_lit rfl) ?_
  refine r_goto (tgt := 4) hC dX5_ringsInAll_37 rfl ?_
  refine r_iload_n hC dX5_ringsInAll_4 rfl ?_
  refine r_bipush hC dX5_ringsInAll_5 rfl ?_
  refine r_icmp_ge (tgt := 40) hC dX5_ringsInAll_7 rfl (fun h19 => by omega) (fun h19 => ?_)
  refine r_iload_n hC dX5_ringsInAll_10 rfl ?_
  refine r_aload_n hC dX5_ringsInAll_11 rfl ?_
  refine r_iload_n hC dX5_ringsInAll_12 rfl ?_
  refine m_inv1 hM dX5_ringsInAll_13 vl_RX5_312 rfl rfl rfl (Nat.le_of_ble_eq_true rfl) (Nat.le_of_ble_eq_true rfl) ?_
  refine w_isTold0 hF ?_
  refine r_if_eq (tgt := 31) hC dX5_ringsInAll_16 rfl (fun h21 => ?_) (fun h21 => by omega)
  refine r_iconst hC dX5_ringsInAll_31 rfl ?_
  refine r_iaddE hC (0) dX5_ringsInAll_32 rfl (inR_lit rfl) ?_
  refine r_istore_n hC dX5_ringsInAll_33 rfl ?_
  show K _ [_, _, _] _ _
  refine r_iincE hC (7) dX5_ringsInAll_34 rfl rfl rfl (inR_lit rfl) ?_
  refine r_goto (tgt := 4) hC dX5_ringsInAll_37 rfl ?_
  refine r_iload_n hC dX5_ringsInAll_4 rfl ?_
  refine r_bipush hC dX5_ringsInAll_5 rfl ?_
  refine r_icmp_ge (tgt := 40) hC dX5_ringsInAll_7 rfl (fun h22 => by omega) (fun h22 => ?_)
  refine r_iload_n hC dX5_ringsInAll_10 rfl ?_
  refine r_aload_n hC dX5_ringsInAll_11 rfl ?_
  refine r_iload_n hC dX5_ringsInAll_12 rfl ?_
  refine m_inv1 hM dX5_ringsInAll_13 vl_RX5_312 rfl rfl rfl (Nat.le_of_ble_eq_true rfl) (Nat.le_of_ble_eq_true rfl) ?_
  refine w_isTold0 hF ?_
  refine r_if_eq (tgt := 31) hC dX5_ringsInAll_16 rfl (fun h24 => ?_) (fun h24 => by omega)
  refine r_iconst hC dX5_ringsInAll_31 rfl ?_
  refine r_iaddE hC (0) dX5_ringsInAll_32 rfl (inR_lit rfl) ?_
  refine r_istore_n hC dX5_ringsInAll_33 rfl ?_
  refine r_iincE hC (8) dX5_ringsInAll_34 rfl rfl rfl (inR_lit rfl) ?_
  show K _ [_, _, _] _ _
  refine r_goto (tgt := 4) hC dX5_ringsInAll_37 rfl ?_
  refine r_iload_n hC dX5_ringsInAll_4 rfl ?_
  refine r_bipush hC dX5_ringsInAll_5 rfl ?_
  refine r_icmp_ge (tgt := 40) hC dX5_ringsInAll_7 rfl (fun h25 => ?_) (fun h25 => by omega)
  refine r_iload_n hC dX5_ringsInAll_40 rfl ?_
  refine t_iret hK rfl dX5_ringsInAll_41 ?_
  exact k
theorem w_linksInAll0 {d : Nat} {Post : Option Vl → Mm → Prop} {τ : Mm}  (hF : FrC τ) (k : Post (some (vI (0))) τ) : WP (d + 1) 123 [vR 2 0] τ Post := by
  intro K hK
  have hK : StpF cX5_linksInAll RX5 (some .int) (WP (d + 0)) Post K := hK
  have hM := hK.1
  have hC := hK.1.1
  show K 0 [some (vR 2 0), none, none] [] τ
  refine r_iconst hC dX5_linksInAll_0 rfl ?_
  refine r_istore_n hC dX5_linksInAll_1 rfl ?_
  refine r_iconst hC dX5_linksInAll_2 rfl ?_
  refine r_istore_n hC dX5_linksInAll_3 rfl ?_
  refine r_iload_n hC dX5_linksInAll_4 rfl ?_
  refine r_iconst hC dX5_linksInAll_5 rfl ?_
  refine r_icmp_ge (tgt := 36) hC dX5_linksInAll_6 rfl (fun h1 => by omega) (fun h1 => ?_)
  refine r_iload_n hC dX5_linksInAll_9 rfl ?_
  refine r_aload_n hC dX5_linksInAll_10 rfl ?_
  refine m_getR hM dX5_linksInAll_11 fl_RX5_19 rfl rfl (vld_of (n := 1) rfl (by omega) (by omega)) ?_
  refine r_iload_n hC dX5_linksInAll_14 rfl ?_
  refine m_aald hM dX5_linksInAll_15 rfl (by decide) (by omega) (by omega) (vld_of (n := 4) rfl (by omega) (by omega)) ?_
  refine m_getI (jz := 0) hM dX5_linksInAll_16 fl_RX5_215 rfl rfl rfl ?_
  refine r_iconst hC dX5_linksInAll_19 rfl ?_
  have e1 := hF.2.2.2 (0) (by decide) (by decide)
  refine r_icmp_eq (tgt := 27) hC dX5_linksInAll_20 rfl (fun h2 => ?_) (fun h2 => by omega)
  refine r_iconst hC dX5_linksInAll_27 rfl ?_
  refine r_iaddE hC (0) dX5_linksInAll_28 rfl (inR_lit rfl) ?_
  refine r_istore_n hC dX5_linksInAll_29 rfl ?_
  show K _ [_, _, _] _ _
  refine r_iincE hC (1) dX5_linksInAll_30 rfl rfl rfl (inR_lit rfl) ?_
  refine r_goto (tgt := 4) hC dX5_linksInAll_33 rfl ?_
  refine r_iload_n hC dX5_linksInAll_4 rfl ?_
  refine r_iconst hC dX5_linksInAll_5 rfl ?_
  refine r_icmp_ge (tgt := 36) hC dX5_linksInAll_6 rfl (fun h3 => by omega) (fun h3 => ?_)
  refine r_iload_n hC dX5_linksInAll_9 rfl ?_
  refine r_aload_n hC dX5_linksInAll_10 rfl ?_
  refine m_getR hM dX5_linksInAll_11 fl_RX5_19 rfl rfl (vld_of (n := 1) rfl (by omega) (by omega)) ?_
  refine r_iload_n hC dX5_linksInAll_14 rfl ?_
  refine m_aald hM dX5_linksInAll_15 rfl (by decide) (by omega) (by omega) (vld_of (n := 4) rfl (by omega) (by omega)) ?_
  refine m_getI (jz := 0) hM dX5_linksInAll_16 fl_RX5_215 rfl rfl rfl ?_
  refine r_iconst hC dX5_linksInAll_19 rfl ?_
  have e1 := hF.2.2.2 (1) (by decide) (by decide)
  refine r_icmp_eq (tgt := 27) hC dX5_linksInAll_20 rfl (fun h4 => ?_) (fun h4 => by omega)
  refine r_iconst hC dX5_linksInAll_27 rfl ?_
  refine r_iaddE hC (0) dX5_linksInAll_28 rfl (inR_lit rfl) ?_
  refine r_istore_n hC dX5_linksInAll_29 rfl ?_
  refine r_iincE hC (2) dX5_linksInAll_30 rfl rfl rfl (inR_lit rfl) ?_
  show K _ [_, _, _] _ _
  refine r_goto (tgt := 4) hC dX5_linksInAll_33 rfl ?_
  refine r_iload_n hC dX5_linksInAll_4 rfl ?_
  refine r_iconst hC dX5_linksInAll_5 rfl ?_
  refine r_icmp_ge (tgt := 36) hC dX5_linksInAll_6 rfl (fun h5 => by omega) (fun h5 => ?_)
  refine r_iload_n hC dX5_linksInAll_9 rfl ?_
  refine r_aload_n hC dX5_linksInAll_10 rfl ?_
  refine m_getR hM dX5_linksInAll_11 fl_RX5_19 rfl rfl (vld_of (n := 1) rfl (by omega) (by omega)) ?_
  refine r_iload_n hC dX5_linksInAll_14 rfl ?_
  refine m_aald hM dX5_linksInAll_15 rfl (by decide) (by omega) (by omega) (vld_of (n := 4) rfl (by omega) (by omega)) ?_
  refine m_getI (jz := 0) hM dX5_linksInAll_16 fl_RX5_215 rfl rfl rfl ?_
  refine r_iconst hC dX5_linksInAll_19 rfl ?_
  have e1 := hF.2.2.2 (2) (by decide) (by decide)
  refine r_icmp_eq (tgt := 27) hC dX5_linksInAll_20 rfl (fun h6 => ?_) (fun h6 => by omega)
  refine r_iconst hC dX5_linksInAll_27 rfl ?_
  refine r_iaddE hC (0) dX5_linksInAll_28 rfl (inR_lit rfl) ?_
  refine r_istore_n hC dX5_linksInAll_29 rfl ?_
  refine r_iincE hC (3) dX5_linksInAll_30 rfl rfl rfl (inR_lit rfl) ?_
  refine r_goto (tgt := 4) hC dX5_linksInAll_33 rfl ?_
  refine r_iload_n hC dX5_linksInAll_4 rfl ?_
  refine r_iconst hC dX5_linksInAll_5 rfl ?_
  refine r_icmp_ge (tgt := 36) hC dX5_linksInAll_6 rfl (fun h7 => by omega) (fun h7 => ?_)
  refine r_iload_n hC dX5_linksInAll_9 rfl ?_
  refine r_aload_n hC dX5_linksInAll_10 rfl ?_
  refine m_getR hM dX5_linksInAll_11 fl_RX5_19 rfl rfl (vld_of (n := 1) rfl (by omega) (by omega)) ?_
  refine r_iload_n hC dX5_linksInAll_14 rfl ?_
  refine m_aald hM dX5_linksInAll_15 rfl (by decide) (by omega) (by omega) (vld_of (n := 4) rfl (by omega) (by omega)) ?_
  refine m_getI (jz := 0) hM dX5_linksInAll_16 fl_RX5_215 rfl rfl rfl ?_
  refine r_iconst hC dX5_linksInAll_19 rfl ?_
  have e1 := hF.2.2.2 (3) (by decide) (by decide)
  refine r_icmp_eq (tgt := 27) hC dX5_linksInAll_20 rfl (fun h8 => ?_) (fun h8 => by omega)
  refine r_iconst hC dX5_linksInAll_27 rfl ?_
  refine r_iaddE hC (0) dX5_linksInAll_28 rfl (inR_lit rfl) ?_
  refine r_istore_n hC dX5_linksInAll_29 rfl ?_
  show K _ [_, _, _] _ _
  refine r_iincE hC (4) dX5_linksInAll_30 rfl rfl rfl (inR_lit rfl) ?_
  refine r_goto (tgt := 4) hC dX5_linksInAll_33 rfl ?_
  refine r_iload_n hC dX5_linksInAll_4 rfl ?_
  refine r_iconst hC dX5_linksInAll_5 rfl ?_
  refine r_icmp_ge (tgt := 36) hC dX5_linksInAll_6 rfl (fun h9 => ?_) (fun h9 => by omega)
  refine r_iload_n hC dX5_linksInAll_36 rfl ?_
  refine t_iret hK rfl dX5_linksInAll_37 ?_
  exact k
theorem c0_about {d : Nat} {Post : Option Vl → Mm → Prop} {τ : Mm} {w : Int} (hF : FrC τ) (k : ∀ r : Int, ((0 ≤ w ∧ w ≤ 6) ∧ r = 0) ∨ (¬ (0 ≤ w ∧ w ≤ 6) ∧ r = -1) → Post (some (vI r)) τ) : WP (d + 4) 116 [vR 2 0, vI w] τ Post := by
  intro K hK
  have hK : StpF cX5_about RX5 (some .int) (WP (d + 3)) Post K := hK
  have hM := hK.1
  have hC := hK.1.1
  show K 0 [some (vR 2 0), some (vI w)] [] τ
  refine r_iload_n hC dX5_about_0 rfl ?_
  rcases (by omega : (w < 0 ∨ 6 < w) ∨ w = 0 ∨ w = 1 ∨ w = 2 ∨ w = 3 ∨ w = 4 ∨ w = 5 ∨ w = 6) with h1 | h1 | h1 | h1 | h1 | h1 | h1 | h1
  · refine r_tableOut (tgt := 79) hC dX5_about_1 h1 rfl ?_
    refine r_iconst hC dX5_about_79 rfl ?_
    refine t_iret hK rfl dX5_about_80 ?_
    exact k _ (by omega)
  · refine r_tableIn (tgt := 44) (off := 43) hC dX5_about_1 (by omega) (by omega) (by rw [h1]; rfl) rfl ?_
    refine r_aload_n hC dX5_about_44 rfl ?_
    refine m_inv0 hM dX5_about_45 vl_RX5_120 rfl rfl rfl (Nat.le_of_ble_eq_true rfl) (Nat.le_of_ble_eq_true rfl) ?_
    refine w_openLanes0 hF ?_
    refine t_iret hK rfl dX5_about_48 ?_
    exact k _ (by omega)
  · refine r_tableIn (tgt := 49) (off := 48) hC dX5_about_1 (by omega) (by omega) (by rw [h1]; rfl) rfl ?_
    refine r_aload_n hC dX5_about_49 rfl ?_
    refine m_inv0 hM dX5_about_50 vl_RX5_351 rfl rfl rfl (Nat.le_of_ble_eq_true rfl) (Nat.le_of_ble_eq_true rfl) ?_
    refine w_heldInAll0 hF ?_
    refine t_iret hK rfl dX5_about_53 ?_
    exact k _ (by omega)
  · refine r_tableIn (tgt := 54) (off := 53) hC dX5_about_1 (by omega) (by omega) (by rw [h1]; rfl) rfl ?_
    refine r_aload_n hC dX5_about_54 rfl ?_
    refine m_inv0 hM dX5_about_55 vl_RX5_354 rfl rfl rfl (Nat.le_of_ble_eq_true rfl) (Nat.le_of_ble_eq_true rfl) ?_
    refine w_spentInAll0 hF ?_
    refine t_iret hK rfl dX5_about_58 ?_
    exact k _ (by omega)
  · refine r_tableIn (tgt := 59) (off := 58) hC dX5_about_1 (by omega) (by omega) (by rw [h1]; rfl) rfl ?_
    refine r_aload_n hC dX5_about_59 rfl ?_
    refine m_inv0 hM dX5_about_60 vl_RX5_357 rfl rfl rfl (Nat.le_of_ble_eq_true rfl) (Nat.le_of_ble_eq_true rfl) ?_
    refine w_toldWatches0 hF ?_
    refine t_iret hK rfl dX5_about_63 ?_
    exact k _ (by omega)
  · refine r_tableIn (tgt := 64) (off := 63) hC dX5_about_1 (by omega) (by omega) (by rw [h1]; rfl) rfl ?_
    refine r_aload_n hC dX5_about_64 rfl ?_
    refine m_inv0 hM dX5_about_65 vl_RX5_360 rfl rfl rfl (Nat.le_of_ble_eq_true rfl) (Nat.le_of_ble_eq_true rfl) ?_
    refine w_fullBoxes0 hF ?_
    refine t_iret hK rfl dX5_about_68 ?_
    exact k _ (by omega)
  · refine r_tableIn (tgt := 69) (off := 68) hC dX5_about_1 (by omega) (by omega) (by rw [h1]; rfl) rfl ?_
    refine r_aload_n hC dX5_about_69 rfl ?_
    refine m_inv0 hM dX5_about_70 vl_RX5_363 rfl rfl rfl (Nat.le_of_ble_eq_true rfl) (Nat.le_of_ble_eq_true rfl) ?_
    refine w_ringsInAll0 hF ?_
    refine t_iret hK rfl dX5_about_73 ?_
    exact k _ (by omega)
  · refine r_tableIn (tgt := 74) (off := 73) hC dX5_about_1 (by omega) (by omega) (by rw [h1]; rfl) rfl ?_
    refine r_aload_n hC dX5_about_74 rfl ?_
    refine m_inv0 hM dX5_about_75 vl_RX5_366 rfl rfl rfl (Nat.le_of_ble_eq_true rfl) (Nat.le_of_ble_eq_true rfl) ?_
    refine w_linksInAll0 hF ?_
    refine t_iret hK rfl dX5_about_78 ?_
    exact k _ (by omega)
theorem w_isUsed0 {d : Nat} {Post : Option Vl → Mm → Prop} {τ : Mm} {o : Int} (hF : FrC τ) (k : Post (some (vI (0))) τ) : WP (d + 1) 57 [vR 2 0, vI o] τ Post := by
  intro K hK
  have hK : StpF cX5_isUsed RX5 (some .boolean) (WP (d + 0)) Post K := hK
  have hM := hK.1
  have hC := hK.1.1
  show K 0 [some (vR 2 0), some (vI o), none] [] τ
  refine r_iconst hC dX5_isUsed_0 rfl ?_
  refine r_istore_n hC dX5_isUsed_1 rfl ?_
  refine r_iload_n hC dX5_isUsed_2 rfl ?_
  refine r_iconst hC dX5_isUsed_3 rfl ?_
  refine r_icmp_ge (tgt := 40) hC dX5_isUsed_4 rfl (fun h1 => by omega) (fun h1 => ?_)
  refine r_aload_n hC dX5_isUsed_7 rfl ?_
  refine m_getR hM dX5_isUsed_8 fl_RX5_13 rfl rfl (vld_of (n := 1) rfl (by omega) (by omega)) ?_
  refine r_iload_n hC dX5_isUsed_11 rfl ?_
  refine m_aald hM dX5_isUsed_12 rfl (by decide) (by omega) (by omega) (vld_of (n := 7) rfl (by omega) (by omega)) ?_
  refine m_getI (jz := 1) hM dX5_isUsed_13 fl_RX5_94 rfl rfl rfl ?_
  have e1 := hF.1 (0) (by decide) (by decide)
  refine r_if_eq (tgt := 34) hC dX5_isUsed_16 rfl (fun h2 => ?_) (fun h2 => by omega)
  refine r_iincE hC (1) dX5_isUsed_34 rfl rfl rfl (inR_lit rfl) ?_
  refine r_goto (tgt := 2) hC dX5_isUsed_37 rfl ?_
  refine r_iload_n hC dX5_isUsed_2 rfl ?_
  refine r_iconst hC dX5_isUsed_3 rfl ?_
  refine r_icmp_ge (tgt := 40) hC dX5_isUsed_4 rfl (fun h3 => by omega) (fun h3 => ?_)
  refine r_aload_n hC dX5_isUsed_7 rfl ?_
  refine m_getR hM dX5_isUsed_8 fl_RX5_13 rfl rfl (vld_of (n := 1) rfl (by omega) (by omega)) ?_
  refine r_iload_n hC dX5_isUsed_11 rfl ?_
  refine m_aald hM dX5_isUsed_12 rfl (by decide) (by omega) (by omega) (vld_of (n := 7) rfl (by omega) (by omega)) ?_
  refine m_getI (jz := 1) hM dX5_isUsed_13 fl_RX5_94 rfl rfl rfl ?_
  have e1 := hF.1 (1) (by decide) (by decide)
  refine r_if_eq (tgt := 34) hC dX5_isUsed_16 rfl (fun h4 => ?_) (fun h4 => by omega)
  refine r_iincE hC (2) dX5_isUsed_34 rfl rfl rfl (inR_lit rfl) ?_
  show K _ [_, _, _] _ _
  refine r_goto (tgt := 2) hC dX5_isUsed_37 rfl ?_
  refine r_iload_n hC dX5_isUsed_2 rfl ?_
  refine r_iconst hC dX5_isUsed_3 rfl ?_
  refine r_icmp_ge (tgt := 40) hC dX5_isUsed_4 rfl (fun h5 => by omega) (fun h5 => ?_)
  refine r_aload_n hC dX5_isUsed_7 rfl ?_
  refine m_getR hM dX5_isUsed_8 fl_RX5_13 rfl rfl (vld_of (n := 1) rfl (by omega) (by omega)) ?_
  refine r_iload_n hC dX5_isUsed_11 rfl ?_
  refine m_aald hM dX5_isUsed_12 rfl (by decide) (by omega) (by omega) (vld_of (n := 7) rfl (by omega) (by omega)) ?_
  refine m_getI (jz := 1) hM dX5_isUsed_13 fl_RX5_94 rfl rfl rfl ?_
  have e1 := hF.1 (2) (by decide) (by decide)
  refine r_if_eq (tgt := 34) hC dX5_isUsed_16 rfl (fun h6 => ?_) (fun h6 => by omega)
  refine r_iincE hC (3) dX5_isUsed_34 rfl rfl rfl (inR_lit rfl) ?_
  refine r_goto (tgt := 2) hC dX5_isUsed_37 rfl ?_
  refine r_iload_n hC dX5_isUsed_2 rfl ?_
  refine r_iconst hC dX5_isUsed_3 rfl ?_
  refine r_icmp_ge (tgt := 40) hC dX5_isUsed_4 rfl (fun h7 => by omega) (fun h7 => ?_)
  refine r_aload_n hC dX5_isUsed_7 rfl ?_
  refine m_getR hM dX5_isUsed_8 fl_RX5_13 rfl rfl (vld_of (n := 1) rfl (by omega) (by omega)) ?_
  refine r_iload_n hC dX5_isUsed_11 rfl ?_
  refine m_aald hM dX5_isUsed_12 rfl (by decide) (by omega) (by omega) (vld_of (n := 7) rfl (by omega) (by omega)) ?_
  refine m_getI (jz := 1) hM dX5_isUsed_13 fl_RX5_94 rfl rfl rfl ?_
  have e1 := hF.1 (3) (by decide) (by decide)
  refine r_if_eq (tgt := 34) hC dX5_isUsed_16 rfl (fun h8 => ?_) (fun h8 => by omega)
  refine r_iincE hC (4) dX5_isUsed_34 rfl rfl rfl (inR_lit rfl) ?_
  refine r_goto (tgt := 2) hC dX5_isUsed_37 rfl ?_
  refine r_iload_n hC dX5_isUsed_2 rfl ?_
  refine r_iconst hC dX5_isUsed_3 rfl ?_
  refine r_icmp_ge (tgt := 40) hC dX5_isUsed_4 rfl (fun h9 => ?_) (fun h9 => by omega)
  refine r_iconst hC dX5_isUsed_40 rfl ?_
  refine r_istore_n hC dX5_isUsed_41 rfl ?_
  show K _ [_, _, _] _ _
  refine r_iload_n hC dX5_isUsed_42 rfl ?_
  refine r_iconst hC dX5_isUsed_43 rfl ?_
  refine r_icmp_ge (tgt := 80) hC dX5_isUsed_44 rfl (fun h10 => by omega) (fun h10 => ?_)
  refine r_aload_n hC dX5_isUsed_47 rfl ?_
  refine m_getR hM dX5_isUsed_48 fl_RX5_27 rfl rfl (vld_of (n := 1) rfl (by omega) (by omega)) ?_
  refine r_iload_n hC dX5_isUsed_51 rfl ?_
  refine m_aald hM dX5_isUsed_52 rfl (by decide) (by omega) (by omega) (vld_of (n := 7) rfl (by omega) (by omega)) ?_
  refine m_getI (jz := 1) hM dX5_isUsed_53 fl_RX5_94 rfl rfl rfl ?_
  have e1 : τ 7 (4 + 0) 1 = 0 := hF.1 (4 + 0) (by decide) (by decide)
  refine r_if_eq (tgt := 74) hC dX5_isUsed_56 rfl (fun h11 => ?_) (fun h11 => by omega)
  refine r_iincE hC (1) dX5_isUsed_74 rfl rfl rfl (inR_lit rfl) ?_
  refine r_goto (tgt := 42) hC dX5_isUsed_77 rfl ?_
  refine r_iload_n hC dX5_isUsed_42 rfl ?_
  refine r_iconst hC dX5_isUsed_43 rfl ?_
  refine r_icmp_ge (tgt := 80) hC dX5_isUsed_44 rfl (fun h12 => by omega) (fun h12 => ?_)
  refine r_aload_n hC dX5_isUsed_47 rfl ?_
  refine m_getR hM dX5_isUsed_48 fl_RX5_27 rfl rfl (vld_of (n := 1) rfl (by omega) (by omega)) ?_
  refine r_iload_n hC dX5_isUsed_51 rfl ?_
  refine m_aald hM dX5_isUsed_52 rfl (by decide) (by omega) (by omega) (vld_of (n := 7) rfl (by omega) (by omega)) ?_
  refine m_getI (jz := 1) hM dX5_isUsed_53 fl_RX5_94 rfl rfl rfl ?_
  have e1 : τ 7 (4 + 1) 1 = 0 := hF.1 (4 + 1) (by decide) (by decide)
  refine r_if_eq (tgt := 74) hC dX5_isUsed_56 rfl (fun h13 => ?_) (fun h13 => by omega)
  refine r_iincE hC (2) dX5_isUsed_74 rfl rfl rfl (inR_lit rfl) ?_
  refine r_goto (tgt := 42) hC dX5_isUsed_77 rfl ?_
  refine r_iload_n hC dX5_isUsed_42 rfl ?_
  refine r_iconst hC dX5_isUsed_43 rfl ?_
  refine r_icmp_ge (tgt := 80) hC dX5_isUsed_44 rfl (fun h14 => by omega) (fun h14 => ?_)
  refine r_aload_n hC dX5_isUsed_47 rfl ?_
  refine m_getR hM dX5_isUsed_48 fl_RX5_27 rfl rfl (vld_of (n := 1) rfl (by omega) (by omega)) ?_
  refine r_iload_n hC dX5_isUsed_51 rfl ?_
  refine m_aald hM dX5_isUsed_52 rfl (by decide) (by omega) (by omega) (vld_of (n := 7) rfl (by omega) (by omega)) ?_
  refine m_getI (jz := 1) hM dX5_isUsed_53 fl_RX5_94 rfl rfl rfl ?_
  have e1 : τ 7 (4 + 2) 1 = 0 := hF.1 (4 + 2) (by decide) (by decide)
  refine r_if_eq (tgt := 74) hC dX5_isUsed_56 rfl (fun h15 => ?_) (fun h15 => by omega)
  refine r_iincE hC (3) dX5_isUsed_74 rfl rfl rfl (inR_lit rfl) ?_
  show K _ [_, _, _] _ _
  refine r_goto (tgt := 42) hC dX5_isUsed_77 rfl ?_
  refine r_iload_n hC dX5_isUsed_42 rfl ?_
  refine r_iconst hC dX5_isUsed_43 rfl ?_
  refine r_icmp_ge (tgt := 80) hC dX5_isUsed_44 rfl (fun h16 => ?_) (fun h16 => by omega)
  refine r_iconst hC dX5_isUsed_80 rfl ?_
  refine t_zret hK rfl dX5_isUsed_81 (by omega) ?_
  exact k
theorem c0_table {d : Nat} {Post : Option Vl → Mm → Prop} {τ : Mm} {c e : Int} (hF : FrC τ) (k : ∀ (r : Int) (τ2 : Mm), (((0 ≤ c ∧ c ≤ 15) ∧ (0 ≤ e ∧ e ≤ 3)) ∧ r = 1) ∨ (¬ ((0 ≤ c ∧ c ≤ 15) ∧ (0 ≤ e ∧ e ≤ 3)) ∧ r = 0) → Sm30 τ τ2 → Post (some (vI r)) τ2) : WP (d + 2) 47 [vR 2 0, vI c, vI e] τ Post := by
  intro K hK
  have hK : StpF cX5_table RX5 (some .boolean) (WP (d + 1)) Post K := hK
  have hM := hK.1
  have hC := hK.1.1
  show K 0 [some (vR 2 0), some (vI c), some (vI e)] [] τ
  refine r_iload_n hC dX5_table_0 rfl ?_
  refine r_iconst hC dX5_table_1 rfl ?_
  refine r_bipush hC dX5_table_2 rfl ?_
  refine m_ins3 hM dX5_table_4 tl_RX5_59 rfl (Nat.le_of_ble_eq_true rfl) (Nat.le_of_ble_eq_true rfl) ?_
  refine w_within (fun rh1 h1 => ?_)
  refine r_if_eq (tgt := 28) hC dX5_table_7 rfl (fun h2 => ?_) (fun h2 => ?_)
  · refine r_iconst hC dX5_table_28 rfl ?_
    refine t_zret hK rfl dX5_table_29 (by omega) ?_
    first | exact k _ _ (by omega) Sm30.rf | exact k _ _ (by omega) (Sm30.rf.mu (by decide))
  · refine r_iload_n hC dX5_table_10 rfl ?_
    refine r_iconst hC dX5_table_11 rfl ?_
    refine r_iconst hC dX5_table_12 rfl ?_
    refine m_ins3 hM dX5_table_13 tl_RX5_59 rfl (Nat.le_of_ble_eq_true rfl) (Nat.le_of_ble_eq_true rfl) ?_
    refine w_within (fun rh3 h3 => ?_)
    refine r_if_eq (tgt := 28) hC dX5_table_16 rfl (fun h4 => ?_) (fun h4 => ?_)
    · refine r_iconst hC dX5_table_28 rfl ?_
      refine t_zret hK rfl dX5_table_29 (by omega) ?_
      first | exact k _ _ (by omega) Sm30.rf | exact k _ _ (by omega) (Sm30.rf.mu (by decide))
    · refine r_aload_n hC dX5_table_19 rfl ?_
      refine r_bipush hC dX5_table_20 rfl ?_
      refine m_inv1 hM dX5_table_22 vl_RX5_63 rfl rfl rfl (Nat.le_of_ble_eq_true rfl) (Nat.le_of_ble_eq_true rfl) ?_
      refine w_isUsed0 hF ?_
      refine r_if_eq (tgt := 30) hC dX5_table_25 rfl (fun h6 => ?_) (fun h6 => by omega)
      refine r_aload_n hC dX5_table_30 rfl ?_
      refine m_getR hM dX5_table_31 fl_RX5_40 rfl rfl (vld_of (n := 1) rfl (by omega) (by omega)) ?_
      refine m_getR hM dX5_table_34 fl_RX5_67 rfl rfl (vld_of (n := 1) rfl (by omega) (by omega)) ?_
      refine r_iload_n hC dX5_table_37 rfl ?_
      refine r_iload_n hC dX5_table_38 rfl ?_
      refine m_iast hM dX5_table_39 rfl (by omega) (by omega) ?_
      refine r_iconst hC dX5_table_40 rfl ?_
      refine t_zret hK rfl dX5_table_41 (by omega) ?_
      first | exact k _ _ (by omega) Sm30.rf | exact k _ _ (by omega) (Sm30.rf.mu (by decide))
theorem c0_letter {d : Nat} {Post : Option Vl → Mm → Prop} {τ : Mm} {c e : Int} (hF : FrC τ) (k : ∀ (r : Int) (τ2 : Mm), (((0 ≤ c ∧ c ≤ 7) ∧ (0 ≤ e ∧ e ≤ 255)) ∧ r = 1) ∨ (¬ ((0 ≤ c ∧ c ≤ 7) ∧ (0 ≤ e ∧ e ≤ 255)) ∧ r = 0) → Sm30 τ τ2 → Post (some (vI r)) τ2) : WP (d + 2) 48 [vR 2 0, vI c, vI e] τ Post := by
  intro K hK
  have hK : StpF cX5_letter RX5 (some .boolean) (WP (d + 1)) Post K := hK
  have hM := hK.1
  have hC := hK.1.1
  show K 0 [some (vR 2 0), some (vI c), some (vI e)] [] τ
  refine r_iload_n hC dX5_letter_0 rfl ?_
  refine r_iconst hC dX5_letter_1 rfl ?_
  refine r_bipush hC dX5_letter_2 rfl ?_
  refine m_ins3 hM dX5_letter_4 tl_RX5_59 rfl (Nat.le_of_ble_eq_true rfl) (Nat.le_of_ble_eq_true rfl) ?_
  refine w_within (fun rh1 h1 => ?_)
  refine r_if_eq (tgt := 29) hC dX5_letter_7 rfl (fun h2 => ?_) (fun h2 => ?_)
  · refine r_iconst hC dX5_letter_29 rfl ?_
    refine t_zret hK rfl dX5_letter_30 (by omega) ?_
    first | exact k _ _ (by omega) Sm30.rf | exact k _ _ (by omega) (Sm30.rf.mu (by decide))
  · refine r_iload_n hC dX5_letter_10 rfl ?_
    refine r_iconst hC dX5_letter_11 rfl ?_
    refine r_sipush hC dX5_letter_12 rfl ?_
    refine m_ins3 hM dX5_letter_15 tl_RX5_59 rfl (Nat.le_of_ble_eq_true rfl) (Nat.le_of_ble_eq_true rfl) ?_
    refine w_within (fun rh3 h3 => ?_)
    refine r_if_eq (tgt := 29) hC dX5_letter_18 rfl (fun h4 => ?_) (fun h4 => ?_)
    · refine r_iconst hC dX5_letter_29 rfl ?_
      refine t_zret hK rfl dX5_letter_30 (by omega) ?_
      first | exact k _ _ (by omega) Sm30.rf | exact k _ _ (by omega) (Sm30.rf.mu (by decide))
    · refine r_aload_n hC dX5_letter_21 rfl ?_
      refine r_iconst hC dX5_letter_22 rfl ?_
      refine m_inv1 hM dX5_letter_23 vl_RX5_63 rfl rfl rfl (Nat.le_of_ble_eq_true rfl) (Nat.le_of_ble_eq_true rfl) ?_
      refine w_isUsed0 hF ?_
      refine r_if_eq (tgt := 31) hC dX5_letter_26 rfl (fun h6 => ?_) (fun h6 => by omega)
      refine r_aload_n hC dX5_letter_31 rfl ?_
      refine m_getR hM dX5_letter_32 fl_RX5_40 rfl rfl (vld_of (n := 1) rfl (by omega) (by omega)) ?_
      refine m_getR hM dX5_letter_35 fl_RX5_71 rfl rfl (vld_of (n := 1) rfl (by omega) (by omega)) ?_
      refine r_iload_n hC dX5_letter_38 rfl ?_
      refine r_iload_n hC dX5_letter_39 rfl ?_
      refine m_iast hM dX5_letter_40 rfl (by omega) (by omega) ?_
      refine r_iconst hC dX5_letter_41 rfl ?_
      refine t_zret hK rfl dX5_letter_42 (by omega) ?_
      first | exact k _ _ (by omega) Sm30.rf | exact k _ _ (by omega) (Sm30.rf.mu (by decide))
theorem w_product0 {d : Nat} {Post : Option Vl → Mm → Prop} {τ : Mm} {x y : Int} (hF : FrC τ) (hx : 0 ≤ x ∧ x < 4) (hy : 0 ≤ y ∧ y < 4) (k : Post (some (vI 0)) τ) : WP (d + 1) 51 [vR 2 0, vI x, vI y] τ Post := by
  intro K hK
  have hK : StpF cX5_product RX5 (some .int) (WP (d + 0)) Post K := hK
  have hM := hK.1
  have hC := hK.1.1
  show K 0 [some (vR 2 0), some (vI x), some (vI y)] [] τ
  refine r_aload_n hC dX5_product_0 rfl ?_
  refine m_getR hM dX5_product_1 fl_RX5_40 rfl rfl (vld_of (n := 1) rfl (by omega) (by omega)) ?_
  refine m_getR hM dX5_product_4 fl_RX5_67 rfl rfl (vld_of (n := 1) rfl (by omega) (by omega)) ?_
  refine r_iconst hC dX5_product_7 rfl ?_
  refine r_iload_n hC dX5_product_8 rfl ?_
  refine r_imulS hC dX5_product_9 (by unfold inR; omega) ?_
  refine r_iload_n hC dX5_product_10 rfl ?_
  refine r_iaddS hC dX5_product_11 (by unfold inR; omega) ?_
  refine m_iald hM dX5_product_12 rfl (by omega) (by omega) ?_
  refine t_iret hK rfl dX5_product_13 ?_
  exact post_of (hF.2.1 (4 * x + y) (by omega) (by omega)) k
theorem w_associates0 {d : Nat} {Post : Option Vl → Mm → Prop} {τ : Mm} {x y z : Int} (hF : FrC τ) (hx : 0 ≤ x ∧ x < 4) (hy : 0 ≤ y ∧ y < 4) (hz : 0 ≤ z ∧ z < 4) (k : Post (some (vI 1)) τ) : WP (d + 2) 52 [vR 2 0, vI x, vI y, vI z] τ Post := by
  intro K hK
  have hK : StpF cX5_associates RX5 (some .boolean) (WP (d + 1)) Post K := hK
  have hM := hK.1
  have hC := hK.1.1
  show K 0 [some (vR 2 0), some (vI x), some (vI y), some (vI z)] [] τ
  refine r_aload_n hC dX5_associates_0 rfl ?_
  refine r_aload_n hC dX5_associates_1 rfl ?_
  refine r_iload_n hC dX5_associates_2 rfl ?_
  refine r_iload_n hC dX5_associates_3 rfl ?_
  refine m_inv2 hM dX5_associates_4 vl_RX5_90 rfl rfl rfl (Nat.le_of_ble_eq_true rfl) (Nat.le_of_ble_eq_true rfl) ?_
  refine w_product0 hF (by omega) (by omega) ?_
  refine r_iload_n hC dX5_associates_7 rfl ?_
  refine m_inv2 hM dX5_associates_8 vl_RX5_90 rfl rfl rfl (Nat.le_of_ble_eq_true rfl) (Nat.le_of_ble_eq_true rfl) ?_
  refine w_product0 hF (by omega) (by omega) ?_
  refine r_aload_n hC dX5_associates_11 rfl ?_
  refine r_iload_n hC dX5_associates_12 rfl ?_
  refine r_aload_n hC dX5_associates_13 rfl ?_
  refine r_iload_n hC dX5_associates_14 rfl ?_
  refine r_iload_n hC dX5_associates_15 rfl ?_
  refine m_inv2 hM dX5_associates_16 vl_RX5_90 rfl rfl rfl (Nat.le_of_ble_eq_true rfl) (Nat.le_of_ble_eq_true rfl) ?_
  refine w_product0 hF (by omega) (by omega) ?_
  refine m_inv2 hM dX5_associates_19 vl_RX5_90 rfl rfl rfl (Nat.le_of_ble_eq_true rfl) (Nat.le_of_ble_eq_true rfl) ?_
  refine w_product0 hF (by omega) (by omega) ?_
  refine r_icmp_ne (tgt := 29) hC dX5_associates_22 rfl (fun h5 => by omega) (fun h5 => ?_)
  refine r_iconst hC dX5_associates_25 rfl ?_
  refine r_goto (tgt := 30) hC dX5_associates_26 rfl ?_
  refine t_zret hK rfl dX5_associates_30 (by omega) ?_
  exact k
theorem c0_triple {d : Nat} {Post : Option Vl → Mm → Prop} {τ : Mm} {w : Int} (hF : FrC τ) (k : ∀ r : Int, (w = 3 ∧ r = 64) ∨ (w ≠ 3 ∧ r = -1) → Post (some (vI r)) τ) : WP (d + 3) 49 [vR 2 0, vI w] τ Post := by
  intro K hK
  have hK : StpF cX5_triple RX5 (some .int) (WP (d + 2)) Post K := hK
  have hM := hK.1
  have hC := hK.1.1
  show K 0 [some (vR 2 0), some (vI w), none, none, none] [] τ
  have L : ∀ (n : Nat) (t : Int), 0 ≤ t → t ≤ 64 → 64 - t < (n : Int) → K 18 [some (vR 2 0), some (vI w), some (vI (-1)), some (vI t), some (vI t)] [] τ := by
    intro n
    induction n with
    | zero => intro t h0 h1 h2; omega
    | succ n ih =>
      intro t h0 h1 h2
      refine r_iload hC dX5_triple_18 rfl ?_
      refine r_bipush hC dX5_triple_20 rfl ?_
      refine r_icmp_ge (tgt := 67) hC dX5_triple_22 rfl (fun h1 => ?_) (fun h1 => ?_)
      · refine r_iload_n hC dX5_triple_67 rfl ?_
        refine r_iconst hC dX5_triple_68 rfl ?_
        refine r_icmp_ne (tgt := 74) hC dX5_triple_69 rfl (fun h2 => ?_) (fun h2 => ?_)
        · refine r_iload_n hC dX5_triple_74 rfl ?_
          refine r_iconst hC dX5_triple_75 rfl ?_
          refine r_icmp_ne (tgt := 81) hC dX5_triple_76 rfl (fun h3 => by omega) (fun h3 => ?_)
          refine r_iconst hC dX5_triple_79 rfl ?_
          refine t_iret hK rfl dX5_triple_80 ?_
          exact k _ (by omega)
        · refine r_iload_n hC dX5_triple_72 rfl ?_
          refine t_iret hK rfl dX5_triple_73 ?_
          exact k _ (by omega)
      · refine r_aload_n hC dX5_triple_25 rfl ?_
        refine r_iload hC dX5_triple_26 rfl ?_
        refine r_bipush hC dX5_triple_28 rfl ?_
        refine r_idiv hC dX5_triple_30 (by omega) ?_
        refine r_iload hC dX5_triple_31 rfl ?_
        refine r_iconst hC dX5_triple_33 rfl ?_
        refine r_idiv hC dX5_triple_34 (by omega) ?_
        refine r_iconst hC dX5_triple_35 rfl ?_
        refine r_irem hC dX5_triple_36 (by omega) ?_
        refine r_iload hC dX5_triple_37 rfl ?_
        refine r_iconst hC dX5_triple_39 rfl ?_
        refine r_irem hC dX5_triple_40 (by omega) ?_
        have d1 := Int.tdiv_eq_ediv_of_nonneg (a := t) (b := 16) h0
        have d2 := Int.tdiv_eq_ediv_of_nonneg (a := t) (b := 4) h0
        have d3 := Int.tmod_eq_emod_of_nonneg (a := t.tdiv 4) (b := 4) (by omega)
        have d4 := Int.tmod_eq_emod_of_nonneg (a := t) (b := 4) h0
        refine m_inv3 hM dX5_triple_41 vl_RX5_74 rfl rfl rfl (Nat.le_of_ble_eq_true rfl) (Nat.le_of_ble_eq_true rfl) ?_
        refine w_associates0 hF (by omega) (by omega) (by omega) ?_
        refine r_if_eq (tgt := 53) hC dX5_triple_44 rfl (fun h5 => by omega) (fun h5 => ?_)
        refine r_iincS hC dX5_triple_47 rfl rfl (by unfold inR; omega) ?_
        refine r_goto (tgt := 61) hC dX5_triple_50 rfl ?_
        refine r_iincS hC dX5_triple_61 rfl rfl (by unfold inR; omega) ?_
        refine r_goto (tgt := 18) hC dX5_triple_64 rfl ?_
        exact ih (t + 1) (by omega) (by omega) (by omega)
  refine r_iload_n hC dX5_triple_0 rfl ?_
  refine r_iconst hC dX5_triple_1 rfl ?_
  refine r_iconst hC dX5_triple_2 rfl ?_
  refine m_ins3 hM dX5_triple_3 tl_RX5_59 rfl (Nat.le_of_ble_eq_true rfl) (Nat.le_of_ble_eq_true rfl) ?_
  refine w_within (fun rh6 h6 => ?_)
  refine r_if_ne (tgt := 11) hC dX5_triple_6 rfl (fun h7 => ?_) (fun h7 => ?_)
  · refine r_iconst hC dX5_triple_11 rfl ?_
    refine r_istore_n hC dX5_triple_12 rfl ?_
    refine r_iconst hC dX5_triple_13 rfl ?_
    refine r_istore_n hC dX5_triple_14 rfl ?_
    refine r_iconst hC dX5_triple_15 rfl ?_
    refine r_istore hC dX5_triple_16 rfl ?_
    show K _ [_, _, _, _, _] _ _
    exact L 65 0 (by omega) (by omega) (by omega)
  · refine r_iconst hC dX5_triple_9 rfl ?_
    refine t_iret hK rfl dX5_triple_10 ?_
    exact k _ (by omega)
theorem w_firstNeutral0 {d : Nat} {Post : Option Vl → Mm → Prop} {τ : Mm}  (hF : FrC τ) (k : Post (some (vI (-1))) τ) : WP (d + 2) 53 [vR 2 0] τ Post := by
  intro K hK
  have hK : StpF cX5_firstNeutral RX5 (some .int) (WP (d + 1)) Post K := hK
  have hM := hK.1
  have hC := hK.1.1
  show K 0 [some (vR 2 0), none, none, none] [] τ
  refine r_iconst hC dX5_firstNeutral_0 rfl ?_
  refine r_istore_n hC dX5_firstNeutral_1 rfl ?_
  refine r_iload_n hC dX5_firstNeutral_2 rfl ?_
  refine r_iconst hC dX5_firstNeutral_3 rfl ?_
  refine r_icmp_ge (tgt := 63) hC dX5_firstNeutral_4 rfl (fun h1 => by omega) (fun h1 => ?_)
  refine r_iconst hC dX5_firstNeutral_7 rfl ?_
  refine r_istore_n hC dX5_firstNeutral_8 rfl ?_
  refine r_iconst hC dX5_firstNeutral_9 rfl ?_
  refine r_istore_n hC dX5_firstNeutral_10 rfl ?_
  show K _ [_, _, _, _] _ _
  refine r_iload_n hC dX5_firstNeutral_11 rfl ?_
  refine r_iconst hC dX5_firstNeutral_12 rfl ?_
  refine r_icmp_ge (tgt := 50) hC dX5_firstNeutral_13 rfl (fun h2 => by omega) (fun h2 => ?_)
  refine r_iload_n hC dX5_firstNeutral_16 rfl ?_
  refine r_aload_n hC dX5_firstNeutral_17 rfl ?_
  refine r_iload_n hC dX5_firstNeutral_18 rfl ?_
  refine r_iload_n hC dX5_firstNeutral_19 rfl ?_
  refine m_inv2 hM dX5_firstNeutral_20 vl_RX5_90 rfl rfl rfl (Nat.le_of_ble_eq_true rfl) (Nat.le_of_ble_eq_true rfl) ?_
  refine w_product0 hF (by omega) (by omega) ?_
  refine r_iload_n hC dX5_firstNeutral_23 rfl ?_
  refine r_icmp_ne (tgt := 41) hC dX5_firstNeutral_24 rfl (fun h4 => by omega) (fun h4 => ?_)
  refine r_aload_n hC dX5_firstNeutral_27 rfl ?_
  refine r_iload_n hC dX5_firstNeutral_28 rfl ?_
  refine r_iload_n hC dX5_firstNeutral_29 rfl ?_
  refine m_inv2 hM dX5_firstNeutral_30 vl_RX5_90 rfl rfl rfl (Nat.le_of_ble_eq_true rfl) (Nat.le_of_ble_eq_true rfl) ?_
  refine w_product0 hF (by omega) (by omega) ?_
  refine r_iload_n hC dX5_firstNeutral_33 rfl ?_
  refine r_icmp_ne (tgt := 41) hC dX5_firstNeutral_34 rfl (fun h6 => by omega) (fun h6 => ?_)
  refine r_iconst hC dX5_firstNeutral_37 rfl ?_
  refine r_goto (tgt := 42) hC dX5_firstNeutral_38 rfl ?_
  refine r_iaddE hC (1) dX5_firstNeutral_42 rfl (inR_lit rfl) ?_
  refine r_istore_n hC dX5_firstNeutral_43 rfl ?_
  refine r_iincE hC (1) dX5_firstNeutral_44 rfl rfl rfl (inR_lit rfl) ?_
  refine r_goto (tgt := 11) hC dX5_firstNeutral_47 rfl ?_
  refine r_iload_n hC dX5_firstNeutral_11 rfl ?_
  refine r_iconst hC dX5_firstNeutral_12 rfl ?_
  refine r_icmp_ge (tgt := 50) hC dX5_firstNeutral_13 rfl (fun h7 => by omega) (fun h7 => ?_)
  refine r_iload_n hC dX5_firstNeutral_16 rfl ?_
  refine r_aload_n hC dX5_firstNeutral_17 rfl ?_
  refine r_iload_n hC dX5_firstNeutral_18 rfl ?_
  refine r_iload_n hC dX5_firstNeutral_19 rfl ?_
  refine m_inv2 hM dX5_firstNeutral_20 vl_RX5_90 rfl rfl rfl (Nat.le_of_ble_eq_true rfl) (Nat.le_of_ble_eq_true rfl) ?_
  refine w_product0 hF (by omega) (by omega) ?_
  refine r_iload_n hC dX5_firstNeutral_23 rfl ?_
  refine r_icmp_ne (tgt := 41) hC dX5_firstNeutral_24 rfl (fun h9 => ?_) (fun h9 => by omega)
  refine r_iconst hC dX5_firstNeutral_41 rfl ?_
  refine r_iaddE hC (1) dX5_firstNeutral_42 rfl (inR_lit rfl) ?_
  refine r_istore_n hC dX5_firstNeutral_43 rfl ?_
  show K _ [_, _, _, _] _ _
  refine r_iincE hC (2) dX5_firstNeutral_44 rfl rfl rfl (inR_lit rfl) ?_
  refine r_goto (tgt := 11) hC dX5_firstNeutral_47 rfl ?_
  refine r_iload_n hC dX5_firstNeutral_11 rfl ?_
  refine r_iconst hC dX5_firstNeutral_12 rfl ?_
  refine r_icmp_ge (tgt := 50) hC dX5_firstNeutral_13 rfl (fun h10 => by omega) (fun h10 => ?_)
  refine r_iload_n hC dX5_firstNeutral_16 rfl ?_
  refine r_aload_n hC dX5_firstNeutral_17 rfl ?_
  refine r_iload_n hC dX5_firstNeutral_18 rfl ?_
  refine r_iload_n hC dX5_firstNeutral_19 rfl ?_
  refine m_inv2 hM dX5_firstNeutral_20 vl_RX5_90 rfl rfl rfl (Nat.le_of_ble_eq_true rfl) (Nat.le_of_ble_eq_true rfl) ?_
  refine w_product0 hF (by omega) (by omega) ?_
  refine r_iload_n hC dX5_firstNeutral_23 rfl ?_
  refine r_icmp_ne (tgt := 41) hC dX5_firstNeutral_24 rfl (fun h12 => ?_) (fun h12 => by omega)
  refine r_iconst hC dX5_firstNeutral_41 rfl ?_
  refine r_iaddE hC (1) dX5_firstNeutral_42 rfl (inR_lit rfl) ?_
  refine r_istore_n hC dX5_firstNeutral_43 rfl ?_
  refine r_iincE hC (3) dX5_firstNeutral_44 rfl rfl rfl (inR_lit rfl) ?_
  show K _ [_, _, _, _] _ _
  refine r_goto (tgt := 11) hC dX5_firstNeutral_47 rfl ?_
  refine r_iload_n hC dX5_firstNeutral_11 rfl ?_
  refine r_iconst hC dX5_firstNeutral_12 rfl ?_
  refine r_icmp_ge (tgt := 50) hC dX5_firstNeutral_13 rfl (fun h13 => by omega) (fun h13 => ?_)
  refine r_iload_n hC dX5_firstNeutral_16 rfl ?_
  refine r_aload_n hC dX5_firstNeutral_17 rfl ?_
  refine r_iload_n hC dX5_firstNeutral_18 rfl ?_
  refine r_iload_n hC dX5_firstNeutral_19 rfl ?_
  refine m_inv2 hM dX5_firstNeutral_20 vl_RX5_90 rfl rfl rfl (Nat.le_of_ble_eq_true rfl) (Nat.le_of_ble_eq_true rfl) ?_
  refine w_product0 hF (by omega) (by omega) ?_
  refine r_iload_n hC dX5_firstNeutral_23 rfl ?_
  refine r_icmp_ne (tgt := 41) hC dX5_firstNeutral_24 rfl (fun h15 => ?_) (fun h15 => by omega)
  refine r_iconst hC dX5_firstNeutral_41 rfl ?_
  refine r_iaddE hC (1) dX5_firstNeutral_42 rfl (inR_lit rfl) ?_
  refine r_istore_n hC dX5_firstNeutral_43 rfl ?_
  refine r_iincE hC (4) dX5_firstNeutral_44 rfl rfl rfl (inR_lit rfl) ?_
  refine r_goto (tgt := 11) hC dX5_firstNeutral_47 rfl ?_
  refine r_iload_n hC dX5_firstNeutral_11 rfl ?_
  refine r_iconst hC dX5_firstNeutral_12 rfl ?_
  refine r_icmp_ge (tgt := 50) hC dX5_firstNeutral_13 rfl (fun h16 => ?_) (fun h16 => by omega)
  refine r_iload_n hC dX5_firstNeutral_50 rfl ?_
  refine r_iconst hC dX5_firstNeutral_51 rfl ?_
  refine r_icmp_ne (tgt := 57) hC dX5_firstNeutral_52 rfl (fun h17 => ?_) (fun h17 => by omega)
  refine r_iincE hC (1) dX5_firstNeutral_57 rfl rfl rfl (inR_lit rfl) ?_
  show K _ [_, _, _, _] _ _
  refine r_goto (tgt := 2) hC dX5_firstNeutral_60 rfl ?_
  refine r_iload_n hC dX5_firstNeutral_2 rfl ?_
  refine r_iconst hC dX5_firstNeutral_3 rfl ?_
  refine r_icmp_ge (tgt := 63) hC dX5_firstNeutral_4 rfl (fun h18 => by omega) (fun h18 => ?_)
  refine r_iconst hC dX5_firstNeutral_7 rfl ?_
  refine r_istore_n hC dX5_firstNeutral_8 rfl ?_
  refine r_iconst hC dX5_firstNeutral_9 rfl ?_
  refine r_istore_n hC dX5_firstNeutral_10 rfl ?_
  refine r_iload_n hC dX5_firstNeutral_11 rfl ?_
  refine r_iconst hC dX5_firstNeutral_12 rfl ?_
  refine r_icmp_ge (tgt := 50) hC dX5_firstNeutral_13 rfl (fun h19 => by omega) (fun h19 => ?_)
  refine r_iload_n hC dX5_firstNeutral_16 rfl ?_
  refine r_aload_n hC dX5_firstNeutral_17 rfl ?_
  refine r_iload_n hC dX5_firstNeutral_18 rfl ?_
  refine r_iload_n hC dX5_firstNeutral_19 rfl ?_
  refine m_inv2 hM dX5_firstNeutral_20 vl_RX5_90 rfl rfl rfl (Nat.le_of_ble_eq_true rfl) (Nat.le_of_ble_eq_true rfl) ?_
  refine w_product0 hF (by omega) (by omega) ?_
  refine r_iload_n hC dX5_firstNeutral_23 rfl ?_
  refine r_icmp_ne (tgt := 41) hC dX5_firstNeutral_24 rfl (fun h21 => by omega) (fun h21 => ?_)
  refine r_aload_n hC dX5_firstNeutral_27 rfl ?_
  refine r_iload_n hC dX5_firstNeutral_28 rfl ?_
  refine r_iload_n hC dX5_firstNeutral_29 rfl ?_
  refine m_inv2 hM dX5_firstNeutral_30 vl_RX5_90 rfl rfl rfl (Nat.le_of_ble_eq_true rfl) (Nat.le_of_ble_eq_true rfl) ?_
  refine w_product0 hF (by omega) (by omega) ?_
  refine r_iload_n hC dX5_firstNeutral_33 rfl ?_
  refine r_icmp_ne (tgt := 41) hC dX5_firstNeutral_34 rfl (fun h23 => by omega) (fun h23 => ?_)
  refine r_iconst hC dX5_firstNeutral_37 rfl ?_
  refine r_goto (tgt := 42) hC dX5_firstNeutral_38 rfl ?_
  refine r_iaddE hC (1) dX5_firstNeutral_42 rfl (inR_lit rfl) ?_
  refine r_istore_n hC dX5_firstNeutral_43 rfl ?_
  show K _ [_, _, _, _] _ _
  refine r_iincE hC (1) dX5_firstNeutral_44 rfl rfl rfl (inR_lit rfl) ?_
  refine r_goto (tgt := 11) hC dX5_firstNeutral_47 rfl ?_
  refine r_iload_n hC dX5_firstNeutral_11 rfl ?_
  refine r_iconst hC dX5_firstNeutral_12 rfl ?_
  refine r_icmp_ge (tgt := 50) hC dX5_firstNeutral_13 rfl (fun h24 => by omega) (fun h24 => ?_)
  refine r_iload_n hC dX5_firstNeutral_16 rfl ?_
  refine r_aload_n hC dX5_firstNeutral_17 rfl ?_
  refine r_iload_n hC dX5_firstNeutral_18 rfl ?_
  refine r_iload_n hC dX5_firstNeutral_19 rfl ?_
  refine m_inv2 hM dX5_firstNeutral_20 vl_RX5_90 rfl rfl rfl (Nat.le_of_ble_eq_true rfl) (Nat.le_of_ble_eq_true rfl) ?_
  refine w_product0 hF (by omega) (by omega) ?_
  refine r_iload_n hC dX5_firstNeutral_23 rfl ?_
  refine r_icmp_ne (tgt := 41) hC dX5_firstNeutral_24 rfl (fun h26 => ?_) (fun h26 => by omega)
  refine r_iconst hC dX5_firstNeutral_41 rfl ?_
  refine r_iaddE hC (1) dX5_firstNeutral_42 rfl (inR_lit rfl) ?_
  refine r_istore_n hC dX5_firstNeutral_43 rfl ?_
  refine r_iincE hC (2) dX5_firstNeutral_44 rfl rfl rfl (inR_lit rfl) ?_
  show K _ [_, _, _, _] _ _
  refine r_goto (tgt := 11) hC dX5_firstNeutral_47 rfl ?_
  refine r_iload_n hC dX5_firstNeutral_11 rfl ?_
  refine r_iconst hC dX5_firstNeutral_12 rfl ?_
  refine r_icmp_ge (tgt := 50) hC dX5_firstNeutral_13 rfl (fun h27 => by omega) (fun h27 => ?_)
  refine r_iload_n hC dX5_firstNeutral_16 rfl ?_
  refine r_aload_n hC dX5_firstNeutral_17 rfl ?_
  refine r_iload_n hC dX5_firstNeutral_18 rfl ?_
  refine r_iload_n hC dX5_firstNeutral_19 rfl ?_
  refine m_inv2 hM dX5_firstNeutral_20 vl_RX5_90 rfl rfl rfl (Nat.le_of_ble_eq_true rfl) (Nat.le_of_ble_eq_true rfl) ?_
  refine w_product0 hF (by omega) (by omega) ?_
  refine r_iload_n hC dX5_firstNeutral_23 rfl ?_
  refine r_icmp_ne (tgt := 41) hC dX5_firstNeutral_24 rfl (fun h29 => ?_) (fun h29 => by omega)
  refine r_iconst hC dX5_firstNeutral_41 rfl ?_
  refine r_iaddE hC (1) dX5_firstNeutral_42 rfl (inR_lit rfl) ?_
  refine r_istore_n hC dX5_firstNeutral_43 rfl ?_
  refine r_iincE hC (3) dX5_firstNeutral_44 rfl rfl rfl (inR_lit rfl) ?_
  refine r_goto (tgt := 11) hC dX5_firstNeutral_47 rfl ?_
  refine r_iload_n hC dX5_firstNeutral_11 rfl ?_
  refine r_iconst hC dX5_firstNeutral_12 rfl ?_
  refine r_icmp_ge (tgt := 50) hC dX5_firstNeutral_13 rfl (fun h30 => by omega) (fun h30 => ?_)
  refine r_iload_n hC dX5_firstNeutral_16 rfl ?_
  refine r_aload_n hC dX5_firstNeutral_17 rfl ?_
  refine r_iload_n hC dX5_firstNeutral_18 rfl ?_
  refine r_iload_n hC dX5_firstNeutral_19 rfl ?_
  refine m_inv2 hM dX5_firstNeutral_20 vl_RX5_90 rfl rfl rfl (Nat.le_of_ble_eq_true rfl) (Nat.le_of_ble_eq_true rfl) ?_
  refine w_product0 hF (by omega) (by omega) ?_
  refine r_iload_n hC dX5_firstNeutral_23 rfl ?_
  refine r_icmp_ne (tgt := 41) hC dX5_firstNeutral_24 rfl (fun h32 => ?_) (fun h32 => by omega)
  refine r_iconst hC dX5_firstNeutral_41 rfl ?_
  refine r_iaddE hC (1) dX5_firstNeutral_42 rfl (inR_lit rfl) ?_
  refine r_istore_n hC dX5_firstNeutral_43 rfl ?_
  show K _ [_, _, _, _] _ _
  refine r_iincE hC (4) dX5_firstNeutral_44 rfl rfl rfl (inR_lit rfl) ?_
  refine r_goto (tgt := 11) hC dX5_firstNeutral_47 rfl ?_
  refine r_iload_n hC dX5_firstNeutral_11 rfl ?_
  refine r_iconst hC dX5_firstNeutral_12 rfl ?_
  refine r_icmp_ge (tgt := 50) hC dX5_firstNeutral_13 rfl (fun h33 => ?_) (fun h33 => by omega)
  refine r_iload_n hC dX5_firstNeutral_50 rfl ?_
  refine r_iconst hC dX5_firstNeutral_51 rfl ?_
  refine r_icmp_ne (tgt := 57) hC dX5_firstNeutral_52 rfl (fun h34 => ?_) (fun h34 => by omega)
  refine r_iincE hC (2) dX5_firstNeutral_57 rfl rfl rfl (inR_lit rfl) ?_
  refine r_goto (tgt := 2) hC dX5_firstNeutral_60 rfl ?_
  refine r_iload_n hC dX5_firstNeutral_2 rfl ?_
  refine r_iconst hC dX5_firstNeutral_3 rfl ?_
  refine r_icmp_ge (tgt := 63) hC dX5_firstNeutral_4 rfl (fun h35 => by omega) (fun h35 => ?_)
  refine r_iconst hC dX5_firstNeutral_7 rfl ?_
  refine r_istore_n hC dX5_firstNeutral_8 rfl ?_
  show K _ [_, _, _, _] _ _
  refine r_iconst hC dX5_firstNeutral_9 rfl ?_
  refine r_istore_n hC dX5_firstNeutral_10 rfl ?_
  refine r_iload_n hC dX5_firstNeutral_11 rfl ?_
  refine r_iconst hC dX5_firstNeutral_12 rfl ?_
  refine r_icmp_ge (tgt := 50) hC dX5_firstNeutral_13 rfl (fun h36 => by omega) (fun h36 => ?_)
  refine r_iload_n hC dX5_firstNeutral_16 rfl ?_
  refine r_aload_n hC dX5_firstNeutral_17 rfl ?_
  refine r_iload_n hC dX5_firstNeutral_18 rfl ?_
  refine r_iload_n hC dX5_firstNeutral_19 rfl ?_
  refine m_inv2 hM dX5_firstNeutral_20 vl_RX5_90 rfl rfl rfl (Nat.le_of_ble_eq_true rfl) (Nat.le_of_ble_eq_true rfl) ?_
  refine w_product0 hF (by omega) (by omega) ?_
  refine r_iload_n hC dX5_firstNeutral_23 rfl ?_
  refine r_icmp_ne (tgt := 41) hC dX5_firstNeutral_24 rfl (fun h38 => by omega) (fun h38 => ?_)
  refine r_aload_n hC dX5_firstNeutral_27 rfl ?_
  refine r_iload_n hC dX5_firstNeutral_28 rfl ?_
  refine r_iload_n hC dX5_firstNeutral_29 rfl ?_
  refine m_inv2 hM dX5_firstNeutral_30 vl_RX5_90 rfl rfl rfl (Nat.le_of_ble_eq_true rfl) (Nat.le_of_ble_eq_true rfl) ?_
  refine w_product0 hF (by omega) (by omega) ?_
  refine r_iload_n hC dX5_firstNeutral_33 rfl ?_
  refine r_icmp_ne (tgt := 41) hC dX5_firstNeutral_34 rfl (fun h40 => by omega) (fun h40 => ?_)
  refine r_iconst hC dX5_firstNeutral_37 rfl ?_
  refine r_goto (tgt := 42) hC dX5_firstNeutral_38 rfl ?_
  refine r_iaddE hC (1) dX5_firstNeutral_42 rfl (inR_lit rfl) ?_
  refine r_istore_n hC dX5_firstNeutral_43 rfl ?_
  refine r_iincE hC (1) dX5_firstNeutral_44 rfl rfl rfl (inR_lit rfl) ?_
  show K _ [_, _, _, _] _ _
  refine r_goto (tgt := 11) hC dX5_firstNeutral_47 rfl ?_
  refine r_iload_n hC dX5_firstNeutral_11 rfl ?_
  refine r_iconst hC dX5_firstNeutral_12 rfl ?_
  refine r_icmp_ge (tgt := 50) hC dX5_firstNeutral_13 rfl (fun h41 => by omega) (fun h41 => ?_)
  refine r_iload_n hC dX5_firstNeutral_16 rfl ?_
  refine r_aload_n hC dX5_firstNeutral_17 rfl ?_
  refine r_iload_n hC dX5_firstNeutral_18 rfl ?_
  refine r_iload_n hC dX5_firstNeutral_19 rfl ?_
  refine m_inv2 hM dX5_firstNeutral_20 vl_RX5_90 rfl rfl rfl (Nat.le_of_ble_eq_true rfl) (Nat.le_of_ble_eq_true rfl) ?_
  refine w_product0 hF (by omega) (by omega) ?_
  refine r_iload_n hC dX5_firstNeutral_23 rfl ?_
  refine r_icmp_ne (tgt := 41) hC dX5_firstNeutral_24 rfl (fun h43 => ?_) (fun h43 => by omega)
  refine r_iconst hC dX5_firstNeutral_41 rfl ?_
  refine r_iaddE hC (1) dX5_firstNeutral_42 rfl (inR_lit rfl) ?_
  refine r_istore_n hC dX5_firstNeutral_43 rfl ?_
  refine r_iincE hC (2) dX5_firstNeutral_44 rfl rfl rfl (inR_lit rfl) ?_
  refine r_goto (tgt := 11) hC dX5_firstNeutral_47 rfl ?_
  refine r_iload_n hC dX5_firstNeutral_11 rfl ?_
  refine r_iconst hC dX5_firstNeutral_12 rfl ?_
  refine r_icmp_ge (tgt := 50) hC dX5_firstNeutral_13 rfl (fun h44 => by omega) (fun h44 => ?_)
  refine r_iload_n hC dX5_firstNeutral_16 rfl ?_
  refine r_aload_n hC dX5_firstNeutral_17 rfl ?_
  refine r_iload_n hC dX5_firstNeutral_18 rfl ?_
  refine r_iload_n hC dX5_firstNeutral_19 rfl ?_
  refine m_inv2 hM dX5_firstNeutral_20 vl_RX5_90 rfl rfl rfl (Nat.le_of_ble_eq_true rfl) (Nat.le_of_ble_eq_true rfl) ?_
  refine w_product0 hF (by omega) (by omega) ?_
  refine r_iload_n hC dX5_firstNeutral_23 rfl ?_
  refine r_icmp_ne (tgt := 41) hC dX5_firstNeutral_24 rfl (fun h46 => ?_) (fun h46 => by omega)
  refine r_iconst hC dX5_firstNeutral_41 rfl ?_
  refine r_iaddE hC (1) dX5_firstNeutral_42 rfl (inR_lit rfl) ?_
  refine r_istore_n hC dX5_firstNeutral_43 rfl ?_
  show K _ [_, _, _, _] _ _
  refine r_iincE hC (3) dX5_firstNeutral_44 rfl rfl rfl (inR_lit rfl) ?_
  refine r_goto (tgt := 11) hC dX5_firstNeutral_47 rfl ?_
  refine r_iload_n hC dX5_firstNeutral_11 rfl ?_
  refine r_iconst hC dX5_firstNeutral_12 rfl ?_
  refine r_icmp_ge (tgt := 50) hC dX5_firstNeutral_13 rfl (fun h47 => by omega) (fun h47 => ?_)
  refine r_iload_n hC dX5_firstNeutral_16 rfl ?_
  refine r_aload_n hC dX5_firstNeutral_17 rfl ?_
  refine r_iload_n hC dX5_firstNeutral_18 rfl ?_
  refine r_iload_n hC dX5_firstNeutral_19 rfl ?_
  refine m_inv2 hM dX5_firstNeutral_20 vl_RX5_90 rfl rfl rfl (Nat.le_of_ble_eq_true rfl) (Nat.le_of_ble_eq_true rfl) ?_
  refine w_product0 hF (by omega) (by omega) ?_
  refine r_iload_n hC dX5_firstNeutral_23 rfl ?_
  refine r_icmp_ne (tgt := 41) hC dX5_firstNeutral_24 rfl (fun h49 => ?_) (fun h49 => by omega)
  refine r_iconst hC dX5_firstNeutral_41 rfl ?_
  refine r_iaddE hC (1) dX5_firstNeutral_42 rfl (inR_lit rfl) ?_
  refine r_istore_n hC dX5_firstNeutral_43 rfl ?_
  refine r_iincE hC (4) dX5_firstNeutral_44 rfl rfl rfl (inR_lit rfl) ?_
  show K _ [_, _, _, _] _ _
  refine r_goto (tgt := 11) hC dX5_firstNeutral_47 rfl ?_
  refine r_iload_n hC dX5_firstNeutral_11 rfl ?_
  refine r_iconst hC dX5_firstNeutral_12 rfl ?_
  refine r_icmp_ge (tgt := 50) hC dX5_firstNeutral_13 rfl (fun h50 => ?_) (fun h50 => by omega)
  refine r_iload_n hC dX5_firstNeutral_50 rfl ?_
  refine r_iconst hC dX5_firstNeutral_51 rfl ?_
  refine r_icmp_ne (tgt := 57) hC dX5_firstNeutral_52 rfl (fun h51 => ?_) (fun h51 => by omega)
  refine r_iincE hC (3) dX5_firstNeutral_57 rfl rfl rfl (inR_lit rfl) ?_
  refine r_goto (tgt := 2) hC dX5_firstNeutral_60 rfl ?_
  refine r_iload_n hC dX5_firstNeutral_2 rfl ?_
  refine r_iconst hC dX5_firstNeutral_3 rfl ?_
  refine r_icmp_ge (tgt := 63) hC dX5_firstNeutral_4 rfl (fun h52 => by omega) (fun h52 => ?_)
  refine r_iconst hC dX5_firstNeutral_7 rfl ?_
  refine r_istore_n hC dX5_firstNeutral_8 rfl ?_
  refine r_iconst hC dX5_firstNeutral_9 rfl ?_
  refine r_istore_n hC dX5_firstNeutral_10 rfl ?_
  show K _ [_, _, _, _] _ _
  refine r_iload_n hC dX5_firstNeutral_11 rfl ?_
  refine r_iconst hC dX5_firstNeutral_12 rfl ?_
  refine r_icmp_ge (tgt := 50) hC dX5_firstNeutral_13 rfl (fun h53 => by omega) (fun h53 => ?_)
  refine r_iload_n hC dX5_firstNeutral_16 rfl ?_
  refine r_aload_n hC dX5_firstNeutral_17 rfl ?_
  refine r_iload_n hC dX5_firstNeutral_18 rfl ?_
  refine r_iload_n hC dX5_firstNeutral_19 rfl ?_
  refine m_inv2 hM dX5_firstNeutral_20 vl_RX5_90 rfl rfl rfl (Nat.le_of_ble_eq_true rfl) (Nat.le_of_ble_eq_true rfl) ?_
  refine w_product0 hF (by omega) (by omega) ?_
  refine r_iload_n hC dX5_firstNeutral_23 rfl ?_
  refine r_icmp_ne (tgt := 41) hC dX5_firstNeutral_24 rfl (fun h55 => by omega) (fun h55 => ?_)
  refine r_aload_n hC dX5_firstNeutral_27 rfl ?_
  refine r_iload_n hC dX5_firstNeutral_28 rfl ?_
  refine r_iload_n hC dX5_firstNeutral_29 rfl ?_
  refine m_inv2 hM dX5_firstNeutral_30 vl_RX5_90 rfl rfl rfl (Nat.le_of_ble_eq_true rfl) (Nat.le_of_ble_eq_true rfl) ?_
  refine w_product0 hF (by omega) (by omega) ?_
  refine r_iload_n hC dX5_firstNeutral_33 rfl ?_
  refine r_icmp_ne (tgt := 41) hC dX5_firstNeutral_34 rfl (fun h57 => by omega) (fun h57 => ?_)
  refine r_iconst hC dX5_firstNeutral_37 rfl ?_
  refine r_goto (tgt := 42) hC dX5_firstNeutral_38 rfl ?_
  refine r_iaddE hC (1) dX5_firstNeutral_42 rfl (inR_lit rfl) ?_
  refine r_istore_n hC dX5_firstNeutral_43 rfl ?_
  refine r_iincE hC (1) dX5_firstNeutral_44 rfl rfl rfl (inR_lit rfl) ?_
  refine r_goto (tgt := 11) hC dX5_firstNeutral_47 rfl ?_
  refine r_iload_n hC dX5_firstNeutral_11 rfl ?_
  refine r_iconst hC dX5_firstNeutral_12 rfl ?_
  refine r_icmp_ge (tgt := 50) hC dX5_firstNeutral_13 rfl (fun h58 => by omega) (fun h58 => ?_)
  refine r_iload_n hC dX5_firstNeutral_16 rfl ?_
  refine r_aload_n hC dX5_firstNeutral_17 rfl ?_
  refine r_iload_n hC dX5_firstNeutral_18 rfl ?_
  refine r_iload_n hC dX5_firstNeutral_19 rfl ?_
  refine m_inv2 hM dX5_firstNeutral_20 vl_RX5_90 rfl rfl rfl (Nat.le_of_ble_eq_true rfl) (Nat.le_of_ble_eq_true rfl) ?_
  refine w_product0 hF (by omega) (by omega) ?_
  refine r_iload_n hC dX5_firstNeutral_23 rfl ?_
  refine r_icmp_ne (tgt := 41) hC dX5_firstNeutral_24 rfl (fun h60 => ?_) (fun h60 => by omega)
  refine r_iconst hC dX5_firstNeutral_41 rfl ?_
  refine r_iaddE hC (1) dX5_firstNeutral_42 rfl (inR_lit rfl) ?_
  refine r_istore_n hC dX5_firstNeutral_43 rfl ?_
  show K _ [_, _, _, _] _ _
  refine r_iincE hC (2) dX5_firstNeutral_44 rfl rfl rfl (inR_lit rfl) ?_
  refine r_goto (tgt := 11) hC dX5_firstNeutral_47 rfl ?_
  refine r_iload_n hC dX5_firstNeutral_11 rfl ?_
  refine r_iconst hC dX5_firstNeutral_12 rfl ?_
  refine r_icmp_ge (tgt := 50) hC dX5_firstNeutral_13 rfl (fun h61 => by omega) (fun h61 => ?_)
  refine r_iload_n hC dX5_firstNeutral_16 rfl ?_
  refine r_aload_n hC dX5_firstNeutral_17 rfl ?_
  refine r_iload_n hC dX5_firstNeutral_18 rfl ?_
  refine r_iload_n hC dX5_firstNeutral_19 rfl ?_
  refine m_inv2 hM dX5_firstNeutral_20 vl_RX5_90 rfl rfl rfl (Nat.le_of_ble_eq_true rfl) (Nat.le_of_ble_eq_true rfl) ?_
  refine w_product0 hF (by omega) (by omega) ?_
  refine r_iload_n hC dX5_firstNeutral_23 rfl ?_
  refine r_icmp_ne (tgt := 41) hC dX5_firstNeutral_24 rfl (fun h63 => ?_) (fun h63 => by omega)
  refine r_iconst hC dX5_firstNeutral_41 rfl ?_
  refine r_iaddE hC (1) dX5_firstNeutral_42 rfl (inR_lit rfl) ?_
  refine r_istore_n hC dX5_firstNeutral_43 rfl ?_
  refine r_iincE hC (3) dX5_firstNeutral_44 rfl rfl rfl (inR_lit rfl) ?_
  show K _ [_, _, _, _] _ _
  refine r_goto (tgt := 11) hC dX5_firstNeutral_47 rfl ?_
  refine r_iload_n hC dX5_firstNeutral_11 rfl ?_
  refine r_iconst hC dX5_firstNeutral_12 rfl ?_
  refine r_icmp_ge (tgt := 50) hC dX5_firstNeutral_13 rfl (fun h64 => by omega) (fun h64 => ?_)
  refine r_iload_n hC dX5_firstNeutral_16 rfl ?_
  refine r_aload_n hC dX5_firstNeutral_17 rfl ?_
  refine r_iload_n hC dX5_firstNeutral_18 rfl ?_
  refine r_iload_n hC dX5_firstNeutral_19 rfl ?_
  refine m_inv2 hM dX5_firstNeutral_20 vl_RX5_90 rfl rfl rfl (Nat.le_of_ble_eq_true rfl) (Nat.le_of_ble_eq_true rfl) ?_
  refine w_product0 hF (by omega) (by omega) ?_
  refine r_iload_n hC dX5_firstNeutral_23 rfl ?_
  refine r_icmp_ne (tgt := 41) hC dX5_firstNeutral_24 rfl (fun h66 => ?_) (fun h66 => by omega)
  refine r_iconst hC dX5_firstNeutral_41 rfl ?_
  refine r_iaddE hC (1) dX5_firstNeutral_42 rfl (inR_lit rfl) ?_
  refine r_istore_n hC dX5_firstNeutral_43 rfl ?_
  refine r_iincE hC (4) dX5_firstNeutral_44 rfl rfl rfl (inR_lit rfl) ?_
  refine r_goto (tgt := 11) hC dX5_firstNeutral_47 rfl ?_
  refine r_iload_n hC dX5_firstNeutral_11 rfl ?_
  refine r_iconst hC dX5_firstNeutral_12 rfl ?_
  refine r_icmp_ge (tgt := 50) hC dX5_firstNeutral_13 rfl (fun h67 => ?_) (fun h67 => by omega)
  refine r_iload_n hC dX5_firstNeutral_50 rfl ?_
  refine r_iconst hC dX5_firstNeutral_51 rfl ?_
  refine r_icmp_ne (tgt := 57) hC dX5_firstNeutral_52 rfl (fun h68 => ?_) (fun h68 => by omega)
  refine r_iincE hC (4) dX5_firstNeutral_57 rfl rfl rfl (inR_lit rfl) ?_
  show K _ [_, _, _, _] _ _
  refine r_goto (tgt := 2) hC dX5_firstNeutral_60 rfl ?_
  refine r_iload_n hC dX5_firstNeutral_2 rfl ?_
  refine r_iconst hC dX5_firstNeutral_3 rfl ?_
  refine r_icmp_ge (tgt := 63) hC dX5_firstNeutral_4 rfl (fun h69 => ?_) (fun h69 => by omega)
  refine r_iconst hC dX5_firstNeutral_63 rfl ?_
  refine t_iret hK rfl dX5_firstNeutral_64 ?_
  exact k
theorem w_firstAbsorbing0 {d : Nat} {Post : Option Vl → Mm → Prop} {τ : Mm}  (hF : FrC τ) (k : Post (some (vI (0))) τ) : WP (d + 2) 54 [vR 2 0] τ Post := by
  intro K hK
  have hK : StpF cX5_firstAbsorbing RX5 (some .int) (WP (d + 1)) Post K := hK
  have hM := hK.1
  have hC := hK.1.1
  show K 0 [some (vR 2 0), none, none, none] [] τ
  refine r_iconst hC dX5_firstAbsorbing_0 rfl ?_
  refine r_istore_n hC dX5_firstAbsorbing_1 rfl ?_
  refine r_iload_n hC dX5_firstAbsorbing_2 rfl ?_
  refine r_iconst hC dX5_firstAbsorbing_3 rfl ?_
  refine r_icmp_ge (tgt := 63) hC dX5_firstAbsorbing_4 rfl (fun h1 => by omega) (fun h1 => ?_)
  refine r_iconst hC dX5_firstAbsorbing_7 rfl ?_
  refine r_istore_n hC dX5_firstAbsorbing_8 rfl ?_
  refine r_iconst hC dX5_firstAbsorbing_9 rfl ?_
  refine r_istore_n hC dX5_firstAbsorbing_10 rfl ?_
  show K _ [_, _, _, _] _ _
  refine r_iload_n hC dX5_firstAbsorbing_11 rfl ?_
  refine r_iconst hC dX5_firstAbsorbing_12 rfl ?_
  refine r_icmp_ge (tgt := 50) hC dX5_firstAbsorbing_13 rfl (fun h2 => by omega) (fun h2 => ?_)
  refine r_iload_n hC dX5_firstAbsorbing_16 rfl ?_
  refine r_aload_n hC dX5_firstAbsorbing_17 rfl ?_
  refine r_iload_n hC dX5_firstAbsorbing_18 rfl ?_
  refine r_iload_n hC dX5_firstAbsorbing_19 rfl ?_
  refine m_inv2 hM dX5_firstAbsorbing_20 vl_RX5_90 rfl rfl rfl (Nat.le_of_ble_eq_true rfl) (Nat.le_of_ble_eq_true rfl) ?_
  refine w_product0 hF (by omega) (by omega) ?_
  refine r_iload_n hC dX5_firstAbsorbing_23 rfl ?_
  refine r_icmp_ne (tgt := 41) hC dX5_firstAbsorbing_24 rfl (fun h4 => by omega) (fun h4 => ?_)
  refine r_aload_n hC dX5_firstAbsorbing_27 rfl ?_
  refine r_iload_n hC dX5_firstAbsorbing_28 rfl ?_
  refine r_iload_n hC dX5_firstAbsorbing_29 rfl ?_
  refine m_inv2 hM dX5_firstAbsorbing_30 vl_RX5_90 rfl rfl rfl (Nat.le_of_ble_eq_true rfl) (Nat.le_of_ble_eq_true rfl) ?_
  refine w_product0 hF (by omega) (by omega) ?_
  refine r_iload_n hC dX5_firstAbsorbing_33 rfl ?_
  refine r_icmp_ne (tgt := 41) hC dX5_firstAbsorbing_34 rfl (fun h6 => by omega) (fun h6 => ?_)
  refine r_iconst hC dX5_firstAbsorbing_37 rfl ?_
  refine r_goto (tgt := 42) hC dX5_firstAbsorbing_38 rfl ?_
  refine r_iaddE hC (1) dX5_firstAbsorbing_42 rfl (inR_lit rfl) ?_
  refine r_istore_n hC dX5_firstAbsorbing_43 rfl ?_
  refine r_iincE hC (1) dX5_firstAbsorbing_44 rfl rfl rfl (inR_lit rfl) ?_
  refine r_goto (tgt := 11) hC dX5_firstAbsorbing_47 rfl ?_
  refine r_iload_n hC dX5_firstAbsorbing_11 rfl ?_
  refine r_iconst hC dX5_firstAbsorbing_12 rfl ?_
  refine r_icmp_ge (tgt := 50) hC dX5_firstAbsorbing_13 rfl (fun h7 => by omega) (fun h7 => ?_)
  refine r_iload_n hC dX5_firstAbsorbing_16 rfl ?_
  refine r_aload_n hC dX5_firstAbsorbing_17 rfl ?_
  refine r_iload_n hC dX5_firstAbsorbing_18 rfl ?_
  refine r_iload_n hC dX5_firstAbsorbing_19 rfl ?_
  refine m_inv2 hM dX5_firstAbsorbing_20 vl_RX5_90 rfl rfl rfl (Nat.le_of_ble_eq_true rfl) (Nat.le_of_ble_eq_true rfl) ?_
  refine w_product0 hF (by omega) (by omega) ?_
  refine r_iload_n hC dX5_firstAbsorbing_23 rfl ?_
  refine r_icmp_ne (tgt := 41) hC dX5_firstAbsorbing_24 rfl (fun h9 => by omega) (fun h9 => ?_)
  refine r_aload_n hC dX5_firstAbsorbing_27 rfl ?_
  refine r_iload_n hC dX5_firstAbsorbing_28 rfl ?_
  refine r_iload_n hC dX5_firstAbsorbing_29 rfl ?_
  refine m_inv2 hM dX5_firstAbsorbing_30 vl_RX5_90 rfl rfl rfl (Nat.le_of_ble_eq_true rfl) (Nat.le_of_ble_eq_true rfl) ?_
  refine w_product0 hF (by omega) (by omega) ?_
  refine r_iload_n hC dX5_firstAbsorbing_33 rfl ?_
  refine r_icmp_ne (tgt := 41) hC dX5_firstAbsorbing_34 rfl (fun h11 => by omega) (fun h11 => ?_)
  refine r_iconst hC dX5_firstAbsorbing_37 rfl ?_
  refine r_goto (tgt := 42) hC dX5_firstAbsorbing_38 rfl ?_
  refine r_iaddE hC (2) dX5_firstAbsorbing_42 rfl (inR_lit rfl) ?_
  refine r_istore_n hC dX5_firstAbsorbing_43 rfl ?_
  show K _ [_, _, _, _] _ _
  refine r_iincE hC (2) dX5_firstAbsorbing_44 rfl rfl rfl (inR_lit rfl) ?_
  refine r_goto (tgt := 11) hC dX5_firstAbsorbing_47 rfl ?_
  refine r_iload_n hC dX5_firstAbsorbing_11 rfl ?_
  refine r_iconst hC dX5_firstAbsorbing_12 rfl ?_
  refine r_icmp_ge (tgt := 50) hC dX5_firstAbsorbing_13 rfl (fun h12 => by omega) (fun h12 => ?_)
  refine r_iload_n hC dX5_firstAbsorbing_16 rfl ?_
  refine r_aload_n hC dX5_firstAbsorbing_17 rfl ?_
  refine r_iload_n hC dX5_firstAbsorbing_18 rfl ?_
  refine r_iload_n hC dX5_firstAbsorbing_19 rfl ?_
  refine m_inv2 hM dX5_firstAbsorbing_20 vl_RX5_90 rfl rfl rfl (Nat.le_of_ble_eq_true rfl) (Nat.le_of_ble_eq_true rfl) ?_
  refine w_product0 hF (by omega) (by omega) ?_
  refine r_iload_n hC dX5_firstAbsorbing_23 rfl ?_
  refine r_icmp_ne (tgt := 41) hC dX5_firstAbsorbing_24 rfl (fun h14 => by omega) (fun h14 => ?_)
  refine r_aload_n hC dX5_firstAbsorbing_27 rfl ?_
  refine r_iload_n hC dX5_firstAbsorbing_28 rfl ?_
  refine r_iload_n hC dX5_firstAbsorbing_29 rfl ?_
  refine m_inv2 hM dX5_firstAbsorbing_30 vl_RX5_90 rfl rfl rfl (Nat.le_of_ble_eq_true rfl) (Nat.le_of_ble_eq_true rfl) ?_
  refine w_product0 hF (by omega) (by omega) ?_
  refine r_iload_n hC dX5_firstAbsorbing_33 rfl ?_
  refine r_icmp_ne (tgt := 41) hC dX5_firstAbsorbing_34 rfl (fun h16 => by omega) (fun h16 => ?_)
  refine r_iconst hC dX5_firstAbsorbing_37 rfl ?_
  refine r_goto (tgt := 42) hC dX5_firstAbsorbing_38 rfl ?_
  refine r_iaddE hC (3) dX5_firstAbsorbing_42 rfl (inR_lit rfl) ?_
  refine r_istore_n hC dX5_firstAbsorbing_43 rfl ?_
  refine r_iincE hC (3) dX5_firstAbsorbing_44 rfl rfl rfl (inR_lit rfl) ?_
  show K _ [_, _, _, _] _ _
  refine r_goto (tgt := 11) hC dX5_firstAbsorbing_47 rfl ?_
  refine r_iload_n hC dX5_firstAbsorbing_11 rfl ?_
  refine r_iconst hC dX5_firstAbsorbing_12 rfl ?_
  refine r_icmp_ge (tgt := 50) hC dX5_firstAbsorbing_13 rfl (fun h17 => by omega) (fun h17 => ?_)
  refine r_iload_n hC dX5_firstAbsorbing_16 rfl ?_
  refine r_aload_n hC dX5_firstAbsorbing_17 rfl ?_
  refine r_iload_n hC dX5_firstAbsorbing_18 rfl ?_
  refine r_iload_n hC dX5_firstAbsorbing_19 rfl ?_
  refine m_inv2 hM dX5_firstAbsorbing_20 vl_RX5_90 rfl rfl rfl (Nat.le_of_ble_eq_true rfl) (Nat.le_of_ble_eq_true rfl) ?_
  refine w_product0 hF (by omega) (by omega) ?_
  refine r_iload_n hC dX5_firstAbsorbing_23 rfl ?_
  refine r_icmp_ne (tgt := 41) hC dX5_firstAbsorbing_24 rfl (fun h19 => by omega) (fun h19 => ?_)
  refine r_aload_n hC dX5_firstAbsorbing_27 rfl ?_
  refine r_iload_n hC dX5_firstAbsorbing_28 rfl ?_
  refine r_iload_n hC dX5_firstAbsorbing_29 rfl ?_
  refine m_inv2 hM dX5_firstAbsorbing_30 vl_RX5_90 rfl rfl rfl (Nat.le_of_ble_eq_true rfl) (Nat.le_of_ble_eq_true rfl) ?_
  refine w_product0 hF (by omega) (by omega) ?_
  refine r_iload_n hC dX5_firstAbsorbing_33 rfl ?_
  refine r_icmp_ne (tgt := 41) hC dX5_firstAbsorbing_34 rfl (fun h21 => by omega) (fun h21 => ?_)
  refine r_iconst hC dX5_firstAbsorbing_37 rfl ?_
  refine r_goto (tgt := 42) hC dX5_firstAbsorbing_38 rfl ?_
  refine r_iaddE hC (4) dX5_firstAbsorbing_42 rfl (inR_lit rfl) ?_
  refine r_istore_n hC dX5_firstAbsorbing_43 rfl ?_
  refine r_iincE hC (4) dX5_firstAbsorbing_44 rfl rfl rfl (inR_lit rfl) ?_
  refine r_goto (tgt := 11) hC dX5_firstAbsorbing_47 rfl ?_
  refine r_iload_n hC dX5_firstAbsorbing_11 rfl ?_
  refine r_iconst hC dX5_firstAbsorbing_12 rfl ?_
  refine r_icmp_ge (tgt := 50) hC dX5_firstAbsorbing_13 rfl (fun h22 => ?_) (fun h22 => by omega)
  refine r_iload_n hC dX5_firstAbsorbing_50 rfl ?_
  refine r_iconst hC dX5_firstAbsorbing_51 rfl ?_
  refine r_icmp_ne (tgt := 57) hC dX5_firstAbsorbing_52 rfl (fun h23 => by omega) (fun h23 => ?_)
  refine r_iload_n hC dX5_firstAbsorbing_55 rfl ?_
  refine t_iret hK rfl dX5_firstAbsorbing_56 ?_
  exact k
theorem w_idempotents0 {d : Nat} {Post : Option Vl → Mm → Prop} {τ : Mm}  (hF : FrC τ) (k : Post (some (vI (1))) τ) : WP (d + 2) 55 [vR 2 0] τ Post := by
  intro K hK
  have hK : StpF cX5_idempotents RX5 (some .int) (WP (d + 1)) Post K := hK
  have hM := hK.1
  have hC := hK.1.1
  show K 0 [some (vR 2 0), none, none] [] τ
  refine r_iconst hC dX5_idempotents_0 rfl ?_
  refine r_istore_n hC dX5_idempotents_1 rfl ?_
  refine r_iconst hC dX5_idempotents_2 rfl ?_
  refine r_istore_n hC dX5_idempotents_3 rfl ?_
  refine r_iload_n hC dX5_idempotents_4 rfl ?_
  refine r_iconst hC dX5_idempotents_5 rfl ?_
  refine r_icmp_ge (tgt := 33) hC dX5_idempotents_6 rfl (fun h1 => by omega) (fun h1 => ?_)
  refine r_iload_n hC dX5_idempotents_9 rfl ?_
  refine r_aload_n hC dX5_idempotents_10 rfl ?_
  refine r_iload_n hC dX5_idempotents_11 rfl ?_
  refine r_iload_n hC dX5_idempotents_12 rfl ?_
  refine m_inv2 hM dX5_idempotents_13 vl_RX5_90 rfl rfl rfl (Nat.le_of_ble_eq_true rfl) (Nat.le_of_ble_eq_true rfl) ?_
  refine w_product0 hF (by omega) (by omega) ?_
  refine r_iload_n hC dX5_idempotents_16 rfl ?_
  refine r_icmp_ne (tgt := 24) hC dX5_idempotents_17 rfl (fun h3 => by omega) (fun h3 => ?_)
  refine r_iconst hC dX5_idempotents_20 rfl ?_
  refine r_goto (tgt := 25) hC dX5_idempotents_21 rfl ?_
  refine r_iaddE hC (1) dX5_idempotents_25 rfl (inR_lit rfl) ?_
  refine r_istore_n hC dX5_idempotents_26 rfl ?_
  show K _ [_, _, _] _ _
  refine r_iincE hC (1) dX5_idempotents_27 rfl rfl rfl (inR_lit rfl) ?_
  refine r_goto (tgt := 4) hC dX5_idempotents_30 rfl ?_
  refine r_iload_n hC dX5_idempotents_4 rfl ?_
  refine r_iconst hC dX5_idempotents_5 rfl ?_
  refine r_icmp_ge (tgt := 33) hC dX5_idempotents_6 rfl (fun h4 => by omega) (fun h4 => ?_)
  refine r_iload_n hC dX5_idempotents_9 rfl ?_
  refine r_aload_n hC dX5_idempotents_10 rfl ?_
  refine r_iload_n hC dX5_idempotents_11 rfl ?_
  refine r_iload_n hC dX5_idempotents_12 rfl ?_
  refine m_inv2 hM dX5_idempotents_13 vl_RX5_90 rfl rfl rfl (Nat.le_of_ble_eq_true rfl) (Nat.le_of_ble_eq_true rfl) ?_
  refine w_product0 hF (by omega) (by omega) ?_
  refine r_iload_n hC dX5_idempotents_16 rfl ?_
  refine r_icmp_ne (tgt := 24) hC dX5_idempotents_17 rfl (fun h6 => ?_) (fun h6 => by omega)
  refine r_iconst hC dX5_idempotents_24 rfl ?_
  refine r_iaddE hC (1) dX5_idempotents_25 rfl (inR_lit rfl) ?_
  refine r_istore_n hC dX5_idempotents_26 rfl ?_
  refine r_iincE hC (2) dX5_idempotents_27 rfl rfl rfl (inR_lit rfl) ?_
  show K _ [_, _, _] _ _
  refine r_goto (tgt := 4) hC dX5_idempotents_30 rfl ?_
  refine r_iload_n hC dX5_idempotents_4 rfl ?_
  refine r_iconst hC dX5_idempotents_5 rfl ?_
  refine r_icmp_ge (tgt := 33) hC dX5_idempotents_6 rfl (fun h7 => by omega) (fun h7 => ?_)
  refine r_iload_n hC dX5_idempotents_9 rfl ?_
  refine r_aload_n hC dX5_idempotents_10 rfl ?_
  refine r_iload_n hC dX5_idempotents_11 rfl ?_
  refine r_iload_n hC dX5_idempotents_12 rfl ?_
  refine m_inv2 hM dX5_idempotents_13 vl_RX5_90 rfl rfl rfl (Nat.le_of_ble_eq_true rfl) (Nat.le_of_ble_eq_true rfl) ?_
  refine w_product0 hF (by omega) (by omega) ?_
  refine r_iload_n hC dX5_idempotents_16 rfl ?_
  refine r_icmp_ne (tgt := 24) hC dX5_idempotents_17 rfl (fun h9 => ?_) (fun h9 => by omega)
  refine r_iconst hC dX5_idempotents_24 rfl ?_
  refine r_iaddE hC (1) dX5_idempotents_25 rfl (inR_lit rfl) ?_
  refine r_istore_n hC dX5_idempotents_26 rfl ?_
  refine r_iincE hC (3) dX5_idempotents_27 rfl rfl rfl (inR_lit rfl) ?_
  refine r_goto (tgt := 4) hC dX5_idempotents_30 rfl ?_
  refine r_iload_n hC dX5_idempotents_4 rfl ?_
  refine r_iconst hC dX5_idempotents_5 rfl ?_
  refine r_icmp_ge (tgt := 33) hC dX5_idempotents_6 rfl (fun h10 => by omega) (fun h10 => ?_)
  refine r_iload_n hC dX5_idempotents_9 rfl ?_
  refine r_aload_n hC dX5_idempotents_10 rfl ?_
  refine r_iload_n hC dX5_idempotents_11 rfl ?_
  refine r_iload_n hC dX5_idempotents_12 rfl ?_
  refine m_inv2 hM dX5_idempotents_13 vl_RX5_90 rfl rfl rfl (Nat.le_of_ble_eq_true rfl) (Nat.le_of_ble_eq_true rfl) ?_
  refine w_product0 hF (by omega) (by omega) ?_
  refine r_iload_n hC dX5_idempotents_16 rfl ?_
  refine r_icmp_ne (tgt := 24) hC dX5_idempotents_17 rfl (fun h12 => ?_) (fun h12 => by omega)
  refine r_iconst hC dX5_idempotents_24 rfl ?_
  refine r_iaddE hC (1) dX5_idempotents_25 rfl (inR_lit rfl) ?_
  refine r_istore_n hC dX5_idempotents_26 rfl ?_
  show K _ [_, _, _] _ _
  refine r_iincE hC (4) dX5_idempotents_27 rfl rfl rfl (inR_lit rfl) ?_
  refine r_goto (tgt := 4) hC dX5_idempotents_30 rfl ?_
  refine r_iload_n hC dX5_idempotents_4 rfl ?_
  refine r_iconst hC dX5_idempotents_5 rfl ?_
  refine r_icmp_ge (tgt := 33) hC dX5_idempotents_6 rfl (fun h13 => ?_) (fun h13 => by omega)
  refine r_iload_n hC dX5_idempotents_33 rfl ?_
  refine t_iret hK rfl dX5_idempotents_34 ?_
  exact k
theorem w_commutingPairs0 {d : Nat} {Post : Option Vl → Mm → Prop} {τ : Mm}  (hF : FrC τ) (k : Post (some (vI (16))) τ) : WP (d + 2) 56 [vR 2 0] τ Post := by
  intro K hK
  have hK : StpF cX5_commutingPairs RX5 (some .int) (WP (d + 1)) Post K := hK
  have hM := hK.1
  have hC := hK.1.1
  show K 0 [some (vR 2 0), none, none, none] [] τ
  refine r_iconst hC dX5_commutingPairs_0 rfl ?_
  refine r_istore_n hC dX5_commutingPairs_1 rfl ?_
  refine r_iconst hC dX5_commutingPairs_2 rfl ?_
  refine r_istore_n hC dX5_commutingPairs_3 rfl ?_
  refine r_iload_n hC dX5_commutingPairs_4 rfl ?_
  refine r_iconst hC dX5_commutingPairs_5 rfl ?_
  refine r_icmp_ge (tgt := 51) hC dX5_commutingPairs_6 rfl (fun h1 => by omega) (fun h1 => ?_)
  refine r_iconst hC dX5_commutingPairs_9 rfl ?_
  refine r_istore_n hC dX5_commutingPairs_10 rfl ?_
  show K _ [_, _, _, _] _ _
  refine r_iload_n hC dX5_commutingPairs_11 rfl ?_
  refine r_iconst hC dX5_commutingPairs_12 rfl ?_
  refine r_icmp_ge (tgt := 45) hC dX5_commutingPairs_13 rfl (fun h2 => by omega) (fun h2 => ?_)
  refine r_iload_n hC dX5_commutingPairs_16 rfl ?_
  refine r_aload_n hC dX5_commutingPairs_17 rfl ?_
  refine r_iload_n hC dX5_commutingPairs_18 rfl ?_
  refine r_iload_n hC dX5_commutingPairs_19 rfl ?_
  refine m_inv2 hM dX5_commutingPairs_20 vl_RX5_90 rfl rfl rfl (Nat.le_of_ble_eq_true rfl) (Nat.le_of_ble_eq_true rfl) ?_
  refine w_product0 hF (by omega) (by omega) ?_
  refine r_aload_n hC dX5_commutingPairs_23 rfl ?_
  refine r_iload_n hC dX5_commutingPairs_24 rfl ?_
  refine r_iload_n hC dX5_commutingPairs_25 rfl ?_
  refine m_inv2 hM dX5_commutingPairs_26 vl_RX5_90 rfl rfl rfl (Nat.le_of_ble_eq_true rfl) (Nat.le_of_ble_eq_true rfl) ?_
  refine w_product0 hF (by omega) (by omega) ?_
  refine r_icmp_ne (tgt := 36) hC dX5_commutingPairs_29 rfl (fun h5 => by omega) (fun h5 => ?_)
  refine r_iconst hC dX5_commutingPairs_32 rfl ?_
  refine r_goto (tgt := 37) hC dX5_commutingPairs_33 rfl ?_
  refine r_iaddE hC (1) dX5_commutingPairs_37 rfl (inR_lit rfl) ?_
  refine r_istore_n hC dX5_commutingPairs_38 rfl ?_
  refine r_iincE hC (1) dX5_commutingPairs_39 rfl rfl rfl (inR_lit rfl) ?_
  refine r_goto (tgt := 11) hC dX5_commutingPairs_42 rfl ?_
  refine r_iload_n hC dX5_commutingPairs_11 rfl ?_
  refine r_iconst hC dX5_commutingPairs_12 rfl ?_
  refine r_icmp_ge (tgt := 45) hC dX5_commutingPairs_13 rfl (fun h6 => by omega) (fun h6 => ?_)
  refine r_iload_n hC dX5_commutingPairs_16 rfl ?_
  refine r_aload_n hC dX5_commutingPairs_17 rfl ?_
  refine r_iload_n hC dX5_commutingPairs_18 rfl ?_
  refine r_iload_n hC dX5_commutingPairs_19 rfl ?_
  refine m_inv2 hM dX5_commutingPairs_20 vl_RX5_90 rfl rfl rfl (Nat.le_of_ble_eq_true rfl) (Nat.le_of_ble_eq_true rfl) ?_
  refine w_product0 hF (by omega) (by omega) ?_
  refine r_aload_n hC dX5_commutingPairs_23 rfl ?_
  refine r_iload_n hC dX5_commutingPairs_24 rfl ?_
  refine r_iload_n hC dX5_commutingPairs_25 rfl ?_
  refine m_inv2 hM dX5_commutingPairs_26 vl_RX5_90 rfl rfl rfl (Nat.le_of_ble_eq_true rfl) (Nat.le_of_ble_eq_true rfl) ?_
  refine w_product0 hF (by omega) (by omega) ?_
  refine r_icmp_ne (tgt := 36) hC dX5_commutingPairs_29 rfl (fun h9 => by omega) (fun h9 => ?_)
  refine r_iconst hC dX5_commutingPairs_32 rfl ?_
  refine r_goto (tgt := 37) hC dX5_commutingPairs_33 rfl ?_
  refine r_iaddE hC (2) dX5_commutingPairs_37 rfl (inR_lit rfl) ?_
  refine r_istore_n hC dX5_commutingPairs_38 rfl ?_
  show K _ [_, _, _, _] _ _
  refine r_iincE hC (2) dX5_commutingPairs_39 rfl rfl rfl (inR_lit rfl) ?_
  refine r_goto (tgt := 11) hC dX5_commutingPairs_42 rfl ?_
  refine r_iload_n hC dX5_commutingPairs_11 rfl ?_
  refine r_iconst hC dX5_commutingPairs_12 rfl ?_
  refine r_icmp_ge (tgt := 45) hC dX5_commutingPairs_13 rfl (fun h10 => by omega) (fun h10 => ?_)
  refine r_iload_n hC dX5_commutingPairs_16 rfl ?_
  refine r_aload_n hC dX5_commutingPairs_17 rfl ?_
  refine r_iload_n hC dX5_commutingPairs_18 rfl ?_
  refine r_iload_n hC dX5_commutingPairs_19 rfl ?_
  refine m_inv2 hM dX5_commutingPairs_20 vl_RX5_90 rfl rfl rfl (Nat.le_of_ble_eq_true rfl) (Nat.le_of_ble_eq_true rfl) ?_
  refine w_product0 hF (by omega) (by omega) ?_
  refine r_aload_n hC dX5_commutingPairs_23 rfl ?_
  refine r_iload_n hC dX5_commutingPairs_24 rfl ?_
  refine r_iload_n hC dX5_commutingPairs_25 rfl ?_
  refine m_inv2 hM dX5_commutingPairs_26 vl_RX5_90 rfl rfl rfl (Nat.le_of_ble_eq_true rfl) (Nat.le_of_ble_eq_true rfl) ?_
  refine w_product0 hF (by omega) (by omega) ?_
  refine r_icmp_ne (tgt := 36) hC dX5_commutingPairs_29 rfl (fun h13 => by omega) (fun h13 => ?_)
  refine r_iconst hC dX5_commutingPairs_32 rfl ?_
  refine r_goto (tgt := 37) hC dX5_commutingPairs_33 rfl ?_
  refine r_iaddE hC (3) dX5_commutingPairs_37 rfl (inR_lit rfl) ?_
  refine r_istore_n hC dX5_commutingPairs_38 rfl ?_
  refine r_iincE hC (3) dX5_commutingPairs_39 rfl rfl rfl (inR_lit rfl) ?_
  show K _ [_, _, _, _] _ _
  refine r_goto (tgt := 11) hC dX5_commutingPairs_42 rfl ?_
  refine r_iload_n hC dX5_commutingPairs_11 rfl ?_
  refine r_iconst hC dX5_commutingPairs_12 rfl ?_
  refine r_icmp_ge (tgt := 45) hC dX5_commutingPairs_13 rfl (fun h14 => by omega) (fun h14 => ?_)
  refine r_iload_n hC dX5_commutingPairs_16 rfl ?_
  refine r_aload_n hC dX5_commutingPairs_17 rfl ?_
  refine r_iload_n hC dX5_commutingPairs_18 rfl ?_
  refine r_iload_n hC dX5_commutingPairs_19 rfl ?_
  refine m_inv2 hM dX5_commutingPairs_20 vl_RX5_90 rfl rfl rfl (Nat.le_of_ble_eq_true rfl) (Nat.le_of_ble_eq_true rfl) ?_
  refine w_product0 hF (by omega) (by omega) ?_
  refine r_aload_n hC dX5_commutingPairs_23 rfl ?_
  refine r_iload_n hC dX5_commutingPairs_24 rfl ?_
  refine r_iload_n hC dX5_commutingPairs_25 rfl ?_
  refine m_inv2 hM dX5_commutingPairs_26 vl_RX5_90 rfl rfl rfl (Nat.le_of_ble_eq_true rfl) (Nat.le_of_ble_eq_true rfl) ?_
  refine w_product0 hF (by omega) (by omega) ?_
  refine r_icmp_ne (tgt := 36) hC dX5_commutingPairs_29 rfl (fun h17 => by omega) (fun h17 => ?_)
  refine r_iconst hC dX5_commutingPairs_32 rfl ?_
  refine r_goto (tgt := 37) hC dX5_commutingPairs_33 rfl ?_
  refine r_iaddE hC (4) dX5_commutingPairs_37 rfl (inR_lit rfl) ?_
  refine r_istore_n hC dX5_commutingPairs_38 rfl ?_
  refine r_iincE hC (4) dX5_commutingPairs_39 rfl rfl rfl (inR_lit rfl) ?_
  refine r_goto (tgt := 11) hC dX5_commutingPairs_42 rfl ?_
  refine r_iload_n hC dX5_commutingPairs_11 rfl ?_
  refine r_iconst hC dX5_commutingPairs_12 rfl ?_
  refine r_icmp_ge (tgt := 45) hC dX5_commutingPairs_13 rfl (fun h18 => ?_) (fun h18 => by omega)
  refine r_iincE hC (1) dX5_commutingPairs_45 rfl rfl rfl (inR_lit rfl) ?_
  show K _ [_, _, _, _] _ _
  refine r_goto (tgt := 4) hC dX5_commutingPairs_48 rfl ?_
  refine r_iload_n hC dX5_commutingPairs_4 rfl ?_
  refine r_iconst hC dX5_commutingPairs_5 rfl ?_
  refine r_icmp_ge (tgt := 51) hC dX5_commutingPairs_6 rfl (fun h19 => by omega) (fun h19 => ?_)
  refine r_iconst hC dX5_commutingPairs_9 rfl ?_
  refine r_istore_n hC dX5_commutingPairs_10 rfl ?_
  refine r_iload_n hC dX5_commutingPairs_11 rfl ?_
  refine r_iconst hC dX5_commutingPairs_12 rfl ?_
  refine r_icmp_ge (tgt := 45) hC dX5_commutingPairs_13 rfl (fun h20 => by omega) (fun h20 => ?_)
  refine r_iload_n hC dX5_commutingPairs_16 rfl ?_
  refine r_aload_n hC dX5_commutingPairs_17 rfl ?_
  refine r_iload_n hC dX5_commutingPairs_18 rfl ?_
  refine r_iload_n hC dX5_commutingPairs_19 rfl ?_
  refine m_inv2 hM dX5_commutingPairs_20 vl_RX5_90 rfl rfl rfl (Nat.le_of_ble_eq_true rfl) (Nat.le_of_ble_eq_true rfl) ?_
  refine w_product0 hF (by omega) (by omega) ?_
  refine r_aload_n hC dX5_commutingPairs_23 rfl ?_
  refine r_iload_n hC dX5_commutingPairs_24 rfl ?_
  refine r_iload_n hC dX5_commutingPairs_25 rfl ?_
  refine m_inv2 hM dX5_commutingPairs_26 vl_RX5_90 rfl rfl rfl (Nat.le_of_ble_eq_true rfl) (Nat.le_of_ble_eq_true rfl) ?_
  refine w_product0 hF (by omega) (by omega) ?_
  refine r_icmp_ne (tgt := 36) hC dX5_commutingPairs_29 rfl (fun h23 => by omega) (fun h23 => ?_)
  refine r_iconst hC dX5_commutingPairs_32 rfl ?_
  refine r_goto (tgt := 37) hC dX5_commutingPairs_33 rfl ?_
  refine r_iaddE hC (5) dX5_commutingPairs_37 rfl (inR_lit rfl) ?_
  refine r_istore_n hC dX5_commutingPairs_38 rfl ?_
  refine r_iincE hC (1) dX5_commutingPairs_39 rfl rfl rfl (inR_lit rfl) ?_
  show K _ [_, _, _, _] _ _
  refine r_goto (tgt := 11) hC dX5_commutingPairs_42 rfl ?_
  refine r_iload_n hC dX5_commutingPairs_11 rfl ?_
  refine r_iconst hC dX5_commutingPairs_12 rfl ?_
  refine r_icmp_ge (tgt := 45) hC dX5_commutingPairs_13 rfl (fun h24 => by omega) (fun h24 => ?_)
  refine r_iload_n hC dX5_commutingPairs_16 rfl ?_
  refine r_aload_n hC dX5_commutingPairs_17 rfl ?_
  refine r_iload_n hC dX5_commutingPairs_18 rfl ?_
  refine r_iload_n hC dX5_commutingPairs_19 rfl ?_
  refine m_inv2 hM dX5_commutingPairs_20 vl_RX5_90 rfl rfl rfl (Nat.le_of_ble_eq_true rfl) (Nat.le_of_ble_eq_true rfl) ?_
  refine w_product0 hF (by omega) (by omega) ?_
  refine r_aload_n hC dX5_commutingPairs_23 rfl ?_
  refine r_iload_n hC dX5_commutingPairs_24 rfl ?_
  refine r_iload_n hC dX5_commutingPairs_25 rfl ?_
  refine m_inv2 hM dX5_commutingPairs_26 vl_RX5_90 rfl rfl rfl (Nat.le_of_ble_eq_true rfl) (Nat.le_of_ble_eq_true rfl) ?_
  refine w_product0 hF (by omega) (by omega) ?_
  refine r_icmp_ne (tgt := 36) hC dX5_commutingPairs_29 rfl (fun h27 => by omega) (fun h27 => ?_)
  refine r_iconst hC dX5_commutingPairs_32 rfl ?_
  refine r_goto (tgt := 37) hC dX5_commutingPairs_33 rfl ?_
  refine r_iaddE hC (6) dX5_commutingPairs_37 rfl (inR_lit rfl) ?_
  refine r_istore_n hC dX5_commutingPairs_38 rfl ?_
  refine r_iincE hC (2) dX5_commutingPairs_39 rfl rfl rfl (inR_lit rfl) ?_
  refine r_goto (tgt := 11) hC dX5_commutingPairs_42 rfl ?_
  refine r_iload_n hC dX5_commutingPairs_11 rfl ?_
  refine r_iconst hC dX5_commutingPairs_12 rfl ?_
  refine r_icmp_ge (tgt := 45) hC dX5_commutingPairs_13 rfl (fun h28 => by omega) (fun h28 => ?_)
  refine r_iload_n hC dX5_commutingPairs_16 rfl ?_
  refine r_aload_n hC dX5_commutingPairs_17 rfl ?_
  refine r_iload_n hC dX5_commutingPairs_18 rfl ?_
  refine r_iload_n hC dX5_commutingPairs_19 rfl ?_
  refine m_inv2 hM dX5_commutingPairs_20 vl_RX5_90 rfl rfl rfl (Nat.le_of_ble_eq_true rfl) (Nat.le_of_ble_eq_true rfl) ?_
  refine w_product0 hF (by omega) (by omega) ?_
  refine r_aload_n hC dX5_commutingPairs_23 rfl ?_
  refine r_iload_n hC dX5_commutingPairs_24 rfl ?_
  refine r_iload_n hC dX5_commutingPairs_25 rfl ?_
  refine m_inv2 hM dX5_commutingPairs_26 vl_RX5_90 rfl rfl rfl (Nat.le_of_ble_eq_true rfl) (Nat.le_of_ble_eq_true rfl) ?_
  refine w_product0 hF (by omega) (by omega) ?_
  refine r_icmp_ne (tgt := 36) hC dX5_commutingPairs_29 rfl (fun h31 => by omega) (fun h31 => ?_)
  refine r_iconst hC dX5_commutingPairs_32 rfl ?_
  refine r_goto (tgt := 37) hC dX5_commutingPairs_33 rfl ?_
  refine r_iaddE hC (7) dX5_commutingPairs_37 rfl (inR_lit rfl) ?_
  refine r_istore_n hC dX5_commutingPairs_38 rfl ?_
  show K _ [_, _, _, _] _ _
  refine r_iincE hC (3) dX5_commutingPairs_39 rfl rfl rfl (inR_lit rfl) ?_
  refine r_goto (tgt := 11) hC dX5_commutingPairs_42 rfl ?_
  refine r_iload_n hC dX5_commutingPairs_11 rfl ?_
  refine r_iconst hC dX5_commutingPairs_12 rfl ?_
  refine r_icmp_ge (tgt := 45) hC dX5_commutingPairs_13 rfl (fun h32 => by omega) (fun h32 => ?_)
  refine r_iload_n hC dX5_commutingPairs_16 rfl ?_
  refine r_aload_n hC dX5_commutingPairs_17 rfl ?_
  refine r_iload_n hC dX5_commutingPairs_18 rfl ?_
  refine r_iload_n hC dX5_commutingPairs_19 rfl ?_
  refine m_inv2 hM dX5_commutingPairs_20 vl_RX5_90 rfl rfl rfl (Nat.le_of_ble_eq_true rfl) (Nat.le_of_ble_eq_true rfl) ?_
  refine w_product0 hF (by omega) (by omega) ?_
  refine r_aload_n hC dX5_commutingPairs_23 rfl ?_
  refine r_iload_n hC dX5_commutingPairs_24 rfl ?_
  refine r_iload_n hC dX5_commutingPairs_25 rfl ?_
  refine m_inv2 hM dX5_commutingPairs_26 vl_RX5_90 rfl rfl rfl (Nat.le_of_ble_eq_true rfl) (Nat.le_of_ble_eq_true rfl) ?_
  refine w_product0 hF (by omega) (by omega) ?_
  refine r_icmp_ne (tgt := 36) hC dX5_commutingPairs_29 rfl (fun h35 => by omega) (fun h35 => ?_)
  refine r_iconst hC dX5_commutingPairs_32 rfl ?_
  refine r_goto (tgt := 37) hC dX5_commutingPairs_33 rfl ?_
  refine r_iaddE hC (8) dX5_commutingPairs_37 rfl (inR_lit rfl) ?_
  refine r_istore_n hC dX5_commutingPairs_38 rfl ?_
  refine r_iincE hC (4) dX5_commutingPairs_39 rfl rfl rfl (inR_lit rfl) ?_
  show K _ [_, _, _, _] _ _
  refine r_goto (tgt := 11) hC dX5_commutingPairs_42 rfl ?_
  refine r_iload_n hC dX5_commutingPairs_11 rfl ?_
  refine r_iconst hC dX5_commutingPairs_12 rfl ?_
  refine r_icmp_ge (tgt := 45) hC dX5_commutingPairs_13 rfl (fun h36 => ?_) (fun h36 => by omega)
  refine r_iincE hC (2) dX5_commutingPairs_45 rfl rfl rfl (inR_lit rfl) ?_
  refine r_goto (tgt := 4) hC dX5_commutingPairs_48 rfl ?_
  refine r_iload_n hC dX5_commutingPairs_4 rfl ?_
  refine r_iconst hC dX5_commutingPairs_5 rfl ?_
  refine r_icmp_ge (tgt := 51) hC dX5_commutingPairs_6 rfl (fun h37 => by omega) (fun h37 => ?_)
  refine r_iconst hC dX5_commutingPairs_9 rfl ?_
  refine r_istore_n hC dX5_commutingPairs_10 rfl ?_
  refine r_iload_n hC dX5_commutingPairs_11 rfl ?_
  refine r_iconst hC dX5_commutingPairs_12 rfl ?_
  refine r_icmp_ge (tgt := 45) hC dX5_commutingPairs_13 rfl (fun h38 => by omega) (fun h38 => ?_)
  refine r_iload_n hC dX5_commutingPairs_16 rfl ?_
  refine r_aload_n hC dX5_commutingPairs_17 rfl ?_
  refine r_iload_n hC dX5_commutingPairs_18 rfl ?_
  refine r_iload_n hC dX5_commutingPairs_19 rfl ?_
  refine m_inv2 hM dX5_commutingPairs_20 vl_RX5_90 rfl rfl rfl (Nat.le_of_ble_eq_true rfl) (Nat.le_of_ble_eq_true rfl) ?_
  refine w_product0 hF (by omega) (by omega) ?_
  refine r_aload_n hC dX5_commutingPairs_23 rfl ?_
  refine r_iload_n hC dX5_commutingPairs_24 rfl ?_
  refine r_iload_n hC dX5_commutingPairs_25 rfl ?_
  refine m_inv2 hM dX5_commutingPairs_26 vl_RX5_90 rfl rfl rfl (Nat.le_of_ble_eq_true rfl) (Nat.le_of_ble_eq_true rfl) ?_
  refine w_product0 hF (by omega) (by omega) ?_
  refine r_icmp_ne (tgt := 36) hC dX5_commutingPairs_29 rfl (fun h41 => by omega) (fun h41 => ?_)
  refine r_iconst hC dX5_commutingPairs_32 rfl ?_
  refine r_goto (tgt := 37) hC dX5_commutingPairs_33 rfl ?_
  refine r_iaddE hC (9) dX5_commutingPairs_37 rfl (inR_lit rfl) ?_
  refine r_istore_n hC dX5_commutingPairs_38 rfl ?_
  show K _ [_, _, _, _] _ _
  refine r_iincE hC (1) dX5_commutingPairs_39 rfl rfl rfl (inR_lit rfl) ?_
  refine r_goto (tgt := 11) hC dX5_commutingPairs_42 rfl ?_
  refine r_iload_n hC dX5_commutingPairs_11 rfl ?_
  refine r_iconst hC dX5_commutingPairs_12 rfl ?_
  refine r_icmp_ge (tgt := 45) hC dX5_commutingPairs_13 rfl (fun h42 => by omega) (fun h42 => ?_)
  refine r_iload_n hC dX5_commutingPairs_16 rfl ?_
  refine r_aload_n hC dX5_commutingPairs_17 rfl ?_
  refine r_iload_n hC dX5_commutingPairs_18 rfl ?_
  refine r_iload_n hC dX5_commutingPairs_19 rfl ?_
  refine m_inv2 hM dX5_commutingPairs_20 vl_RX5_90 rfl rfl rfl (Nat.le_of_ble_eq_true rfl) (Nat.le_of_ble_eq_true rfl) ?_
  refine w_product0 hF (by omega) (by omega) ?_
  refine r_aload_n hC dX5_commutingPairs_23 rfl ?_
  refine r_iload_n hC dX5_commutingPairs_24 rfl ?_
  refine r_iload_n hC dX5_commutingPairs_25 rfl ?_
  refine m_inv2 hM dX5_commutingPairs_26 vl_RX5_90 rfl rfl rfl (Nat.le_of_ble_eq_true rfl) (Nat.le_of_ble_eq_true rfl) ?_
  refine w_product0 hF (by omega) (by omega) ?_
  refine r_icmp_ne (tgt := 36) hC dX5_commutingPairs_29 rfl (fun h45 => by omega) (fun h45 => ?_)
  refine r_iconst hC dX5_commutingPairs_32 rfl ?_
  refine r_goto (tgt := 37) hC dX5_commutingPairs_33 rfl ?_
  refine r_iaddE hC (10) dX5_commutingPairs_37 rfl (inR_lit rfl) ?_
  refine r_istore_n hC dX5_commutingPairs_38 rfl ?_
  refine r_iincE hC (2) dX5_commutingPairs_39 rfl rfl rfl (inR_lit rfl) ?_
  show K _ [_, _, _, _] _ _
  refine r_goto (tgt := 11) hC dX5_commutingPairs_42 rfl ?_
  refine r_iload_n hC dX5_commutingPairs_11 rfl ?_
  refine r_iconst hC dX5_commutingPairs_12 rfl ?_
  refine r_icmp_ge (tgt := 45) hC dX5_commutingPairs_13 rfl (fun h46 => by omega) (fun h46 => ?_)
  refine r_iload_n hC dX5_commutingPairs_16 rfl ?_
  refine r_aload_n hC dX5_commutingPairs_17 rfl ?_
  refine r_iload_n hC dX5_commutingPairs_18 rfl ?_
  refine r_iload_n hC dX5_commutingPairs_19 rfl ?_
  refine m_inv2 hM dX5_commutingPairs_20 vl_RX5_90 rfl rfl rfl (Nat.le_of_ble_eq_true rfl) (Nat.le_of_ble_eq_true rfl) ?_
  refine w_product0 hF (by omega) (by omega) ?_
  refine r_aload_n hC dX5_commutingPairs_23 rfl ?_
  refine r_iload_n hC dX5_commutingPairs_24 rfl ?_
  refine r_iload_n hC dX5_commutingPairs_25 rfl ?_
  refine m_inv2 hM dX5_commutingPairs_26 vl_RX5_90 rfl rfl rfl (Nat.le_of_ble_eq_true rfl) (Nat.le_of_ble_eq_true rfl) ?_
  refine w_product0 hF (by omega) (by omega) ?_
  refine r_icmp_ne (tgt := 36) hC dX5_commutingPairs_29 rfl (fun h49 => by omega) (fun h49 => ?_)
  refine r_iconst hC dX5_commutingPairs_32 rfl ?_
  refine r_goto (tgt := 37) hC dX5_commutingPairs_33 rfl ?_
  refine r_iaddE hC (11) dX5_commutingPairs_37 rfl (inR_lit rfl) ?_
  refine r_istore_n hC dX5_commutingPairs_38 rfl ?_
  refine r_iincE hC (3) dX5_commutingPairs_39 rfl rfl rfl (inR_lit rfl) ?_
  refine r_goto (tgt := 11) hC dX5_commutingPairs_42 rfl ?_
  refine r_iload_n hC dX5_commutingPairs_11 rfl ?_
  refine r_iconst hC dX5_commutingPairs_12 rfl ?_
  refine r_icmp_ge (tgt := 45) hC dX5_commutingPairs_13 rfl (fun h50 => by omega) (fun h50 => ?_)
  refine r_iload_n hC dX5_commutingPairs_16 rfl ?_
  refine r_aload_n hC dX5_commutingPairs_17 rfl ?_
  refine r_iload_n hC dX5_commutingPairs_18 rfl ?_
  refine r_iload_n hC dX5_commutingPairs_19 rfl ?_
  refine m_inv2 hM dX5_commutingPairs_20 vl_RX5_90 rfl rfl rfl (Nat.le_of_ble_eq_true rfl) (Nat.le_of_ble_eq_true rfl) ?_
  refine w_product0 hF (by omega) (by omega) ?_
  refine r_aload_n hC dX5_commutingPairs_23 rfl ?_
  refine r_iload_n hC dX5_commutingPairs_24 rfl ?_
  refine r_iload_n hC dX5_commutingPairs_25 rfl ?_
  refine m_inv2 hM dX5_commutingPairs_26 vl_RX5_90 rfl rfl rfl (Nat.le_of_ble_eq_true rfl) (Nat.le_of_ble_eq_true rfl) ?_
  refine w_product0 hF (by omega) (by omega) ?_
  refine r_icmp_ne (tgt := 36) hC dX5_commutingPairs_29 rfl (fun h53 => by omega) (fun h53 => ?_)
  refine r_iconst hC dX5_commutingPairs_32 rfl ?_
  refine r_goto (tgt := 37) hC dX5_commutingPairs_33 rfl ?_
  refine r_iaddE hC (12) dX5_commutingPairs_37 rfl (inR_lit rfl) ?_
  refine r_istore_n hC dX5_commutingPairs_38 rfl ?_
  show K _ [_, _, _, _] _ _
  refine r_iincE hC (4) dX5_commutingPairs_39 rfl rfl rfl (inR_lit rfl) ?_
  refine r_goto (tgt := 11) hC dX5_commutingPairs_42 rfl ?_
  refine r_iload_n hC dX5_commutingPairs_11 rfl ?_
  refine r_iconst hC dX5_commutingPairs_12 rfl ?_
  refine r_icmp_ge (tgt := 45) hC dX5_commutingPairs_13 rfl (fun h54 => ?_) (fun h54 => by omega)
  refine r_iincE hC (3) dX5_commutingPairs_45 rfl rfl rfl (inR_lit rfl) ?_
  refine r_goto (tgt := 4) hC dX5_commutingPairs_48 rfl ?_
  refine r_iload_n hC dX5_commutingPairs_4 rfl ?_
  refine r_iconst hC dX5_commutingPairs_5 rfl ?_
  refine r_icmp_ge (tgt := 51) hC dX5_commutingPairs_6 rfl (fun h55 => by omega) (fun h55 => ?_)
  refine r_iconst hC dX5_commutingPairs_9 rfl ?_
  refine r_istore_n hC dX5_commutingPairs_10 rfl ?_
  show K _ [_, _, _, _] _ _
  refine r_iload_n hC dX5_commutingPairs_11 rfl ?_
  refine r_iconst hC dX5_commutingPairs_12 rfl ?_
  refine r_icmp_ge (tgt := 45) hC dX5_commutingPairs_13 rfl (fun h56 => by omega) (fun h56 => ?_)
  refine r_iload_n hC dX5_commutingPairs_16 rfl ?_
  refine r_aload_n hC dX5_commutingPairs_17 rfl ?_
  refine r_iload_n hC dX5_commutingPairs_18 rfl ?_
  refine r_iload_n hC dX5_commutingPairs_19 rfl ?_
  refine m_inv2 hM dX5_commutingPairs_20 vl_RX5_90 rfl rfl rfl (Nat.le_of_ble_eq_true rfl) (Nat.le_of_ble_eq_true rfl) ?_
  refine w_product0 hF (by omega) (by omega) ?_
  refine r_aload_n hC dX5_commutingPairs_23 rfl ?_
  refine r_iload_n hC dX5_commutingPairs_24 rfl ?_
  refine r_iload_n hC dX5_commutingPairs_25 rfl ?_
  refine m_inv2 hM dX5_commutingPairs_26 vl_RX5_90 rfl rfl rfl (Nat.le_of_ble_eq_true rfl) (Nat.le_of_ble_eq_true rfl) ?_
  refine w_product0 hF (by omega) (by omega) ?_
  refine r_icmp_ne (tgt := 36) hC dX5_commutingPairs_29 rfl (fun h59 => by omega) (fun h59 => ?_)
  refine r_iconst hC dX5_commutingPairs_32 rfl ?_
  refine r_goto (tgt := 37) hC dX5_commutingPairs_33 rfl ?_
  refine r_iaddE hC (13) dX5_commutingPairs_37 rfl (inR_lit rfl) ?_
  refine r_istore_n hC dX5_commutingPairs_38 rfl ?_
  refine r_iincE hC (1) dX5_commutingPairs_39 rfl rfl rfl (inR_lit rfl) ?_
  refine r_goto (tgt := 11) hC dX5_commutingPairs_42 rfl ?_
  refine r_iload_n hC dX5_commutingPairs_11 rfl ?_
  refine r_iconst hC dX5_commutingPairs_12 rfl ?_
  refine r_icmp_ge (tgt := 45) hC dX5_commutingPairs_13 rfl (fun h60 => by omega) (fun h60 => ?_)
  refine r_iload_n hC dX5_commutingPairs_16 rfl ?_
  refine r_aload_n hC dX5_commutingPairs_17 rfl ?_
  refine r_iload_n hC dX5_commutingPairs_18 rfl ?_
  refine r_iload_n hC dX5_commutingPairs_19 rfl ?_
  refine m_inv2 hM dX5_commutingPairs_20 vl_RX5_90 rfl rfl rfl (Nat.le_of_ble_eq_true rfl) (Nat.le_of_ble_eq_true rfl) ?_
  refine w_product0 hF (by omega) (by omega) ?_
  refine r_aload_n hC dX5_commutingPairs_23 rfl ?_
  refine r_iload_n hC dX5_commutingPairs_24 rfl ?_
  refine r_iload_n hC dX5_commutingPairs_25 rfl ?_
  refine m_inv2 hM dX5_commutingPairs_26 vl_RX5_90 rfl rfl rfl (Nat.le_of_ble_eq_true rfl) (Nat.le_of_ble_eq_true rfl) ?_
  refine w_product0 hF (by omega) (by omega) ?_
  refine r_icmp_ne (tgt := 36) hC dX5_commutingPairs_29 rfl (fun h63 => by omega) (fun h63 => ?_)
  refine r_iconst hC dX5_commutingPairs_32 rfl ?_
  refine r_goto (tgt := 37) hC dX5_commutingPairs_33 rfl ?_
  refine r_iaddE hC (14) dX5_commutingPairs_37 rfl (inR_lit rfl) ?_
  refine r_istore_n hC dX5_commutingPairs_38 rfl ?_
  show K _ [_, _, _, _] _ _
  refine r_iincE hC (2) dX5_commutingPairs_39 rfl rfl rfl (inR_lit rfl) ?_
  refine r_goto (tgt := 11) hC dX5_commutingPairs_42 rfl ?_
  refine r_iload_n hC dX5_commutingPairs_11 rfl ?_
  refine r_iconst hC dX5_commutingPairs_12 rfl ?_
  refine r_icmp_ge (tgt := 45) hC dX5_commutingPairs_13 rfl (fun h64 => by omega) (fun h64 => ?_)
  refine r_iload_n hC dX5_commutingPairs_16 rfl ?_
  refine r_aload_n hC dX5_commutingPairs_17 rfl ?_
  refine r_iload_n hC dX5_commutingPairs_18 rfl ?_
  refine r_iload_n hC dX5_commutingPairs_19 rfl ?_
  refine m_inv2 hM dX5_commutingPairs_20 vl_RX5_90 rfl rfl rfl (Nat.le_of_ble_eq_true rfl) (Nat.le_of_ble_eq_true rfl) ?_
  refine w_product0 hF (by omega) (by omega) ?_
  refine r_aload_n hC dX5_commutingPairs_23 rfl ?_
  refine r_iload_n hC dX5_commutingPairs_24 rfl ?_
  refine r_iload_n hC dX5_commutingPairs_25 rfl ?_
  refine m_inv2 hM dX5_commutingPairs_26 vl_RX5_90 rfl rfl rfl (Nat.le_of_ble_eq_true rfl) (Nat.le_of_ble_eq_true rfl) ?_
  refine w_product0 hF (by omega) (by omega) ?_
  refine r_icmp_ne (tgt := 36) hC dX5_commutingPairs_29 rfl (fun h67 => by omega) (fun h67 => ?_)
  refine r_iconst hC dX5_commutingPairs_32 rfl ?_
  refine r_goto (tgt := 37) hC dX5_commutingPairs_33 rfl ?_
  refine r_iaddE hC (15) dX5_commutingPairs_37 rfl (inR_lit rfl) ?_
  refine r_istore_n hC dX5_commutingPairs_38 rfl ?_
  refine r_iincE hC (3) dX5_commutingPairs_39 rfl rfl rfl (inR_lit rfl) ?_
  show K _ [_, _, _, _] _ _
  refine r_goto (tgt := 11) hC dX5_commutingPairs_42 rfl ?_
  refine r_iload_n hC dX5_commutingPairs_11 rfl ?_
  refine r_iconst hC dX5_commutingPairs_12 rfl ?_
  refine r_icmp_ge (tgt := 45) hC dX5_commutingPairs_13 rfl (fun h68 => by omega) (fun h68 => ?_)
  refine r_iload_n hC dX5_commutingPairs_16 rfl ?_
  refine r_aload_n hC dX5_commutingPairs_17 rfl ?_
  refine r_iload_n hC dX5_commutingPairs_18 rfl ?_
  refine r_iload_n hC dX5_commutingPairs_19 rfl ?_
  refine m_inv2 hM dX5_commutingPairs_20 vl_RX5_90 rfl rfl rfl (Nat.le_of_ble_eq_true rfl) (Nat.le_of_ble_eq_true rfl) ?_
  refine w_product0 hF (by omega) (by omega) ?_
  refine r_aload_n hC dX5_commutingPairs_23 rfl ?_
  refine r_iload_n hC dX5_commutingPairs_24 rfl ?_
  refine r_iload_n hC dX5_commutingPairs_25 rfl ?_
  refine m_inv2 hM dX5_commutingPairs_26 vl_RX5_90 rfl rfl rfl (Nat.le_of_ble_eq_true rfl) (Nat.le_of_ble_eq_true rfl) ?_
  refine w_product0 hF (by omega) (by omega) ?_
  refine r_icmp_ne (tgt := 36) hC dX5_commutingPairs_29 rfl (fun h71 => by omega) (fun h71 => ?_)
  refine r_iconst hC dX5_commutingPairs_32 rfl ?_
  refine r_goto (tgt := 37) hC dX5_commutingPairs_33 rfl ?_
  refine r_iaddE hC (16) dX5_commutingPairs_37 rfl (inR_lit rfl) ?_
  refine r_istore_n hC dX5_commutingPairs_38 rfl ?_
  refine r_iincE hC (4) dX5_commutingPairs_39 rfl rfl rfl (inR_lit rfl) ?_
  refine r_goto (tgt := 11) hC dX5_commutingPairs_42 rfl ?_
  refine r_iload_n hC dX5_commutingPairs_11 rfl ?_
  refine r_iconst hC dX5_commutingPairs_12 rfl ?_
  refine r_icmp_ge (tgt := 45) hC dX5_commutingPairs_13 rfl (fun h72 => ?_) (fun h72 => by omega)
  refine r_iincE hC (4) dX5_commutingPairs_45 rfl rfl rfl (inR_lit rfl) ?_
  show K _ [_, _, _, _] _ _
  refine r_goto (tgt := 4) hC dX5_commutingPairs_48 rfl ?_
  refine r_iload_n hC dX5_commutingPairs_4 rfl ?_
  refine r_iconst hC dX5_commutingPairs_5 rfl ?_
  refine r_icmp_ge (tgt := 51) hC dX5_commutingPairs_6 rfl (fun h73 => ?_) (fun h73 => by omega)
  refine r_iload_n hC dX5_commutingPairs_51 rfl ?_
  refine t_iret hK rfl dX5_commutingPairs_52 ?_
  exact k
theorem c0_element {d : Nat} {Post : Option Vl → Mm → Prop} {τ : Mm} {w : Int} (hF : FrC τ) (k : ∀ r : Int, (w = 0 ∧ r = -1) ∨ (w = 1 ∧ r = 0) ∨ (w = 2 ∧ r = 1) ∨ (w = 3 ∧ r = 16) ∨ ((w < 0 ∨ 3 < w) ∧ r = -1) → Post (some (vI r)) τ) : WP (d + 3) 50 [vR 2 0, vI w] τ Post := by
  intro K hK
  have hK : StpF cX5_element RX5 (some .int) (WP (d + 2)) Post K := hK
  have hM := hK.1
  have hC := hK.1.1
  show K 0 [some (vR 2 0), some (vI w)] [] τ
  refine r_iload_n hC dX5_element_0 rfl ?_
  rcases (by omega : (w < 0 ∨ 3 < w) ∨ w = 0 ∨ w = 1 ∨ w = 2 ∨ w = 3) with h1 | h1 | h1 | h1 | h1
  · refine r_tableOut (tgt := 52) hC dX5_element_1 h1 rfl ?_
    refine r_iconst hC dX5_element_52 rfl ?_
    refine t_iret hK rfl dX5_element_53 ?_
    exact k _ (by omega)
  · refine r_tableIn (tgt := 32) (off := 31) hC dX5_element_1 (by omega) (by omega) (by rw [h1]; rfl) rfl ?_
    refine r_aload_n hC dX5_element_32 rfl ?_
    refine m_inv0 hM dX5_element_33 vl_RX5_77 rfl rfl rfl (Nat.le_of_ble_eq_true rfl) (Nat.le_of_ble_eq_true rfl) ?_
    refine w_firstNeutral0 hF ?_
    refine t_iret hK rfl dX5_element_36 ?_
    exact k _ (by omega)
  · refine r_tableIn (tgt := 37) (off := 36) hC dX5_element_1 (by omega) (by omega) (by rw [h1]; rfl) rfl ?_
    refine r_aload_n hC dX5_element_37 rfl ?_
    refine m_inv0 hM dX5_element_38 vl_RX5_81 rfl rfl rfl (Nat.le_of_ble_eq_true rfl) (Nat.le_of_ble_eq_true rfl) ?_
    refine w_firstAbsorbing0 hF ?_
    refine t_iret hK rfl dX5_element_41 ?_
    exact k _ (by omega)
  · refine r_tableIn (tgt := 42) (off := 41) hC dX5_element_1 (by omega) (by omega) (by rw [h1]; rfl) rfl ?_
    refine r_aload_n hC dX5_element_42 rfl ?_
    refine m_inv0 hM dX5_element_43 vl_RX5_84 rfl rfl rfl (Nat.le_of_ble_eq_true rfl) (Nat.le_of_ble_eq_true rfl) ?_
    refine w_idempotents0 hF ?_
    refine t_iret hK rfl dX5_element_46 ?_
    exact k _ (by omega)
  · refine r_tableIn (tgt := 47) (off := 46) hC dX5_element_1 (by omega) (by omega) (by rw [h1]; rfl) rfl ?_
    refine r_aload_n hC dX5_element_47 rfl ?_
    refine m_inv0 hM dX5_element_48 vl_RX5_87 rfl rfl rfl (Nat.le_of_ble_eq_true rfl) (Nat.le_of_ble_eq_true rfl) ?_
    refine w_commutingPairs0 hF ?_
    refine t_iret hK rfl dX5_element_51 ?_
    exact k _ (by omega)
theorem w_isSize {d : Nat} {Post : Option Vl → Mm → Prop} {τ : Mm} {b z : Int} (k : ∀ r : Int, ((b = 0 ∨ (b = 1 ∧ 1 ≤ z ∧ z ≤ 120) ∨ (b = 2 ∧ 1 ≤ z ∧ z ≤ 10000)) ∧ r = 1) ∨ (¬ (b = 0 ∨ (b = 1 ∧ 1 ≤ z ∧ z ≤ 120) ∨ (b = 2 ∧ 1 ≤ z ∧ z ≤ 10000)) ∧ r = 0) → Post (some (vI r)) τ) : WP (d + 2) 59 [vI b, vI z] τ Post := by
  intro K hK
  have hK : StpF cX5_isSize RX5 (some .boolean) (WP (d + 1)) Post K := hK
  have hM := hK.1
  have hC := hK.1.1
  show K 0 [some (vI b), some (vI z)] [] τ
  refine r_iload_n hC dX5_isSize_0 rfl ?_
  rcases (by omega : (b < 0 ∨ 2 < b) ∨ b = 0 ∨ b = 1 ∨ b = 2) with h1 | h1 | h1 | h1
  · refine r_tableOut (tgt := 47) hC dX5_isSize_1 h1 rfl ?_
    refine r_iconst hC dX5_isSize_47 rfl ?_
    refine t_zret hK rfl dX5_isSize_48 (by omega) ?_
    exact k _ (by omega)
  · refine r_tableIn (tgt := 28) (off := 27) hC dX5_isSize_1 (by omega) (by omega) (by rw [h1]; rfl) rfl ?_
    refine r_iconst hC dX5_isSize_28 rfl ?_
    refine t_zret hK rfl dX5_isSize_29 (by omega) ?_
    exact k _ (by omega)
  · refine r_tableIn (tgt := 30) (off := 29) hC dX5_isSize_1 (by omega) (by omega) (by rw [h1]; rfl) rfl ?_
    refine r_iload_n hC dX5_isSize_30 rfl ?_
    refine r_iconst hC dX5_isSize_31 rfl ?_
    refine r_bipush hC dX5_isSize_32 rfl ?_
    refine m_ins3 hM dX5_isSize_34 tl_RX5_59 rfl (Nat.le_of_ble_eq_true rfl) (Nat.le_of_ble_eq_true rfl) ?_
    refine w_within (fun rh2 h2 => ?_)
    refine t_zret hK rfl dX5_isSize_37 (by omega) ?_
    exact k _ (by omega)
  · refine r_tableIn (tgt := 38) (off := 37) hC dX5_isSize_1 (by omega) (by omega) (by rw [h1]; rfl) rfl ?_
    refine r_iload_n hC dX5_isSize_38 rfl ?_
    refine r_iconst hC dX5_isSize_39 rfl ?_
    refine r_sipush hC dX5_isSize_40 rfl ?_
    refine m_ins3 hM dX5_isSize_43 tl_RX5_59 rfl (Nat.le_of_ble_eq_true rfl) (Nat.le_of_ble_eq_true rfl) ?_
    refine w_within (fun rh3 h3 => ?_)
    refine t_zret hK rfl dX5_isSize_46 (by omega) ?_
    exact k _ (by omega)
theorem w_clear {d : Nat} {Post : Option Vl → Mm → Prop} {τ : Mm} {i : Int} (hi : 0 ≤ i ∧ i < 8) (k : ∀ τ2 : Mm, (∀ (c : Nat) (x j : Int), ¬ (c = 11 ∧ x = i) → τ2 c x j = τ c x j) → Post none τ2) : WP (d + 1) 1 [vR 11 i] τ Post := by
  intro K hK
  have hK : StpF cX0_clear RX0 (none) (WP (d + 0)) Post K := hK
  have hM := hK.1
  have hC := hK.1.1
  show K 0 [some (vR 11 i)] [] τ
  refine r_aload_n hC dX0_clear_0 rfl ?_
  refine r_iconst hC dX0_clear_1 rfl ?_
  refine m_putI (jz := 0) hM dX0_clear_2 fw_RX0_9 rfl rfl rfl ?_
  refine r_aload_n hC dX0_clear_5 rfl ?_
  refine r_iconst hC dX0_clear_6 rfl ?_
  refine m_putI (jz := 1) hM dX0_clear_7 fw_RX0_15 rfl rfl rfl ?_
  refine r_aload_n hC dX0_clear_10 rfl ?_
  refine r_iconst hC dX0_clear_11 rfl ?_
  refine m_putI (jz := 2) hM dX0_clear_12 fw_RX0_18 rfl rfl rfl ?_
  refine r_aload_n hC dX0_clear_15 rfl ?_
  refine r_iconst hC dX0_clear_16 rfl ?_
  refine m_putI (jz := 3) hM dX0_clear_17 fw_RX0_21 rfl rfl rfl ?_
  refine r_aload_n hC dX0_clear_20 rfl ?_
  refine r_iconst hC dX0_clear_21 rfl ?_
  refine m_putI (jz := 4) hM dX0_clear_22 fw_RX0_24 rfl rfl rfl ?_
  refine r_aload_n hC dX0_clear_25 rfl ?_
  refine r_iconst hC dX0_clear_26 rfl ?_
  refine m_putI (jz := 5) hM dX0_clear_27 fw_RX0_27 rfl rfl rfl ?_
  refine r_aload_n hC dX0_clear_30 rfl ?_
  refine r_iconst hC dX0_clear_31 rfl ?_
  refine m_putI (jz := 6) hM dX0_clear_32 fw_RX0_30 rfl rfl rfl ?_
  refine t_vret hK rfl dX0_clear_35 ?_
  refine k _ (fun c x j h => ?_)
  repeat rw [mu_ne (fun q => h ⟨q.1, q.2.1⟩)]
theorem w_begin {d : Nat} {Post : Option Vl → Mm → Prop} {τ : Mm} {i o b z s : Int} (hi : 0 ≤ i ∧ i < 7) (k : ∀ τ2 : Mm, (∀ (c : Nat) (x j : Int), ¬ (c = 7 ∧ x = i) → ¬ (c = 11 ∧ x = i) → τ2 c x j = τ c x j) → τ2 7 i 1 = 1 → Post none τ2) : WP (d + 2) 26 [vR 7 i, vI o, vI b, vI z, vI s] τ Post := by
  intro K hK
  have hK : StpF cX2_begin RX2 (none) (WP (d + 1)) Post K := hK
  have hM := hK.1
  have hC := hK.1.1
  show K 0 [some (vR 7 i), some (vI o), some (vI b), some (vI z), some (vI s)] [] τ
  refine r_aload_n hC dX2_begin_0 rfl ?_
  refine r_iconst hC dX2_begin_1 rfl ?_
  refine m_putZ (jz := 1) hM dX2_begin_2 fw_RX2_32 rfl rfl rfl (by omega) ?_
  refine r_aload_n hC dX2_begin_5 rfl ?_
  refine r_iload_n hC dX2_begin_6 rfl ?_
  refine m_putI (jz := 2) hM dX2_begin_7 fw_RX2_36 rfl rfl rfl ?_
  refine r_aload_n hC dX2_begin_10 rfl ?_
  refine r_iload_n hC dX2_begin_11 rfl ?_
  refine m_putI (jz := 3) hM dX2_begin_12 fw_RX2_39 rfl rfl rfl ?_
  refine r_aload_n hC dX2_begin_15 rfl ?_
  refine r_iload_n hC dX2_begin_16 rfl ?_
  refine m_putI (jz := 4) hM dX2_begin_17 fw_RX2_42 rfl rfl rfl ?_
  refine r_aload_n hC dX2_begin_20 rfl ?_
  refine r_iload hC dX2_begin_21 rfl ?_
  refine m_putI (jz := 5) hM dX2_begin_23 fw_RX2_45 rfl rfl rfl ?_
  refine r_aload_n hC dX2_begin_26 rfl ?_
  refine r_iconst hC dX2_begin_27 rfl ?_
  refine m_putI (jz := 6) hM dX2_begin_28 fw_RX2_48 rfl rfl rfl ?_
  refine r_aload_n hC dX2_begin_31 rfl ?_
  refine r_iconst hC dX2_begin_32 rfl ?_
  refine m_putI (jz := 10) hM dX2_begin_33 fw_RX2_51 rfl rfl rfl ?_
  refine r_aload_n hC dX2_begin_36 rfl ?_
  refine r_iconst hC dX2_begin_37 rfl ?_
  refine m_putI (jz := 11) hM dX2_begin_38 fw_RX2_54 rfl rfl rfl ?_
  refine r_aload_n hC dX2_begin_41 rfl ?_
  refine r_iconst hC dX2_begin_42 rfl ?_
  refine m_putI (jz := 12) hM dX2_begin_43 fw_RX2_57 rfl rfl rfl ?_
  refine r_aload_n hC dX2_begin_46 rfl ?_
  refine r_iconst hC dX2_begin_47 rfl ?_
  refine m_putI (jz := 13) hM dX2_begin_48 fw_RX2_60 rfl rfl rfl ?_
  refine r_aload_n hC dX2_begin_51 rfl ?_
  refine r_iconst hC dX2_begin_52 rfl ?_
  refine m_putI (jz := 14) hM dX2_begin_53 fw_RX2_63 rfl rfl rfl ?_
  refine r_aload_n hC dX2_begin_56 rfl ?_
  refine r_iconst hC dX2_begin_57 rfl ?_
  refine m_putI (jz := 15) hM dX2_begin_58 fw_RX2_66 rfl rfl rfl ?_
  refine r_aload_n hC dX2_begin_61 rfl ?_
  refine m_getR hM dX2_begin_62 fl_RX2_28 rfl rfl (vld_of (n := 8) rfl (by omega) (by omega)) ?_
  refine m_inv0 hM dX2_begin_65 vl_RX2_69 rfl rfl rfl (Nat.le_of_ble_eq_true rfl) (Nat.le_of_ble_eq_true rfl) ?_
  refine w_clear (by omega) (fun τ1 hch1 => ?_)
  refine t_vret hK rfl dX2_begin_68 ?_
  refine k _ (fun c x j h1 h2 => ?_) ?_
  · rw [hch1 c x j h2]
    repeat rw [mu_ne (fun q => h1 ⟨q.1, q.2.1⟩)]
  · rw [hch1 7 i 1 (fun q => absurd q.1 (by decide))]
    repeat rw [mu_ne (fun q => absurd q.2.2 (by decide))]
    exact mu_self _ _ _ _ _
