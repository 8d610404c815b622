-- the reference: what moves
theorem m_goFlip {ea eb : Bool} {d : Nat} {P : Option Vl → Mm → Prop} {σ : Mm} {l : Int} (b_l : 0 ≤ l ∧ l ≤ 7)  (k : ∀ r : Int, -2147483648 ≤ r ∧ r ≤ 2147483647 → P (some (vI r)) σ) : WT (ea, eb, false) (d + 2) 178 [vR 30 0, vI l] σ P := by
  refine WT_in fun K hK => ?_
  have hK : StpY (ea, eb, false) cX6_goFlip RX6 (some .int) (WT (ea, eb, false) (d + 1)) P K := hK
  have hM := hK.1
  have hC := hK.1.1
  show K 0 [some (vR 30 0), some (vI l), none, none] [] σ
  refine r_aload_n hC dX6_goFlip_0 rfl ?_
  refine r_iload_n hC dX6_goFlip_1 rfl ?_
  refine r_bipush hC dX6_goFlip_2 rfl ?_
  refine z_inv2 hM dX6_goFlip_4 vl_RX6_80 rfl rfl rfl (Nat.le_of_ble_eq_true rfl) (Nat.le_of_ble_eq_true rfl) ?_
  refine m_of (by omega) (by omega) (fun v1 h_v1 h5_v1 h0_v1 t_v1 => ?_)
  refine r_iconst hC dX6_goFlip_7 rfl ?_
  have J22_3 : ∀ (w3 : Int), -2147483648 ≤ w3 ∧ w3 ≤ 2147483647 → K 22 [some (vR 30 0), some (vI l), none, none] [vI w3] σ := by
    intro w3  f_w3 
    refine r_istore_n hC dX6_goFlip_22 rfl ?_
    refine r_iload_n hC dX6_goFlip_23 rfl ?_
    have J40_6 : ∀ (w6 : Int), -2147483648 ≤ w6 ∧ w6 ≤ 2147483647 → K 40 [some (vR 30 0), some (vI l), some (vI w3), none] [vI w6] σ := by
      intro w6  f_w6 
      refine r_istore_n hC dX6_goFlip_40 rfl ?_
      refine r_iload_n hC dX6_goFlip_41 rfl ?_
      have J53_8 : K 53 [some (vR 30 0), some (vI l), some (vI w3), some (vI w6)] [] σ := by
        refine r_aload_n hC dX6_goFlip_53 rfl ?_
        refine r_iload_n hC dX6_goFlip_54 rfl ?_
        refine r_bipush hC dX6_goFlip_55 rfl ?_
        refine r_iload_n hC dX6_goFlip_57 rfl ?_
        refine r_inegG hC dX6_goFlip_58 (fun v10 h_v10 => ?_)
        refine z_inv3 hM dX6_goFlip_59 vl_RX6_188 rfl rfl rfl (Nat.le_of_ble_eq_true rfl) (Nat.le_of_ble_eq_true rfl) ?_
        refine m_more (by omega) (by omega) (by omega) ?_
        refine r_aload_n hC dX6_goFlip_62 rfl ?_
        refine r_iload_n hC dX6_goFlip_63 rfl ?_
        refine r_bipush hC dX6_goFlip_64 rfl ?_
        refine z_inv2 hM dX6_goFlip_66 vl_RX6_80 rfl rfl rfl (Nat.le_of_ble_eq_true rfl) (Nat.le_of_ble_eq_true rfl) ?_
        refine m_of (by omega) (by omega) (fun v11 h_v11 h5_v11 h0_v11 t_v11 => ?_)
        refine r_if_le (tgt := 74) hC dX6_goFlip_69 rfl (fun h12 => ?_) (fun h12 => ?_)
        · refine r_aload_n hC dX6_goFlip_74 rfl ?_
          refine r_iload_n hC dX6_goFlip_75 rfl ?_
          refine r_bipush hC dX6_goFlip_76 rfl ?_
          refine r_aload_n hC dX6_goFlip_78 rfl ?_
          refine r_iload_n hC dX6_goFlip_79 rfl ?_
          refine r_bipush hC dX6_goFlip_80 rfl ?_
          refine z_inv2 hM dX6_goFlip_82 vl_RX6_80 rfl rfl rfl (Nat.le_of_ble_eq_true rfl) (Nat.le_of_ble_eq_true rfl) ?_
          refine m_of (by omega) (by omega) (fun v13 h_v13 h5_v13 h0_v13 t_v13 => ?_)
          refine z_inv3 hM dX6_goFlip_85 vl_RX6_188 rfl rfl rfl (Nat.le_of_ble_eq_true rfl) (Nat.le_of_ble_eq_true rfl) ?_
          refine m_more (by omega) (by omega) (by omega) ?_
          refine r_aload_n hC dX6_goFlip_88 rfl ?_
          refine r_iload_n hC dX6_goFlip_89 rfl ?_
          refine r_bipush hC dX6_goFlip_90 rfl ?_
          refine r_iconst hC dX6_goFlip_92 rfl ?_
          refine z_inv3 hM dX6_goFlip_93 vl_RX6_173 rfl rfl rfl (Nat.le_of_ble_eq_true rfl) (Nat.le_of_ble_eq_true rfl) ?_
          refine m_set (by omega) (by omega) (by omega) ?_
          refine r_aload_n hC dX6_goFlip_96 rfl ?_
          refine r_iload_n hC dX6_goFlip_97 rfl ?_
          refine r_bipush hC dX6_goFlip_98 rfl ?_
          refine r_iconst hC dX6_goFlip_100 rfl ?_
          refine z_inv3 hM dX6_goFlip_101 vl_RX6_173 rfl rfl rfl (Nat.le_of_ble_eq_true rfl) (Nat.le_of_ble_eq_true rfl) ?_
          refine m_set (by omega) (by omega) (by omega) ?_
          refine r_iload_n hC dX6_goFlip_104 rfl ?_
          refine y_iret hK rfl dX6_goFlip_105 ?_
          exact k _ (by omega)
        · refine r_iload_n hC dX6_goFlip_72 rfl ?_
          refine y_iret hK rfl dX6_goFlip_73 ?_
          exact k _ (by omega)
      refine r_if_le (tgt := 53) hC dX6_goFlip_42 rfl (fun h8 => ?_) (fun h8 => ?_)
      · exact J53_8
      · refine r_aload_n hC dX6_goFlip_45 rfl ?_
        refine r_iload_n hC dX6_goFlip_46 rfl ?_
        refine r_bipush hC dX6_goFlip_47 rfl ?_
        refine r_iconst hC dX6_goFlip_49 rfl ?_
        refine z_inv3 hM dX6_goFlip_50 vl_RX6_173 rfl rfl rfl (Nat.le_of_ble_eq_true rfl) (Nat.le_of_ble_eq_true rfl) ?_
        refine m_set (by omega) (by omega) (by omega) ?_
        exact J53_8    
    refine r_if_le (tgt := 39) hC dX6_goFlip_24 rfl (fun h5 => ?_) (fun h5 => ?_)
    · refine r_iconst hC dX6_goFlip_39 rfl ?_
      exact J40_6 (0)  (by omega) 
    · refine r_iload_n hC dX6_goFlip_27 rfl ?_
      refine r_aload_n hC dX6_goFlip_28 rfl ?_
      refine r_iload_n hC dX6_goFlip_29 rfl ?_
      refine r_bipush hC dX6_goFlip_30 rfl ?_
      refine z_inv2 hM dX6_goFlip_32 vl_RX6_80 rfl rfl rfl (Nat.le_of_ble_eq_true rfl) (Nat.le_of_ble_eq_true rfl) ?_
      refine m_of (by omega) (by omega) (fun v14 h_v14 h5_v14 h0_v14 t_v14 => ?_)
      refine r_isubG hC dX6_goFlip_35 (fun v15 h_v15 => ?_)
      refine r_goto (tgt := 40) hC dX6_goFlip_36 rfl ?_
      exact J40_6 (v15)  (by omega) 
  refine r_icmp_ge (tgt := 21) hC dX6_goFlip_8 rfl (fun h2 => ?_) (fun h2 => ?_)
  · refine r_iconst hC dX6_goFlip_21 rfl ?_
    exact J22_3 (3)  (by omega) 
  · refine r_aload_n hC dX6_goFlip_11 rfl ?_
    refine r_iload_n hC dX6_goFlip_12 rfl ?_
    refine r_bipush hC dX6_goFlip_13 rfl ?_
    refine z_inv2 hM dX6_goFlip_15 vl_RX6_80 rfl rfl rfl (Nat.le_of_ble_eq_true rfl) (Nat.le_of_ble_eq_true rfl) ?_
    refine m_of (by omega) (by omega) (fun v16 h_v16 h5_v16 h0_v16 t_v16 => ?_)
    refine r_goto (tgt := 22) hC dX6_goFlip_18 rfl ?_
    exact J22_3 (v16)  (by omega) 
theorem m_endMove {ea eb : Bool} {d : Nat} {P : Option Vl → Mm → Prop} {σ : Mm} {l v : Int} (b_l : 0 ≤ l ∧ l ≤ 7)  (k : P none σ) : WT (ea, eb, false) (d + 7) 177 [vR 30 0, vI l, vI v] σ P := by
  refine WT_in fun K hK => ?_
  have hK : StpY (ea, eb, false) cX6_endMove RX6 (none) (WT (ea, eb, false) (d + 6)) P K := hK
  have hM := hK.1
  have hC := hK.1.1
  show K 0 [some (vR 30 0), some (vI l), some (vI v), none] [] σ
  refine r_rngz hC (fun g0 => ?_)
  have r_v : -2147483648 ≤ v ∧ v ≤ 2147483647 := inR_le (g0 (vI v) (by simp))
  refine r_iload_n hC dX6_endMove_0 rfl ?_
  refine r_istore_n hC dX6_endMove_1 rfl ?_
  refine r_aload_n hC dX6_endMove_2 rfl ?_
  refine r_iload_n hC dX6_endMove_3 rfl ?_
  refine r_bipush hC dX6_endMove_4 rfl ?_
  refine z_inv2 hM dX6_endMove_6 vl_RX6_80 rfl rfl rfl (Nat.le_of_ble_eq_true rfl) (Nat.le_of_ble_eq_true rfl) ?_
  refine m_of (by omega) (by omega) (fun v1 h_v1 h5_v1 h0_v1 t_v1 => ?_)
  have J89_2 : K 89 [some (vR 30 0), some (vI l), some (vI v), some (vI v)] [] σ := by
    refine r_aload_n hC dX6_endMove_89 rfl ?_
    refine r_iload_n hC dX6_endMove_90 rfl ?_
    refine r_bipush hC dX6_endMove_91 rfl ?_
    refine z_inv2 hM dX6_endMove_93 vl_RX6_80 rfl rfl rfl (Nat.le_of_ble_eq_true rfl) (Nat.le_of_ble_eq_true rfl) ?_
    refine m_of (by omega) (by omega) (fun v4 h_v4 h5_v4 h0_v4 t_v4 => ?_)
    refine r_iconst hC dX6_endMove_96 rfl ?_
    have J108_6 : ∀ (w6 : Int), -2147483648 ≤ w6 ∧ w6 ≤ 2147483647 → K 108 [some (vR 30 0), some (vI l), some (vI v), some (vI w6)] [] σ := by
      intro w6  f_w6 
      refine r_aload_n hC dX6_endMove_108 rfl ?_
      refine r_iload_n hC dX6_endMove_109 rfl ?_
      refine r_bipush hC dX6_endMove_110 rfl ?_
      refine r_iload_n hC dX6_endMove_112 rfl ?_
      refine z_inv3 hM dX6_endMove_113 vl_RX6_173 rfl rfl rfl (Nat.le_of_ble_eq_true rfl) (Nat.le_of_ble_eq_true rfl) ?_
      refine m_set (by omega) (by omega) (by omega) ?_
      refine r_aload_n hC dX6_endMove_116 rfl ?_
      refine r_iload_n hC dX6_endMove_117 rfl ?_
      refine r_bipush hC dX6_endMove_118 rfl ?_
      refine r_iload_n hC dX6_endMove_120 rfl ?_
      refine z_inv3 hM dX6_endMove_121 vl_RX6_188 rfl rfl rfl (Nat.le_of_ble_eq_true rfl) (Nat.le_of_ble_eq_true rfl) ?_
      refine m_more (by omega) (by omega) (by omega) ?_
      refine r_iload_n hC dX6_endMove_124 rfl ?_
      refine r_aload_n hC dX6_endMove_125 rfl ?_
      refine r_iload_n hC dX6_endMove_126 rfl ?_
      refine r_bipush hC dX6_endMove_127 rfl ?_
      refine z_inv2 hM dX6_endMove_129 vl_RX6_80 rfl rfl rfl (Nat.le_of_ble_eq_true rfl) (Nat.le_of_ble_eq_true rfl) ?_
      refine m_of (by omega) (by omega) (fun v8 h_v8 h5_v8 h0_v8 t_v8 => ?_)
      have J143_9 : K 143 [some (vR 30 0), some (vI l), some (vI v), some (vI w6)] [] σ := by
        refine r_aload_n hC dX6_endMove_143 rfl ?_
        refine r_iload_n hC dX6_endMove_144 rfl ?_
        refine z_inv1 hM dX6_endMove_145 vl_RX6_191 rfl rfl rfl (Nat.le_of_ble_eq_true rfl) (Nat.le_of_ble_eq_true rfl) ?_
        refine m_look (by omega) ?_
        refine y_vret hK rfl dX6_endMove_148 ?_
        exact k
      refine r_icmp_le (tgt := 143) hC dX6_endMove_132 rfl (fun h9 => ?_) (fun h9 => ?_)
      · exact J143_9
      · refine r_aload_n hC dX6_endMove_135 rfl ?_
        refine r_iload_n hC dX6_endMove_136 rfl ?_
        refine r_bipush hC dX6_endMove_137 rfl ?_
        refine r_iload_n hC dX6_endMove_139 rfl ?_
        refine z_inv3 hM dX6_endMove_140 vl_RX6_173 rfl rfl rfl (Nat.le_of_ble_eq_true rfl) (Nat.le_of_ble_eq_true rfl) ?_
        refine m_set (by omega) (by omega) (by omega) ?_
        exact J143_9    
    refine r_icmp_ne (tgt := 108) hC dX6_endMove_97 rfl (fun h5 => ?_) (fun h5 => ?_)
    · exact J108_6 (v)  (by omega)
    · refine r_iload_n hC dX6_endMove_100 rfl ?_
      refine r_aload_n hC dX6_endMove_101 rfl ?_
      refine r_iload_n hC dX6_endMove_102 rfl ?_
      refine z_inv1 hM dX6_endMove_103 vl_RX6_185 rfl rfl rfl (Nat.le_of_ble_eq_true rfl) (Nat.le_of_ble_eq_true rfl) ?_
      refine m_goFlip (by omega) (fun v11 h_v11 => ?_)
      refine r_iaddG hC dX6_endMove_106 (fun v12 h_v12 => ?_)
      refine r_istore_n hC dX6_endMove_107 rfl ?_
      exact J108_6 (v12)  (by omega) 
  refine r_if_ne (tgt := 89) hC dX6_endMove_9 rfl (fun h2 => ?_) (fun h2 => ?_)
  · exact J89_2
  · refine r_aload_n hC dX6_endMove_12 rfl ?_
    refine r_iload_n hC dX6_endMove_13 rfl ?_
    refine r_bipush hC dX6_endMove_14 rfl ?_
    refine z_inv2 hM dX6_endMove_16 vl_RX6_80 rfl rfl rfl (Nat.le_of_ble_eq_true rfl) (Nat.le_of_ble_eq_true rfl) ?_
    refine m_of (by omega) (by omega) (fun v13 h_v13 h5_v13 h0_v13 t_v13 => ?_)
    refine r_aload_n hC dX6_endMove_19 rfl ?_
    refine r_iload_n hC dX6_endMove_20 rfl ?_
    refine r_bipush hC dX6_endMove_21 rfl ?_
    refine z_inv2 hM dX6_endMove_23 vl_RX6_80 rfl rfl rfl (Nat.le_of_ble_eq_true rfl) (Nat.le_of_ble_eq_true rfl) ?_
    refine m_of (by omega) (by omega) (fun v14 h_v14 h5_v14 h0_v14 t_v14 => ?_)
    refine r_icmp_le (tgt := 89) hC dX6_endMove_26 rfl (fun h15 => ?_) (fun h15 => ?_)
    · exact J89_2
    · refine r_aload_n hC dX6_endMove_29 rfl ?_
      refine r_iload_n hC dX6_endMove_30 rfl ?_
      refine r_bipush hC dX6_endMove_31 rfl ?_
      refine r_iconst hC dX6_endMove_33 rfl ?_
      refine z_inv3 hM dX6_endMove_34 vl_RX6_173 rfl rfl rfl (Nat.le_of_ble_eq_true rfl) (Nat.le_of_ble_eq_true rfl) ?_
      refine m_set (by omega) (by omega) (by omega) ?_
      refine r_aload_n hC dX6_endMove_37 rfl ?_
      refine r_iload_n hC dX6_endMove_38 rfl ?_
      refine r_bipush hC dX6_endMove_39 rfl ?_
      refine r_iconst hC dX6_endMove_41 rfl ?_
      refine z_inv3 hM dX6_endMove_42 vl_RX6_173 rfl rfl rfl (Nat.le_of_ble_eq_true rfl) (Nat.le_of_ble_eq_true rfl) ?_
      refine m_set (by omega) (by omega) (by omega) ?_
      refine r_aload_n hC dX6_endMove_45 rfl ?_
      refine r_iload_n hC dX6_endMove_46 rfl ?_
      refine r_bipush hC dX6_endMove_47 rfl ?_
      refine r_aload_n hC dX6_endMove_49 rfl ?_
      refine r_iload_n hC dX6_endMove_50 rfl ?_
      refine r_bipush hC dX6_endMove_51 rfl ?_
      refine z_inv2 hM dX6_endMove_53 vl_RX6_80 rfl rfl rfl (Nat.le_of_ble_eq_true rfl) (Nat.le_of_ble_eq_true rfl) ?_
      refine m_of (by omega) (by omega) (fun v16 h_v16 h5_v16 h0_v16 t_v16 => ?_)
      refine z_inv3 hM dX6_endMove_56 vl_RX6_173 rfl rfl rfl (Nat.le_of_ble_eq_true rfl) (Nat.le_of_ble_eq_true rfl) ?_
      refine m_set (by omega) (by omega) (by omega) ?_
      refine r_aload_n hC dX6_endMove_59 rfl ?_
      refine r_iload_n hC dX6_endMove_60 rfl ?_
      refine r_bipush hC dX6_endMove_61 rfl ?_
      refine r_iconst hC dX6_endMove_63 rfl ?_
      refine z_inv3 hM dX6_endMove_64 vl_RX6_173 rfl rfl rfl (Nat.le_of_ble_eq_true rfl) (Nat.le_of_ble_eq_true rfl) ?_
      refine m_set (by omega) (by omega) (by omega) ?_
      refine r_aload_n hC dX6_endMove_67 rfl ?_
      refine r_iload_n hC dX6_endMove_68 rfl ?_
      refine r_bipush hC dX6_endMove_69 rfl ?_
      refine r_aload_n hC dX6_endMove_71 rfl ?_
      refine r_iload_n hC dX6_endMove_72 rfl ?_
      refine r_bipush hC dX6_endMove_73 rfl ?_
      refine z_inv2 hM dX6_endMove_75 vl_RX6_80 rfl rfl rfl (Nat.le_of_ble_eq_true rfl) (Nat.le_of_ble_eq_true rfl) ?_
      refine m_of (by omega) (by omega) (fun v17 h_v17 h5_v17 h0_v17 t_v17 => ?_)
      refine r_aload_n hC dX6_endMove_78 rfl ?_
      refine r_iload_n hC dX6_endMove_79 rfl ?_
      refine r_bipush hC dX6_endMove_80 rfl ?_
      refine z_inv2 hM dX6_endMove_82 vl_RX6_80 rfl rfl rfl (Nat.le_of_ble_eq_true rfl) (Nat.le_of_ble_eq_true rfl) ?_
      refine m_of (by omega) (by omega) (fun v18 h_v18 h5_v18 h0_v18 t_v18 => ?_)
      refine r_iaddG hC dX6_endMove_85 (fun v19 h_v19 => ?_)
      refine z_inv3 hM dX6_endMove_86 vl_RX6_173 rfl rfl rfl (Nat.le_of_ble_eq_true rfl) (Nat.le_of_ble_eq_true rfl) ?_
      refine m_set (by omega) (by omega) (by omega) ?_
      exact J89_2    
theorem m_layAnew {ea eb : Bool} {d : Nat} {P : Option Vl → Mm → Prop} {σ : Mm} {l : Int} (b_l : 0 ≤ l ∧ l ≤ 7)  (k : P none σ) : WT (ea, eb, false) (d + 7) 179 [vR 30 0, vI l] σ P := by
  refine WT_in fun K hK => ?_
  have hK : StpY (ea, eb, false) cX6_layAnew RX6 (none) (WT (ea, eb, false) (d + 6)) P K := hK
  have hM := hK.1
  have hC := hK.1.1
  show K 0 [some (vR 30 0), some (vI l), none] [] σ
  refine r_aload_n hC dX6_layAnew_0 rfl ?_
  refine r_iload_n hC dX6_layAnew_1 rfl ?_
  refine r_bipush hC dX6_layAnew_2 rfl ?_
  refine r_aload_n hC dX6_layAnew_4 rfl ?_
  refine r_iload_n hC dX6_layAnew_5 rfl ?_
  refine z_inv1 hM dX6_layAnew_6 vl_RX6_116 rfl rfl rfl (Nat.le_of_ble_eq_true rfl) (Nat.le_of_ble_eq_true rfl) ?_
  refine m_heldOf (by omega) (fun v1 h_v1 t_v1 => ?_)
  refine z_inv3 hM dX6_layAnew_9 vl_RX6_173 rfl rfl rfl (Nat.le_of_ble_eq_true rfl) (Nat.le_of_ble_eq_true rfl) ?_
  refine m_set (by omega) (by omega) (by omega) ?_
  refine r_aload_n hC dX6_layAnew_12 rfl ?_
  refine r_iload_n hC dX6_layAnew_13 rfl ?_
  refine r_bipush hC dX6_layAnew_14 rfl ?_
  refine r_iconst hC dX6_layAnew_16 rfl ?_
  refine z_inv3 hM dX6_layAnew_17 vl_RX6_173 rfl rfl rfl (Nat.le_of_ble_eq_true rfl) (Nat.le_of_ble_eq_true rfl) ?_
  refine m_set (by omega) (by omega) (by omega) ?_
  refine r_aload_n hC dX6_layAnew_20 rfl ?_
  refine r_iload_n hC dX6_layAnew_21 rfl ?_
  refine r_bipush hC dX6_layAnew_22 rfl ?_
  refine r_iconst hC dX6_layAnew_24 rfl ?_
  refine z_inv3 hM dX6_layAnew_25 vl_RX6_173 rfl rfl rfl (Nat.le_of_ble_eq_true rfl) (Nat.le_of_ble_eq_true rfl) ?_
  refine m_set (by omega) (by omega) (by omega) ?_
  refine r_aload_n hC dX6_layAnew_28 rfl ?_
  refine r_iload_n hC dX6_layAnew_29 rfl ?_
  refine r_bipush hC dX6_layAnew_30 rfl ?_
  refine r_iconst hC dX6_layAnew_32 rfl ?_
  refine z_inv3 hM dX6_layAnew_33 vl_RX6_173 rfl rfl rfl (Nat.le_of_ble_eq_true rfl) (Nat.le_of_ble_eq_true rfl) ?_
  refine m_set (by omega) (by omega) (by omega) ?_
  refine r_aload_n hC dX6_layAnew_36 rfl ?_
  refine r_iload_n hC dX6_layAnew_37 rfl ?_
  refine r_bipush hC dX6_layAnew_38 rfl ?_
  refine r_iconst hC dX6_layAnew_40 rfl ?_
  refine z_inv3 hM dX6_layAnew_41 vl_RX6_173 rfl rfl rfl (Nat.le_of_ble_eq_true rfl) (Nat.le_of_ble_eq_true rfl) ?_
  refine m_set (by omega) (by omega) (by omega) ?_
  refine r_aload_n hC dX6_layAnew_44 rfl ?_
  refine r_iload_n hC dX6_layAnew_45 rfl ?_
  refine z_inv1 hM dX6_layAnew_46 vl_RX6_116 rfl rfl rfl (Nat.le_of_ble_eq_true rfl) (Nat.le_of_ble_eq_true rfl) ?_
  refine m_heldOf (by omega) (fun v2 h_v2 t_v2 => ?_)
  have J63_4 : ∀ (w4 : Int), -1 ≤ w4 ∧ w4 ≤ 120 → K 63 [some (vR 30 0), some (vI l), none] [vI w4] σ := by
    intro w4  f_w4 
    refine r_istore_n hC dX6_layAnew_63 rfl ?_
    refine r_aload_n hC dX6_layAnew_64 rfl ?_
    refine r_iload_n hC dX6_layAnew_65 rfl ?_
    refine r_bipush hC dX6_layAnew_66 rfl ?_
    refine r_iload_n hC dX6_layAnew_68 rfl ?_
    refine z_inv3 hM dX6_layAnew_69 vl_RX6_173 rfl rfl rfl (Nat.le_of_ble_eq_true rfl) (Nat.le_of_ble_eq_true rfl) ?_
    refine m_set (by omega) (by omega) (by omega) ?_
    refine r_aload_n hC dX6_layAnew_72 rfl ?_
    refine r_iload_n hC dX6_layAnew_73 rfl ?_
    refine r_bipush hC dX6_layAnew_74 rfl ?_
    refine r_iload_n hC dX6_layAnew_76 rfl ?_
    refine z_inv3 hM dX6_layAnew_77 vl_RX6_188 rfl rfl rfl (Nat.le_of_ble_eq_true rfl) (Nat.le_of_ble_eq_true rfl) ?_
    refine m_more (by omega) (by omega) (by omega) ?_
    refine r_aload_n hC dX6_layAnew_80 rfl ?_
    refine r_iload_n hC dX6_layAnew_81 rfl ?_
    refine z_inv1 hM dX6_layAnew_82 vl_RX6_191 rfl rfl rfl (Nat.le_of_ble_eq_true rfl) (Nat.le_of_ble_eq_true rfl) ?_
    refine m_look (by omega) ?_
    refine y_vret hK rfl dX6_layAnew_85 ?_
    exact k
  refine r_if_le (tgt := 62) hC dX6_layAnew_49 rfl (fun h3 => ?_) (fun h3 => ?_)
  · refine r_iconst hC dX6_layAnew_62 rfl ?_
    exact J63_4 (0)  (by omega) 
  · refine r_aload_n hC dX6_layAnew_52 rfl ?_
    refine r_iload_n hC dX6_layAnew_53 rfl ?_
    refine z_inv1 hM dX6_layAnew_54 vl_RX6_116 rfl rfl rfl (Nat.le_of_ble_eq_true rfl) (Nat.le_of_ble_eq_true rfl) ?_
    refine m_heldOf (by omega) (fun v6 h_v6 t_v6 => ?_)
    refine r_iconst hC dX6_layAnew_57 rfl ?_
    refine r_isubE hC ((v6 - 1)) dX6_layAnew_58 (by omega) (by unfold inR; omega) ?_
    refine r_goto (tgt := 63) hC dX6_layAnew_59 rfl ?_
    exact J63_4 ((v6 - 1))  (by omega) 
theorem m_copyEvent {ea eb : Bool} {d : Nat} {P : Option Vl → Mm → Prop} {σ : Mm} {i x : Int} (b_i : 0 ≤ i ∧ i ≤ 967) (b_x : 0 ≤ x ∧ x ≤ 967)  (k : P none σ) : WT (ea, eb, false) (d + 1) 190 [vR 30 0, vI i, vI x] σ P := by
  refine WT_in fun K hK => ?_
  have hK : StpY (ea, eb, false) cX6_copyEvent RX6 (none) (WT (ea, eb, false) (d + 0)) P K := hK
  have hM := hK.1
  have hC := hK.1.1
  show K 0 [some (vR 30 0), some (vI i), some (vI x)] [] σ
  refine r_aload_n hC dX6_copyEvent_0 rfl ?_
  refine z_getR hM dX6_copyEvent_1 fl_RX6_13 rfl rfl (vld_of (n := 1) rfl (by omega) (by omega)) ?_
  refine r_iload_n hC dX6_copyEvent_4 rfl ?_
  refine r_aload_n hC dX6_copyEvent_5 rfl ?_
  refine z_getR hM dX6_copyEvent_6 fl_RX6_13 rfl rfl (vld_of (n := 1) rfl (by omega) (by omega)) ?_
  refine r_iload_n hC dX6_copyEvent_9 rfl ?_
  refine z_iald hM dX6_copyEvent_10 rfl (by omega) (by omega) (fun v1 h_v1 o_v1 t_v1 => ?_)
  refine z_iastU hM dX6_copyEvent_11 rfl (by omega) (by omega) (by simp [Un, Tb, DL, DF, DR]) (by simp [Okv]) ?_
  refine r_aload_n hC dX6_copyEvent_12 rfl ?_
  refine z_getR hM dX6_copyEvent_13 fl_RX6_16 rfl rfl (vld_of (n := 1) rfl (by omega) (by omega)) ?_
  refine r_iload_n hC dX6_copyEvent_16 rfl ?_
  refine r_aload_n hC dX6_copyEvent_17 rfl ?_
  refine z_getR hM dX6_copyEvent_18 fl_RX6_16 rfl rfl (vld_of (n := 1) rfl (by omega) (by omega)) ?_
  refine r_iload_n hC dX6_copyEvent_21 rfl ?_
  refine z_iald hM dX6_copyEvent_22 rfl (by omega) (by omega) (fun v2 h_v2 o_v2 t_v2 => ?_)
  refine z_iastU hM dX6_copyEvent_23 rfl (by omega) (by omega) (by simp [Un, Tb, DL, DF, DR]) (by simp [Okv]) ?_
  refine r_aload_n hC dX6_copyEvent_24 rfl ?_
  refine z_getR hM dX6_copyEvent_25 fl_RX6_19 rfl rfl (vld_of (n := 1) rfl (by omega) (by omega)) ?_
  refine r_iload_n hC dX6_copyEvent_28 rfl ?_
  refine r_aload_n hC dX6_copyEvent_29 rfl ?_
  refine z_getR hM dX6_copyEvent_30 fl_RX6_19 rfl rfl (vld_of (n := 1) rfl (by omega) (by omega)) ?_
  refine r_iload_n hC dX6_copyEvent_33 rfl ?_
  refine z_iald hM dX6_copyEvent_34 rfl (by omega) (by omega) (fun v3 h_v3 o_v3 t_v3 => ?_)
  refine z_iastU hM dX6_copyEvent_35 rfl (by omega) (by omega) (by simp [Un, Tb, DL, DF, DR]) (by simp [Okv]) ?_
  refine y_vret hK rfl dX6_copyEvent_36 ?_
  exact k
theorem m_shift {eb : Bool} {d : Nat} {P : Option Vl → Mm → Prop} {σ : Mm} {l f z h : Int} (b_l : 0 ≤ l ∧ l ≤ 7) (b_f : 0 ≤ f ∧ f ≤ 120) (b_z : 0 ≤ z ∧ z ≤ 1) (b_h : 0 ≤ h ∧ h ≤ 121) (qg0 : σ 31 0 ((22 * l) + 5) = h) (hz : z = 1 → h ≤ 120)  (k : P none σ) : WT (true, eb, false) (d + 3) 189 [vR 30 0, vI l, vI f, vI z] σ P := by
  refine WT_in fun K hK => ?_
  have hK : StpY (true, eb, false) cX6_shift RX6 (none) (WT (true, eb, false) (d + 2)) P K := hK
  have hM := hK.1
  have hC := hK.1.1
  show K 0 [some (vR 30 0), some (vI l), some (vI f), some (vI z), none, none] [] σ
  refine r_bipush hC dX6_shift_0 rfl ?_
  refine r_iload_n hC dX6_shift_2 rfl ?_
  refine r_imulE hC ((121 * l)) dX6_shift_3 (by omega) (by unfold inR; omega) ?_
  refine r_istore hC dX6_shift_4 rfl ?_
  refine r_iload_n hC dX6_shift_6 rfl ?_
  refine r_if_eq (tgt := 48) hC dX6_shift_7 rfl (fun h1 => ?_) (fun h1 => ?_)
  · refine r_iload hC dX6_shift_48 rfl ?_
    refine r_iload_n hC dX6_shift_50 rfl ?_
    refine r_iaddE hC (((121 * l) + f)) dX6_shift_51 (by omega) (by unfold inR; omega) ?_
    refine r_istore hC dX6_shift_52 rfl ?_
    have L54 : ∀ (n54 : Nat) (w2 : Int), 0 ≤ w2 ∧ w2 ≤ 967 → 967 - w2 < (n54 : Int) → K 54 [some (vR 30 0), some (vI l), some (vI f), some (vI z), some (vI (121 * l)), some (vI w2)] [] σ := by
      intro n54
      induction n54 with
      | zero => intro w2  f_w2  hm ; omega
      | succ n54 ih54 =>
        intro w2  f_w2  hm54 
        refine r_iload hC dX6_shift_54 rfl ?_
        refine r_iconst hC dX6_shift_56 rfl ?_
        refine r_iaddE hC ((w2 + 1)) dX6_shift_57 (by omega) (by unfold inR; omega) ?_
        refine r_iload hC dX6_shift_58 rfl ?_
        refine r_aload_n hC dX6_shift_60 rfl ?_
        refine r_iload_n hC dX6_shift_61 rfl ?_
        refine z_inv1 hM dX6_shift_62 vl_RX6_116 rfl rfl rfl (Nat.le_of_ble_eq_true rfl) (Nat.le_of_ble_eq_true rfl) ?_
        refine m_heldOf (by omega) (fun v3 h_v3 t_v3 => ?_)
        have e_v3 : h = v3 := ((t_v3 rfl).trans qg0).symm
        subst e_v3
        refine r_iaddE hC (((121 * l) + h)) dX6_shift_65 (by omega) (by unfold inR; omega) ?_
        refine r_icmp_ge (tgt := 85) hC dX6_shift_66 rfl (fun h4 => ?_) (fun h4 => ?_)
        · refine y_vret hK rfl dX6_shift_85 ?_
          exact k
        · refine r_aload_n hC dX6_shift_69 rfl ?_
          refine r_iload hC dX6_shift_70 rfl ?_
          refine r_iconst hC dX6_shift_72 rfl ?_
          refine r_iaddE hC ((w2 + 1)) dX6_shift_73 (by omega) (by unfold inR; omega) ?_
          refine r_iload hC dX6_shift_74 rfl ?_
          refine z_inv2 hM dX6_shift_76 vl_RX6_213 rfl rfl rfl (Nat.le_of_ble_eq_true rfl) (Nat.le_of_ble_eq_true rfl) ?_
          refine m_copyEvent (by omega) (by omega) ?_
          refine r_iincE hC ((w2 + 1)) dX6_shift_79 rfl rfl (by omega) (by unfold inR; omega) ?_
          refine r_goto (tgt := 54) hC dX6_shift_82 rfl ?_
          exact ih54 ((w2 + 1))  (by omega)  (by omega) 
    exact L54 969 (((121 * l) + f))  (by omega)  (by omega) 
  · refine r_iload hC dX6_shift_10 rfl ?_
    refine r_aload_n hC dX6_shift_12 rfl ?_
    refine r_iload_n hC dX6_shift_13 rfl ?_
    refine z_inv1 hM dX6_shift_14 vl_RX6_116 rfl rfl rfl (Nat.le_of_ble_eq_true rfl) (Nat.le_of_ble_eq_true rfl) ?_
    refine m_heldOf (by omega) (fun v5 h_v5 t_v5 => ?_)
    have e_v5 : h = v5 := ((t_v5 rfl).trans qg0).symm
    subst e_v5
    refine r_iaddE hC (((121 * l) + h)) dX6_shift_17 (by omega) (by unfold inR; omega) ?_
    refine r_istore hC dX6_shift_18 rfl ?_
    have L20 : ∀ (n20 : Nat) (w6 : Int), 0 ≤ w6 ∧ w6 ≤ 968 → ((w6) ≤ 121 * l + h) → w6 - 0 < (n20 : Int) → K 20 [some (vR 30 0), some (vI l), some (vI f), some (vI z), some (vI (121 * l)), some (vI w6)] [] σ := by
      intro n20
      induction n20 with
      | zero => intro w6  f_w6 i0_20 hm ; omega
      | succ n20 ih20 =>
        intro w6  f_w6 i0_20 hm20 
        refine r_iload hC dX6_shift_20 rfl ?_
        refine r_iload hC dX6_shift_22 rfl ?_
        refine r_iload_n hC dX6_shift_24 rfl ?_
        refine r_iaddE hC (((121 * l) + f)) dX6_shift_25 (by omega) (by unfold inR; omega) ?_
        refine r_icmp_le (tgt := 45) hC dX6_shift_26 rfl (fun h7 => ?_) (fun h7 => ?_)
        · refine r_goto (tgt := 85) hC dX6_shift_45 rfl ?_
          refine y_vret hK rfl dX6_shift_85 ?_
          exact k
        · refine r_aload_n hC dX6_shift_29 rfl ?_
          refine r_iload hC dX6_shift_30 rfl ?_
          refine r_iconst hC dX6_shift_32 rfl ?_
          refine r_isubE hC ((w6 - 1)) dX6_shift_33 (by omega) (by unfold inR; omega) ?_
          refine r_iload hC dX6_shift_34 rfl ?_
          refine z_inv2 hM dX6_shift_36 vl_RX6_213 rfl rfl rfl (Nat.le_of_ble_eq_true rfl) (Nat.le_of_ble_eq_true rfl) ?_
          refine m_copyEvent (by omega) (by omega) ?_
          refine r_iincE hC ((w6 - 1)) dX6_shift_39 rfl rfl (by omega) (by unfold inR; omega) ?_
          refine r_goto (tgt := 20) hC dX6_shift_42 rfl ?_
          exact ih20 ((w6 - 1))  (by omega) (by omega) (by omega) 
    exact L20 970 (((121 * l) + h))  (by omega) (by omega) (by omega) 
theorem m_moreT {eb : Bool} {d : Nat} {P : Option Vl → Mm → Prop} {σ : Mm} {l v h : Int} (b_l : 0 ≤ l ∧ l ≤ 7) (b_v : -1 ≤ v ∧ v ≤ 1) (b_h : 0 ≤ h ∧ h ≤ 121) (qg0 : σ 31 0 ((22 * l) + 5) = h) (hv : 0 ≤ h + v ∧ h + v ≤ 121)  (k : ∀ ρ : Mm, Al1 σ ρ 31 0 (22 * l + 5) → ρ 31 0 (22 * l + 5) = h + v → P none ρ) : WT (true, eb, false) (d + 1) 140 [vR 30 0, vI l, vI 5, vI v] σ P := by
  refine WT_in fun K hK => ?_
  have hK : StpY (true, eb, false) cX6_more RX6 (none) (WT (true, eb, false) (d + 0)) P K := hK
  have hM := hK.1
  have hC := hK.1.1
  show K 0 [some (vR 30 0), some (vI l), some (vI 5), some (vI v)] [] σ
  refine r_aload_n hC dX6_more_0 rfl ?_
  refine z_getR hM dX6_more_1 fl_RX6_7 rfl rfl (vld_of (n := 1) rfl (by omega) (by omega)) ?_
  refine r_bipush hC dX6_more_4 rfl ?_
  refine r_iload_n hC dX6_more_6 rfl ?_
  refine r_imulE hC ((22 * l)) dX6_more_7 (by omega) (by unfold inR; omega) ?_
  refine r_iload_n hC dX6_more_8 rfl ?_
  refine r_iaddE hC (((22 * l) + 5)) dX6_more_9 (by omega) (by unfold inR; omega) ?_
  refine r_dup2 hC dX6_more_10 rfl rfl ?_
  refine z_iald hM dX6_more_11 rfl (by omega) (by omega) (fun v1 h_v1 o_v1 t_v1 => ?_)
  have e_v1 : h = v1 := ((t_v1 (Or.inr (Or.inl ⟨rfl, by simp only [DL]; omega⟩))).trans qg0).symm
  subst e_v1
  refine r_iload_n hC dX6_more_12 rfl ?_
  refine r_iaddE hC ((h + v)) dX6_more_13 (by omega) (by unfold inR; omega) ?_
  refine z_iastG hM dX6_more_14 rfl (by omega) (by omega) ⟨Or.inl rfl, Or.inr (by simp [DF])⟩ (by first | trivial | (simp only [Okv]; omega) | (simp [Okv]; try omega)) (fun ρ2 a_ρ2 q_ρ2 => ?_)
  refine y_vret hK rfl dX6_more_15 ?_
  exact k _ ((Gx.rf).al a_ρ2 (by first | simp | omega)) (by have hq := q_ρ2; omega)
theorem m_drop {eb : Bool} {d : Nat} {P : Option Vl → Mm → Prop} {σ : Mm} {l h : Int} (b_l : 0 ≤ l ∧ l ≤ 7) (b_h : 1 ≤ h ∧ h ≤ 121) (qg0 : σ 31 0 ((22 * l) + 5) = h)  (k : ∀ ρ : Mm, Al1 σ ρ 31 0 (22 * l + 5) → ρ 31 0 (22 * l + 5) = h - 1 → P none ρ) : WT (true, eb, false) (d + 8) 192 [vR 30 0, vI l] σ P := by
  refine WT_in fun K hK => ?_
  have hK : StpY (true, eb, false) cX6_drop RX6 (none) (WT (true, eb, false) (d + 7)) P K := hK
  have hM := hK.1
  have hC := hK.1.1
  show K 0 [some (vR 30 0), some (vI l)] [] σ
  refine r_aload_n hC dX6_drop_0 rfl ?_
  refine r_iload_n hC dX6_drop_1 rfl ?_
  refine r_iconst hC dX6_drop_2 rfl ?_
  refine r_iconst hC dX6_drop_3 rfl ?_
  refine z_inv3 hM dX6_drop_4 vl_RX6_217 rfl rfl rfl (Nat.le_of_ble_eq_true rfl) (Nat.le_of_ble_eq_true rfl) ?_
  refine m_shift (h := h) (by omega) (by omega) (by omega) (by omega) (by have hq := qg0; omega) (by omega) ?_
  refine r_aload_n hC dX6_drop_7 rfl ?_
  refine r_iload_n hC dX6_drop_8 rfl ?_
  refine r_iconst hC dX6_drop_9 rfl ?_
  refine r_iconst hC dX6_drop_10 rfl ?_
  refine z_inv3 hM dX6_drop_11 vl_RX6_188 rfl rfl rfl (Nat.le_of_ble_eq_true rfl) (Nat.le_of_ble_eq_true rfl) ?_
  refine m_moreT (h := h) (by omega) (by omega) (by omega) (by have hq := qg0; omega) (by omega) (fun ρ1 a_ρ1 q_ρ1 => ?_)
  refine r_aload_n hC dX6_drop_14 rfl ?_
  refine r_iload_n hC dX6_drop_15 rfl ?_
  refine r_bipush hC dX6_drop_16 rfl ?_
  refine r_iconst hC dX6_drop_18 rfl ?_
  refine z_inv3 hM dX6_drop_19 vl_RX6_188 rfl rfl rfl (Nat.le_of_ble_eq_true rfl) (Nat.le_of_ble_eq_true rfl) ?_
  refine m_more (by omega) (by omega) (by omega) ?_
  refine r_aload_n hC dX6_drop_22 rfl ?_
  refine r_iload_n hC dX6_drop_23 rfl ?_
  refine r_bipush hC dX6_drop_24 rfl ?_
  refine r_iconst hC dX6_drop_26 rfl ?_
  refine z_inv3 hM dX6_drop_27 vl_RX6_188 rfl rfl rfl (Nat.le_of_ble_eq_true rfl) (Nat.le_of_ble_eq_true rfl) ?_
  refine m_more (by omega) (by omega) (by omega) ?_
  refine r_aload_n hC dX6_drop_30 rfl ?_
  refine r_iload_n hC dX6_drop_31 rfl ?_
  refine r_bipush hC dX6_drop_32 rfl ?_
  refine z_inv2 hM dX6_drop_34 vl_RX6_80 rfl rfl rfl (Nat.le_of_ble_eq_true rfl) (Nat.le_of_ble_eq_true rfl) ?_
  refine m_of (by omega) (by omega) (fun v2 h_v2 h5_v2 h0_v2 t_v2 => ?_)
  refine r_iconst hC dX6_drop_37 rfl ?_
  refine r_icmp_ne (tgt := 49) hC dX6_drop_38 rfl (fun h3 => ?_) (fun h3 => ?_)
  · refine r_aload_n hC dX6_drop_49 rfl ?_
    refine r_iload_n hC dX6_drop_50 rfl ?_
    refine r_iconst hC dX6_drop_51 rfl ?_
    refine z_inv2 hM dX6_drop_52 vl_RX6_221 rfl rfl rfl (Nat.le_of_ble_eq_true rfl) (Nat.le_of_ble_eq_true rfl) ?_
    refine m_endMove (by omega) ?_
    refine y_vret hK rfl dX6_drop_55 ?_
    exact k _ ((Gx.rf).al a_ρ1 (by first | simp | omega)) (by have hq := q_ρ1; omega)
  · refine r_aload_n hC dX6_drop_41 rfl ?_
    refine r_iload_n hC dX6_drop_42 rfl ?_
    refine r_bipush hC dX6_drop_43 rfl ?_
    refine r_iconst hC dX6_drop_45 rfl ?_
    refine z_inv3 hM dX6_drop_46 vl_RX6_188 rfl rfl rfl (Nat.le_of_ble_eq_true rfl) (Nat.le_of_ble_eq_true rfl) ?_
    refine m_more (by omega) (by omega) (by omega) ?_
    refine r_aload_n hC dX6_drop_49 rfl ?_
    refine r_iload_n hC dX6_drop_50 rfl ?_
    refine r_iconst hC dX6_drop_51 rfl ?_
    refine z_inv2 hM dX6_drop_52 vl_RX6_221 rfl rfl rfl (Nat.le_of_ble_eq_true rfl) (Nat.le_of_ble_eq_true rfl) ?_
    refine m_endMove (by omega) ?_
    refine y_vret hK rfl dX6_drop_55 ?_
    exact k _ ((Gx.rf).al a_ρ1 (by first | simp | omega)) (by have hq := q_ρ1; omega)
theorem m_placeOfL {eb : Bool} {d : Nat} {P : Option Vl → Mm → Prop} {σ : Mm} {l t h : Int} (b_l : 0 ≤ l ∧ l ≤ 7) (b_h : 0 ≤ h ∧ h ≤ 121) (qg0 : σ 31 0 ((22 * l) + 5) = h)  (k : ∀ r : Int, 0 ≤ r ∧ r ≤ h → P (some (vI r)) σ) : WT (true, eb, false) (d + 3) 191 [vR 30 0, vI l, vI t] σ P := by
  refine WT_in fun K hK => ?_
  have hK : StpY (true, eb, false) cX6_placeOf RX6 (some .int) (WT (true, eb, false) (d + 2)) P K := hK
  have hM := hK.1
  have hC := hK.1.1
  show K 0 [some (vR 30 0), some (vI l), some (vI t), none] [] σ
  refine r_rngz hC (fun g0 => ?_)
  have r_t : -2147483648 ≤ t ∧ t ≤ 2147483647 := inR_le (g0 (vI t) (by simp))
  refine r_iconst hC dX6_placeOf_0 rfl ?_
  refine r_istore_n hC dX6_placeOf_1 rfl ?_
  have L2 : ∀ (n2 : Nat) (w1 : Int), 0 ≤ w1 ∧ w1 ≤ 121 → ((w1) ≤ h) → 121 - w1 < (n2 : Int) → K 2 [some (vR 30 0), some (vI l), some (vI t), some (vI w1)] [] σ := by
    intro n2
    induction n2 with
    | zero => intro w1  f_w1 i0_2 hm ; omega
    | succ n2 ih2 =>
      intro w1  f_w1 i0_2 hm2 
      refine r_iload_n hC dX6_placeOf_2 rfl ?_
      refine r_aload_n hC dX6_placeOf_3 rfl ?_
      refine r_iload_n hC dX6_placeOf_4 rfl ?_
      refine z_inv1 hM dX6_placeOf_5 vl_RX6_116 rfl rfl rfl (Nat.le_of_ble_eq_true rfl) (Nat.le_of_ble_eq_true rfl) ?_
      refine m_heldOf (by omega) (fun v2 h_v2 t_v2 => ?_)
      have e_v2 : h = v2 := ((t_v2 rfl).trans qg0).symm
      subst e_v2
      refine r_icmp_ge (tgt := 32) hC dX6_placeOf_8 rfl (fun h3 => ?_) (fun h3 => ?_)
      · refine r_iload_n hC dX6_placeOf_32 rfl ?_
        refine y_iret hK rfl dX6_placeOf_33 ?_
        exact k _ (by omega)
      · refine r_aload_n hC dX6_placeOf_11 rfl ?_
        refine z_getR hM dX6_placeOf_12 fl_RX6_13 rfl rfl (vld_of (n := 1) rfl (by omega) (by omega)) ?_
        refine r_bipush hC dX6_placeOf_15 rfl ?_
        refine r_iload_n hC dX6_placeOf_17 rfl ?_
        refine r_imulE hC ((121 * l)) dX6_placeOf_18 (by omega) (by unfold inR; omega) ?_
        refine r_iload_n hC dX6_placeOf_19 rfl ?_
        refine r_iaddE hC (((121 * l) + w1)) dX6_placeOf_20 (by omega) (by unfold inR; omega) ?_
        refine z_iald hM dX6_placeOf_21 rfl (by omega) (by omega) (fun v4 h_v4 o_v4 t_v4 => ?_)
        refine r_iload_n hC dX6_placeOf_22 rfl ?_
        refine r_icmp_gt (tgt := 32) hC dX6_placeOf_23 rfl (fun h5 => ?_) (fun h5 => ?_)
        · refine r_iload_n hC dX6_placeOf_32 rfl ?_
          refine y_iret hK rfl dX6_placeOf_33 ?_
          exact k _ (by omega)
        · refine r_iincE hC ((w1 + 1)) dX6_placeOf_26 rfl rfl (by omega) (by unfold inR; omega) ?_
          refine r_goto (tgt := 2) hC dX6_placeOf_29 rfl ?_
          exact ih2 ((w1 + 1))  (by omega) (by omega) (by omega) 
  exact L2 123 (0)  (by omega) (by omega) (by omega) 
theorem m_isTooMany {eb : Bool} {d : Nat} {P : Option Vl → Mm → Prop} {σ : Mm} {l h b z : Int} (b_l : 0 ≤ l ∧ l ≤ 7) (b_h : 0 ≤ h ∧ h ≤ 121) (qg0 : σ 31 0 ((22 * l) + 5) = h) (qg1 : σ 31 0 ((22 * l) + 2) = b) (qg2 : σ 31 0 ((22 * l) + 3) = z) (hz : b = 1 → 1 ≤ z)  (k1 : 1 ≤ h → P (some (vI 1)) σ) (k0 : (b = 1 → h ≤ z) → P (some (vI 0)) σ) : WT (true, eb, false) (d + 3) 193 [vR 30 0, vI l] σ P := by
  refine WT_in fun K hK => ?_
  have hK : StpY (true, eb, false) cX6_isTooMany RX6 (some .boolean) (WT (true, eb, false) (d + 2)) P K := hK
  have hM := hK.1
  have hC := hK.1.1
  show K 0 [some (vR 30 0), some (vI l)] [] σ
  refine r_aload_n hC dX6_isTooMany_0 rfl ?_
  refine r_iload_n hC dX6_isTooMany_1 rfl ?_
  refine r_iconst hC dX6_isTooMany_2 rfl ?_
  refine z_inv2 hM dX6_isTooMany_3 vl_RX6_80 rfl rfl rfl (Nat.le_of_ble_eq_true rfl) (Nat.le_of_ble_eq_true rfl) ?_
  refine m_of (by omega) (by omega) (fun v1 h_v1 h5_v1 h0_v1 t_v1 => ?_)
  have e_v1 : b = v1 := ((t_v1 (Or.inr (Or.inl ⟨rfl, by simp only [DL]; omega⟩))).trans qg1).symm
  subst e_v1
  refine r_iconst hC dX6_isTooMany_6 rfl ?_
  refine r_icmp_ne (tgt := 30) hC dX6_isTooMany_7 rfl (fun h2 => ?_) (fun h2 => ?_)
  · refine r_aload_n hC dX6_isTooMany_30 rfl ?_
    refine r_iload_n hC dX6_isTooMany_31 rfl ?_
    refine r_iconst hC dX6_isTooMany_32 rfl ?_
    refine z_inv2 hM dX6_isTooMany_33 vl_RX6_80 rfl rfl rfl (Nat.le_of_ble_eq_true rfl) (Nat.le_of_ble_eq_true rfl) ?_
    refine m_of (by omega) (by omega) (fun v3 h_v3 h5_v3 h0_v3 t_v3 => ?_)
    have e_v3 : b = v3 := ((t_v3 (Or.inr (Or.inl ⟨rfl, by simp only [DL]; omega⟩))).trans qg1).symm
    subst e_v3
    refine r_iconst hC dX6_isTooMany_36 rfl ?_
    refine r_icmp_ne (tgt := 78) hC dX6_isTooMany_37 rfl (fun h4 => ?_) (fun h4 => ?_)
    · refine r_iconst hC dX6_isTooMany_78 rfl ?_
      refine y_zret hK rfl dX6_isTooMany_79 (by omega) ?_
      exact k0 (by omega)
    · refine r_aload_n hC dX6_isTooMany_40 rfl ?_
      refine r_iload_n hC dX6_isTooMany_41 rfl ?_
      refine z_inv1 hM dX6_isTooMany_42 vl_RX6_116 rfl rfl rfl (Nat.le_of_ble_eq_true rfl) (Nat.le_of_ble_eq_true rfl) ?_
      refine m_heldOf (by omega) (fun v5 h_v5 t_v5 => ?_)
      have e_v5 : h = v5 := ((t_v5 rfl).trans qg0).symm
      subst e_v5
      refine r_if_le (tgt := 78) hC dX6_isTooMany_45 rfl (fun h6 => ?_) (fun h6 => ?_)
      · refine r_iconst hC dX6_isTooMany_78 rfl ?_
        refine y_zret hK rfl dX6_isTooMany_79 (by omega) ?_
        exact k0 (by omega)
      · refine r_aload_n hC dX6_isTooMany_48 rfl ?_
        refine z_getR hM dX6_isTooMany_49 fl_RX6_13 rfl rfl (vld_of (n := 1) rfl (by omega) (by omega)) ?_
        refine r_bipush hC dX6_isTooMany_52 rfl ?_
        refine r_iload_n hC dX6_isTooMany_54 rfl ?_
        refine r_imulE hC ((121 * l)) dX6_isTooMany_55 (by omega) (by unfold inR; omega) ?_
        refine z_iald hM dX6_isTooMany_56 rfl (by omega) (by omega) (fun v7 h_v7 o_v7 t_v7 => ?_)
        refine r_aload_n hC dX6_isTooMany_57 rfl ?_
        refine r_iload_n hC dX6_isTooMany_58 rfl ?_
        refine r_bipush hC dX6_isTooMany_59 rfl ?_
        refine z_inv2 hM dX6_isTooMany_61 vl_RX6_80 rfl rfl rfl (Nat.le_of_ble_eq_true rfl) (Nat.le_of_ble_eq_true rfl) ?_
        refine m_of (by omega) (by omega) (fun v8 h_v8 h5_v8 h0_v8 t_v8 => ?_)
        refine r_aload_n hC dX6_isTooMany_64 rfl ?_
        refine r_iload_n hC dX6_isTooMany_65 rfl ?_
        refine r_iconst hC dX6_isTooMany_66 rfl ?_
        refine z_inv2 hM dX6_isTooMany_67 vl_RX6_80 rfl rfl rfl (Nat.le_of_ble_eq_true rfl) (Nat.le_of_ble_eq_true rfl) ?_
        refine m_of (by omega) (by omega) (fun v9 h_v9 h5_v9 h0_v9 t_v9 => ?_)
        have e_v9 : z = v9 := ((t_v9 (Or.inr (Or.inl ⟨rfl, by simp only [DL]; omega⟩))).trans qg2).symm
        subst e_v9
        refine r_isubG hC dX6_isTooMany_70 (fun v10 h_v10 => ?_)
        refine r_icmp_gt (tgt := 78) hC dX6_isTooMany_71 rfl (fun h11 => ?_) (fun h11 => ?_)
        · refine r_iconst hC dX6_isTooMany_78 rfl ?_
          refine y_zret hK rfl dX6_isTooMany_79 (by omega) ?_
          exact k0 (by omega)
        · refine r_iconst hC dX6_isTooMany_74 rfl ?_
          refine r_goto (tgt := 79) hC dX6_isTooMany_75 rfl ?_
          refine y_zret hK rfl dX6_isTooMany_79 (by omega) ?_
          exact k1 (by omega)
  · refine r_aload_n hC dX6_isTooMany_10 rfl ?_
    refine r_iload_n hC dX6_isTooMany_11 rfl ?_
    refine z_inv1 hM dX6_isTooMany_12 vl_RX6_116 rfl rfl rfl (Nat.le_of_ble_eq_true rfl) (Nat.le_of_ble_eq_true rfl) ?_
    refine m_heldOf (by omega) (fun v12 h_v12 t_v12 => ?_)
    have e_v12 : h = v12 := ((t_v12 rfl).trans qg0).symm
    subst e_v12
    refine r_aload_n hC dX6_isTooMany_15 rfl ?_
    refine r_iload_n hC dX6_isTooMany_16 rfl ?_
    refine r_iconst hC dX6_isTooMany_17 rfl ?_
    refine z_inv2 hM dX6_isTooMany_18 vl_RX6_80 rfl rfl rfl (Nat.le_of_ble_eq_true rfl) (Nat.le_of_ble_eq_true rfl) ?_
    refine m_of (by omega) (by omega) (fun v13 h_v13 h5_v13 h0_v13 t_v13 => ?_)
    have e_v13 : z = v13 := ((t_v13 (Or.inr (Or.inl ⟨rfl, by simp only [DL]; omega⟩))).trans qg2).symm
    subst e_v13
    refine r_icmp_le (tgt := 28) hC dX6_isTooMany_21 rfl (fun h14 => ?_) (fun h14 => ?_)
    · refine r_iconst hC dX6_isTooMany_28 rfl ?_
      refine y_zret hK rfl dX6_isTooMany_29 (by omega) ?_
      exact k0 (by omega)
    · refine r_iconst hC dX6_isTooMany_24 rfl ?_
      refine r_goto (tgt := 29) hC dX6_isTooMany_25 rfl ?_
      refine y_zret hK rfl dX6_isTooMany_29 (by omega) ?_
      exact k1 (by omega)
theorem m_enter {eb : Bool} {d : Nat} {P : Option Vl → Mm → Prop} {σ : Mm} {l t v h b z : Int} (b_l : 0 ≤ l ∧ l ≤ 7) (b_h : 0 ≤ h ∧ h ≤ 120) (qg0 : σ 31 0 ((22 * l) + 5) = h) (qg1 : σ 31 0 ((22 * l) + 2) = b) (qg2 : σ 31 0 ((22 * l) + 3) = z) (hr : Rst b z h) (hn : b ≠ 1 → h ≤ 119) (hz : b = 1 → 1 ≤ z)  (k : ∀ ρ : Mm, Al1 σ ρ 31 0 (22 * l + 5) → Rst b z (ρ 31 0 (22 * l + 5)) → ρ 31 0 (22 * l + 5) ≤ h + 1 → P none ρ) : WT (true, eb, false) (d + 9) 194 [vR 30 0, vI l, vI t, vI v] σ P := by
  refine WT_in fun K hK => ?_
  have hK : StpY (true, eb, false) cX6_enter RX6 (none) (WT (true, eb, false) (d + 8)) P K := hK
  have hM := hK.1
  have hC := hK.1.1
  show K 0 [some (vR 30 0), some (vI l), some (vI t), some (vI v), none, none, none] [] σ
  refine r_rngz hC (fun g0 => ?_)
  have r_t : -2147483648 ≤ t ∧ t ≤ 2147483647 := inR_le (g0 (vI t) (by simp))
  have r_v : -2147483648 ≤ v ∧ v ≤ 2147483647 := inR_le (g0 (vI v) (by simp))
  refine r_aload_n hC dX6_enter_0 rfl ?_
  refine r_iload_n hC dX6_enter_1 rfl ?_
  refine r_iload_n hC dX6_enter_2 rfl ?_
  refine z_inv2 hM dX6_enter_3 vl_RX6_224 rfl rfl rfl (Nat.le_of_ble_eq_true rfl) (Nat.le_of_ble_eq_true rfl) ?_
  refine m_placeOfL (h := h) (by omega) (by omega) (by have hq := qg0; omega) (fun v1 h_v1 => ?_)
  refine r_istore hC dX6_enter_6 rfl ?_
  refine r_aload_n hC dX6_enter_8 rfl ?_
  refine r_iload_n hC dX6_enter_9 rfl ?_
  refine z_inv1 hM dX6_enter_10 vl_RX6_116 rfl rfl rfl (Nat.le_of_ble_eq_true rfl) (Nat.le_of_ble_eq_true rfl) ?_
  refine m_heldOf (by omega) (fun v2 h_v2 t_v2 => ?_)
  have e_v2 : h = v2 := ((t_v2 rfl).trans qg0).symm
  subst e_v2
  refine r_iload hC dX6_enter_13 rfl ?_
  refine r_isubE hC ((h - v1)) dX6_enter_15 (by omega) (by unfold inR; omega) ?_
  refine r_istore hC dX6_enter_16 rfl ?_
  refine r_aload_n hC dX6_enter_18 rfl ?_
  refine r_iload_n hC dX6_enter_19 rfl ?_
  refine r_iload hC dX6_enter_20 rfl ?_
  refine r_iconst hC dX6_enter_22 rfl ?_
  refine z_inv3 hM dX6_enter_23 vl_RX6_217 rfl rfl rfl (Nat.le_of_ble_eq_true rfl) (Nat.le_of_ble_eq_true rfl) ?_
  refine m_shift (h := h) (by omega) (by omega) (by omega) (by omega) (by have hq := qg0; omega) (by omega) ?_
  refine r_aload_n hC dX6_enter_26 rfl ?_
  refine z_getR hM dX6_enter_27 fl_RX6_13 rfl rfl (vld_of (n := 1) rfl (by omega) (by omega)) ?_
  refine r_bipush hC dX6_enter_30 rfl ?_
  refine r_iload_n hC dX6_enter_32 rfl ?_
  refine r_imulE hC ((121 * l)) dX6_enter_33 (by omega) (by unfold inR; omega) ?_
  refine r_iload hC dX6_enter_34 rfl ?_
  refine r_iaddE hC (((121 * l) + v1)) dX6_enter_36 (by omega) (by unfold inR; omega) ?_
  refine r_iload_n hC dX6_enter_37 rfl ?_
  refine z_iastU hM dX6_enter_38 rfl (by omega) (by omega) (by simp [Un, Tb, DL, DF, DR]) (by simp [Okv]) ?_
  refine r_aload_n hC dX6_enter_39 rfl ?_
  refine z_getR hM dX6_enter_40 fl_RX6_16 rfl rfl (vld_of (n := 1) rfl (by omega) (by omega)) ?_
  refine r_bipush hC dX6_enter_43 rfl ?_
  refine r_iload_n hC dX6_enter_45 rfl ?_
  refine r_imulE hC ((121 * l)) dX6_enter_46 (by omega) (by unfold inR; omega) ?_
  refine r_iload hC dX6_enter_47 rfl ?_
  refine r_iaddE hC (((121 * l) + v1)) dX6_enter_49 (by omega) (by unfold inR; omega) ?_
  refine r_iload_n hC dX6_enter_50 rfl ?_
  refine z_iastU hM dX6_enter_51 rfl (by omega) (by omega) (by simp [Un, Tb, DL, DF, DR]) (by simp [Okv]) ?_
  refine r_aload_n hC dX6_enter_52 rfl ?_
  refine z_getR hM dX6_enter_53 fl_RX6_19 rfl rfl (vld_of (n := 1) rfl (by omega) (by omega)) ?_
  refine r_bipush hC dX6_enter_56 rfl ?_
  refine r_iload_n hC dX6_enter_58 rfl ?_
  refine r_imulE hC ((121 * l)) dX6_enter_59 (by omega) (by unfold inR; omega) ?_
  refine r_iload hC dX6_enter_60 rfl ?_
  refine r_iaddE hC (((121 * l) + v1)) dX6_enter_62 (by omega) (by unfold inR; omega) ?_
  refine r_aload_n hC dX6_enter_63 rfl ?_
  refine r_iload_n hC dX6_enter_64 rfl ?_
  refine r_bipush hC dX6_enter_65 rfl ?_
  refine z_inv2 hM dX6_enter_67 vl_RX6_80 rfl rfl rfl (Nat.le_of_ble_eq_true rfl) (Nat.le_of_ble_eq_true rfl) ?_
  refine m_of (by omega) (by omega) (fun v3 h_v3 h5_v3 h0_v3 t_v3 => ?_)
  refine z_iastU hM dX6_enter_70 rfl (by omega) (by omega) (by simp [Un, Tb, DL, DF, DR]) (by simp [Okv]) ?_
  refine r_aload_n hC dX6_enter_71 rfl ?_
  refine r_iload_n hC dX6_enter_72 rfl ?_
  refine r_iconst hC dX6_enter_73 rfl ?_
  refine r_iconst hC dX6_enter_74 rfl ?_
  refine z_inv3 hM dX6_enter_75 vl_RX6_188 rfl rfl rfl (Nat.le_of_ble_eq_true rfl) (Nat.le_of_ble_eq_true rfl) ?_
  refine m_moreT (h := h) (by omega) (by omega) (by omega) (by have hq := qg0; omega) (by omega) (fun ρ4 a_ρ4 q_ρ4 => ?_)
  refine r_aload_n hC dX6_enter_78 rfl ?_
  refine r_iload_n hC dX6_enter_79 rfl ?_
  refine r_bipush hC dX6_enter_80 rfl ?_
  refine r_iconst hC dX6_enter_82 rfl ?_
  refine z_inv3 hM dX6_enter_83 vl_RX6_188 rfl rfl rfl (Nat.le_of_ble_eq_true rfl) (Nat.le_of_ble_eq_true rfl) ?_
  refine m_more (by omega) (by omega) (by omega) ?_
  refine r_aload_n hC dX6_enter_86 rfl ?_
  refine r_iload_n hC dX6_enter_87 rfl ?_
  refine r_bipush hC dX6_enter_88 rfl ?_
  refine r_iload hC dX6_enter_90 rfl ?_
  refine z_inv3 hM dX6_enter_92 vl_RX6_173 rfl rfl rfl (Nat.le_of_ble_eq_true rfl) (Nat.le_of_ble_eq_true rfl) ?_
  refine m_set (by omega) (by omega) (by omega) ?_
  refine r_iload_n hC dX6_enter_95 rfl ?_
  refine r_aload_n hC dX6_enter_96 rfl ?_
  refine r_iload_n hC dX6_enter_97 rfl ?_
  refine r_bipush hC dX6_enter_98 rfl ?_
  refine z_inv2 hM dX6_enter_100 vl_RX6_80 rfl rfl rfl (Nat.le_of_ble_eq_true rfl) (Nat.le_of_ble_eq_true rfl) ?_
  refine m_of (by omega) (by omega) (fun v5 h_v5 h5_v5 h0_v5 t_v5 => ?_)
  have J114_6 : ∀ (ρ8 : Mm), Gx (fun c x y => c = 31 ∧ x = 0 ∧ y = 22 * l + 5) σ ρ8 → ρ8 31 0 ((22 * l) + 5) = (h + 1) → ρ8 31 0 ((22 * l) + 2) = b → ρ8 31 0 ((22 * l) + 3) = z → K 114 [some (vR 30 0), some (vI l), some (vI t), some (vI v), some (vI v1), some (vI (h - v1)), none] [] ρ8 := by
    intro  ρ8  g_ρ8 q0_ρ8 q1_ρ8 q2_ρ8
    refine r_iload hC dX6_enter_114 rfl ?_
    refine r_if_ne (tgt := 154) hC dX6_enter_116 rfl (fun h9 => ?_) (fun h9 => ?_)
    · refine r_aload_n hC dX6_enter_154 rfl ?_
      refine r_iload_n hC dX6_enter_155 rfl ?_
      refine z_inv1 hM dX6_enter_156 vl_RX6_227 rfl rfl rfl (Nat.le_of_ble_eq_true rfl) (Nat.le_of_ble_eq_true rfl) ?_
      refine m_layAnew (by omega) ?_
      have L159 : ∀ (n159 : Nat) (w10 : Int) (ρ11 : Mm), 0 ≤ w10 ∧ w10 ≤ 121 → ((w10) ≤ h + 1) → (b ≠ 1 → (w10) ≤ 120) → w10 < (n159 : Int) → Gx (fun c x y => c = 31 ∧ x = 0 ∧ y = 22 * l + 5) σ ρ11 → ρ11 31 0 ((22 * l) + 5) = w10 → ρ11 31 0 ((22 * l) + 2) = b → ρ11 31 0 ((22 * l) + 3) = z → K 159 [some (vR 30 0), some (vI l), some (vI t), some (vI v), some (vI v1), some (vI (h - v1)), none] [] ρ11 := by
        intro n159
        induction n159 with
        | zero => intro w10 ρ11 f_w10 i0_159 i1_159 hm g_ρ11 q0_ρ11 q1_ρ11 q2_ρ11; omega
        | succ n159 ih159 =>
          intro w10 ρ11 f_w10 i0_159 i1_159 hm159 g_ρ11 q0_ρ11 q1_ρ11 q2_ρ11
          refine r_aload_n hC dX6_enter_159 rfl ?_
          refine r_iload_n hC dX6_enter_160 rfl ?_
          refine z_inv1 hM dX6_enter_161 vl_RX6_230 rfl rfl rfl (Nat.le_of_ble_eq_true rfl) (Nat.le_of_ble_eq_true rfl) ?_
          refine m_isTooMany (h := w10) (b := b) (z := z) (by omega) (by omega) (by have hq := q0_ρ11; omega) (by have hq := q1_ρ11; omega) (by have hq := q2_ρ11; omega) (by omega) (fun h12 => ?_) (fun h12 => ?_)
          · refine r_if_eq (tgt := 175) hC dX6_enter_164 rfl (fun h13 => by omega) (fun h13 => ?_)
            refine r_aload_n hC dX6_enter_167 rfl ?_
            refine r_iload_n hC dX6_enter_168 rfl ?_
            refine z_inv1 hM dX6_enter_169 vl_RX6_233 rfl rfl rfl (Nat.le_of_ble_eq_true rfl) (Nat.le_of_ble_eq_true rfl) ?_
            refine m_drop (h := w10) (by omega) (by omega) (by have hq := q0_ρ11; omega) (fun ρ14 a_ρ14 q_ρ14 => ?_)
            refine r_goto (tgt := 159) hC dX6_enter_172 rfl ?_
            exact ih159 ((w10 - 1)) ρ14 (by omega) (by omega) (by omega) (by omega) ((g_ρ11).al a_ρ14 (by first | simp | omega)) (by have hq := q_ρ14; omega) (by have hq := ((a_ρ14 _ _ _ (by omega)).trans q1_ρ11); omega) (by have hq := ((a_ρ14 _ _ _ (by omega)).trans q2_ρ11); omega)
          · refine r_if_eq (tgt := 175) hC dX6_enter_164 rfl (fun h15 => ?_) (fun h15 => by omega)
            refine y_vret hK rfl dX6_enter_175 ?_
            exact k _ (g_ρ11) (by have hq := q0_ρ11; have hb := q1_ρ11; have hz := q2_ρ11; have hr2 := hr; unfold Rst at hr2 ⊢; omega) (by have hq := q0_ρ11; omega)
      exact L159 123 ((h + 1)) ρ8 (by omega) (by omega) (by omega) (by omega) (g_ρ8) (by have hq := q0_ρ8; omega) (by have hq := q1_ρ8; omega) (by have hq := q2_ρ8; omega)
    · refine r_aload_n hC dX6_enter_119 rfl ?_
      refine r_iload_n hC dX6_enter_120 rfl ?_
      refine r_bipush hC dX6_enter_121 rfl ?_
      refine z_inv2 hM dX6_enter_123 vl_RX6_80 rfl rfl rfl (Nat.le_of_ble_eq_true rfl) (Nat.le_of_ble_eq_true rfl) ?_
      refine m_of (by omega) (by omega) (fun v16 h_v16 h5_v16 h0_v16 t_v16 => ?_)
      have J134_18 : ∀ (w18 : Int), ∀ (ρ20 : Mm), 0 ≤ w18 ∧ w18 ≤ 1 → Gx (fun c x y => c = 31 ∧ x = 0 ∧ y = 22 * l + 5) σ ρ20 → ρ20 31 0 ((22 * l) + 5) = (h + 1) → ρ20 31 0 ((22 * l) + 2) = b → ρ20 31 0 ((22 * l) + 3) = z → K 134 [some (vR 30 0), some (vI l), some (vI t), some (vI v), some (vI v1), some (vI (h - v1)), none] [vI w18] ρ20 := by
        intro w18 ρ20 f_w18 g_ρ20 q0_ρ20 q1_ρ20 q2_ρ20
        refine r_istore hC dX6_enter_134 rfl ?_
        refine r_aload_n hC dX6_enter_136 rfl ?_
        refine r_iload_n hC dX6_enter_137 rfl ?_
        refine r_bipush hC dX6_enter_138 rfl ?_
        refine r_iconst hC dX6_enter_140 rfl ?_
        refine z_inv3 hM dX6_enter_141 vl_RX6_188 rfl rfl rfl (Nat.le_of_ble_eq_true rfl) (Nat.le_of_ble_eq_true rfl) ?_
        refine m_more (by omega) (by omega) (by omega) ?_
        refine r_aload_n hC dX6_enter_144 rfl ?_
        refine r_iload_n hC dX6_enter_145 rfl ?_
        refine r_iload hC dX6_enter_146 rfl ?_
        refine z_inv2 hM dX6_enter_148 vl_RX6_221 rfl rfl rfl (Nat.le_of_ble_eq_true rfl) (Nat.le_of_ble_eq_true rfl) ?_
        refine m_endMove (by omega) ?_
        refine r_goto (tgt := 159) hC dX6_enter_151 rfl ?_
        have L159 : ∀ (n159 : Nat) (w21 : Int) (ρ22 : Mm), 0 ≤ w21 ∧ w21 ≤ 121 → ((w21) ≤ h + 1) → (b ≠ 1 → (w21) ≤ 120) → w21 < (n159 : Int) → Gx (fun c x y => c = 31 ∧ x = 0 ∧ y = 22 * l + 5) σ ρ22 → ρ22 31 0 ((22 * l) + 5) = w21 → ρ22 31 0 ((22 * l) + 2) = b → ρ22 31 0 ((22 * l) + 3) = z → K 159 [some (vR 30 0), some (vI l), some (vI t), some (vI v), some (vI v1), some (vI (h - v1)), some (vI w18)] [] ρ22 := by
          intro n159
          induction n159 with
          | zero => intro w21 ρ22 f_w21 i0_159 i1_159 hm g_ρ22 q0_ρ22 q1_ρ22 q2_ρ22; omega
          | succ n159 ih159 =>
            intro w21 ρ22 f_w21 i0_159 i1_159 hm159 g_ρ22 q0_ρ22 q1_ρ22 q2_ρ22
            refine r_aload_n hC dX6_enter_159 rfl ?_
            refine r_iload_n hC dX6_enter_160 rfl ?_
            refine z_inv1 hM dX6_enter_161 vl_RX6_230 rfl rfl rfl (Nat.le_of_ble_eq_true rfl) (Nat.le_of_ble_eq_true rfl) ?_
            refine m_isTooMany (h := w21) (b := b) (z := z) (by omega) (by omega) (by have hq := q0_ρ22; omega) (by have hq := q1_ρ22; omega) (by have hq := q2_ρ22; omega) (by omega) (fun h23 => ?_) (fun h23 => ?_)
            · refine r_if_eq (tgt := 175) hC dX6_enter_164 rfl (fun h24 => by omega) (fun h24 => ?_)
              refine r_aload_n hC dX6_enter_167 rfl ?_
              refine r_iload_n hC dX6_enter_168 rfl ?_
              refine z_inv1 hM dX6_enter_169 vl_RX6_233 rfl rfl rfl (Nat.le_of_ble_eq_true rfl) (Nat.le_of_ble_eq_true rfl) ?_
              refine m_drop (h := w21) (by omega) (by omega) (by have hq := q0_ρ22; omega) (fun ρ25 a_ρ25 q_ρ25 => ?_)
              refine r_goto (tgt := 159) hC dX6_enter_172 rfl ?_
              exact ih159 ((w21 - 1)) ρ25 (by omega) (by omega) (by omega) (by omega) ((g_ρ22).al a_ρ25 (by first | simp | omega)) (by have hq := q_ρ25; omega) (by have hq := ((a_ρ25 _ _ _ (by omega)).trans q1_ρ22); omega) (by have hq := ((a_ρ25 _ _ _ (by omega)).trans q2_ρ22); omega)
            · refine r_if_eq (tgt := 175) hC dX6_enter_164 rfl (fun h26 => ?_) (fun h26 => by omega)
              refine y_vret hK rfl dX6_enter_175 ?_
              exact k _ (g_ρ22) (by have hq := q0_ρ22; have hb := q1_ρ22; have hz := q2_ρ22; have hr2 := hr; unfold Rst at hr2 ⊢; omega) (by have hq := q0_ρ22; omega)
        exact L159 123 ((h + 1)) ρ20 (by omega) (by omega) (by omega) (by omega) (g_ρ20) (by have hq := q0_ρ20; omega) (by have hq := q1_ρ20; omega) (by have hq := q2_ρ20; omega)
      refine r_if_le (tgt := 133) hC dX6_enter_126 rfl (fun h17 => ?_) (fun h17 => ?_)
      · refine r_iconst hC dX6_enter_133 rfl ?_
        exact J134_18 (0) ρ8 (by omega) (g_ρ8) (by have hq := q0_ρ8; omega) (by have hq := q1_ρ8; omega) (by have hq := q2_ρ8; omega)
      · refine r_iconst hC dX6_enter_129 rfl ?_
        refine r_goto (tgt := 134) hC dX6_enter_130 rfl ?_
        exact J134_18 (1) ρ8 (by omega) (g_ρ8) (by have hq := q0_ρ8; omega) (by have hq := q1_ρ8; omega) (by have hq := q2_ρ8; omega)
  refine r_icmp_le (tgt := 114) hC dX6_enter_103 rfl (fun h6 => ?_) (fun h6 => ?_)
  · exact J114_6  ρ4  ((Gx.rf).al a_ρ4 (by first | simp | omega)) (by have hq := q_ρ4; omega) (by have hq := ((a_ρ4 _ _ _ (by omega)).trans qg1); omega) (by have hq := ((a_ρ4 _ _ _ (by omega)).trans qg2); omega)
  · refine r_aload_n hC dX6_enter_106 rfl ?_
    refine r_iload_n hC dX6_enter_107 rfl ?_
    refine r_bipush hC dX6_enter_108 rfl ?_
    refine r_iload_n hC dX6_enter_110 rfl ?_
    refine z_inv3 hM dX6_enter_111 vl_RX6_173 rfl rfl rfl (Nat.le_of_ble_eq_true rfl) (Nat.le_of_ble_eq_true rfl) ?_
    refine m_set (by omega) (by omega) (by omega) ?_
    exact J114_6  ρ4  ((Gx.rf).al a_ρ4 (by first | simp | omega)) (by have hq := q_ρ4; omega) (by have hq := ((a_ρ4 _ _ _ (by omega)).trans qg1); omega) (by have hq := ((a_ρ4 _ _ _ (by omega)).trans qg2); omega)
theorem m_seeMost {ea eb : Bool} {d : Nat} {P : Option Vl → Mm → Prop} {σ : Mm} {l : Int} (b_l : 0 ≤ l ∧ l ≤ 7)  (k : P none σ) : WT (ea, eb, false) (d + 3) 195 [vR 30 0, vI l] σ P := by
  refine WT_in fun K hK => ?_
  have hK : StpY (ea, eb, false) cX6_seeMost RX6 (none) (WT (ea, eb, false) (d + 2)) P K := hK
  have hM := hK.1
  have hC := hK.1.1
  show K 0 [some (vR 30 0), some (vI l)] [] σ
  refine r_aload_n hC dX6_seeMost_0 rfl ?_
  refine r_iload_n hC dX6_seeMost_1 rfl ?_
  refine z_inv1 hM dX6_seeMost_2 vl_RX6_116 rfl rfl rfl (Nat.le_of_ble_eq_true rfl) (Nat.le_of_ble_eq_true rfl) ?_
  refine m_heldOf (by omega) (fun v1 h_v1 t_v1 => ?_)
  refine r_aload_n hC dX6_seeMost_5 rfl ?_
  refine r_iload_n hC dX6_seeMost_6 rfl ?_
  refine r_bipush hC dX6_seeMost_7 rfl ?_
  refine z_inv2 hM dX6_seeMost_9 vl_RX6_80 rfl rfl rfl (Nat.le_of_ble_eq_true rfl) (Nat.le_of_ble_eq_true rfl) ?_
  refine m_of (by omega) (by omega) (fun v2 h_v2 h5_v2 h0_v2 t_v2 => ?_)
  have J27_3 : K 27 [some (vR 30 0), some (vI l)] [] σ := by
    refine y_vret hK rfl dX6_seeMost_27 ?_
    exact k
  refine r_icmp_le (tgt := 27) hC dX6_seeMost_12 rfl (fun h3 => ?_) (fun h3 => ?_)
  · exact J27_3
  · refine r_aload_n hC dX6_seeMost_15 rfl ?_
    refine r_iload_n hC dX6_seeMost_16 rfl ?_
    refine r_bipush hC dX6_seeMost_17 rfl ?_
    refine r_aload_n hC dX6_seeMost_19 rfl ?_
    refine r_iload_n hC dX6_seeMost_20 rfl ?_
    refine z_inv1 hM dX6_seeMost_21 vl_RX6_116 rfl rfl rfl (Nat.le_of_ble_eq_true rfl) (Nat.le_of_ble_eq_true rfl) ?_
    refine m_heldOf (by omega) (fun v5 h_v5 t_v5 => ?_)
    refine z_inv3 hM dX6_seeMost_24 vl_RX6_173 rfl rfl rfl (Nat.le_of_ble_eq_true rfl) (Nat.le_of_ble_eq_true rfl) ?_
    refine m_set (by omega) (by omega) (by omega) ?_
    exact J27_3    
theorem m_behindCall {ea eb : Bool} {d : Nat} {P : Option Vl → Mm → Prop} {σ : Mm} {l : Int} (b_l : 0 ≤ l ∧ l ≤ 3)  (k : ∀ r : Int, 0 ≤ r ∧ r ≤ 121 → P (some (vI r)) σ) : WT (ea, eb, false) (d + 4) 196 [vR 30 0, vI l] σ P := by
  refine WT_in fun K hK => ?_
  have hK : StpY (ea, eb, false) cX6_behindCall RX6 (some .int) (WT (ea, eb, false) (d + 3)) P K := hK
  have hM := hK.1
  have hC := hK.1.1
  show K 0 [some (vR 30 0), some (vI l)] [] σ
  refine r_aload_n hC dX6_behindCall_0 rfl ?_
  refine r_iload_n hC dX6_behindCall_1 rfl ?_
  refine z_inv1 hM dX6_behindCall_2 vl_RX6_236 rfl rfl rfl (Nat.le_of_ble_eq_true rfl) (Nat.le_of_ble_eq_true rfl) ?_
  refine m_seeMost (by omega) ?_
  refine r_aload_n hC dX6_behindCall_5 rfl ?_
  refine z_getR hM dX6_behindCall_6 fl_RX6_52 rfl rfl (vld_of (n := 1) rfl (by omega) (by omega)) ?_
  refine r_iload_n hC dX6_behindCall_9 rfl ?_
  refine z_iald hM dX6_behindCall_10 rfl (by omega) (by omega) (fun v1 h_v1 o_v1 t_v1 => ?_)
  have w_v1 := t_v1 (Or.inl trivial)
  subst w_v1
  have q_v1 : -1 ≤ (σ 45 0 l) ∧ (σ 45 0 l) ≤ 3 := o_v1
  have J24_2 : K 24 [some (vR 30 0), some (vI l)] [] σ := by
    refine r_aload_n hC dX6_behindCall_24 rfl ?_
    refine r_iload_n hC dX6_behindCall_25 rfl ?_
    refine z_inv1 hM dX6_behindCall_26 vl_RX6_116 rfl rfl rfl (Nat.le_of_ble_eq_true rfl) (Nat.le_of_ble_eq_true rfl) ?_
    refine m_heldOf (by omega) (fun v4 h_v4 t_v4 => ?_)
    refine y_iret hK rfl dX6_behindCall_29 ?_
    exact k _ (by omega)
  refine r_if_lt (tgt := 24) hC dX6_behindCall_11 rfl (fun h2 => ?_) (fun h2 => ?_)
  · exact J24_2
  · refine r_aload_n hC dX6_behindCall_14 rfl ?_
    refine r_aload_n hC dX6_behindCall_15 rfl ?_
    refine z_getR hM dX6_behindCall_16 fl_RX6_52 rfl rfl (vld_of (n := 1) rfl (by omega) (by omega)) ?_
    refine r_iload_n hC dX6_behindCall_19 rfl ?_
    refine z_iald hM dX6_behindCall_20 rfl (by omega) (by omega) (fun v5 h_v5 o_v5 t_v5 => ?_)
    have w_v5 := t_v5 (Or.inl trivial)
    subst w_v5
    have q_v5 : -1 ≤ (σ 45 0 l) ∧ (σ 45 0 l) ≤ 3 := o_v5
    refine z_inv1 hM dX6_behindCall_21 vl_RX6_236 rfl rfl rfl (Nat.le_of_ble_eq_true rfl) (Nat.le_of_ble_eq_true rfl) ?_
    refine m_seeMost (by omega) ?_
    exact J24_2    
theorem m_isLost {ea eb : Bool} {d : Nat} {P : Option Vl → Mm → Prop} {σ : Mm} {l t : Int} (b_l : 0 ≤ l ∧ l ≤ 7)  (k : ∀ r : Int, 0 ≤ r ∧ r ≤ 1 → P (some (vI r)) σ) : WT (ea, eb, false) (d + 2) 202 [vR 30 0, vI l, vI t] σ P := by
  refine WT_in fun K hK => ?_
  have hK : StpY (ea, eb, false) cX6_isLost RX6 (some .boolean) (WT (ea, eb, false) (d + 1)) P K := hK
  have hM := hK.1
  have hC := hK.1.1
  show K 0 [some (vR 30 0), some (vI l), some (vI t)] [] σ
  refine r_rngz hC (fun g0 => ?_)
  have r_t : -2147483648 ≤ t ∧ t ≤ 2147483647 := inR_le (g0 (vI t) (by simp))
  refine r_aload_n hC dX6_isLost_0 rfl ?_
  refine r_iload_n hC dX6_isLost_1 rfl ?_
  refine r_bipush hC dX6_isLost_2 rfl ?_
  refine z_inv2 hM dX6_isLost_4 vl_RX6_80 rfl rfl rfl (Nat.le_of_ble_eq_true rfl) (Nat.le_of_ble_eq_true rfl) ?_
  refine m_of (by omega) (by omega) (fun v1 h_v1 h5_v1 h0_v1 t_v1 => ?_)
  have J33_3 : ∀ (w3 : Int), 0 ≤ w3 ∧ w3 ≤ 1 → K 33 [some (vR 30 0), some (vI l), some (vI t)] [vI w3] σ := by
    intro w3  f_w3 
    refine y_zret hK rfl dX6_isLost_33 (by omega) ?_
    exact k _ (by omega)
  refine r_if_lt (tgt := 32) hC dX6_isLost_7 rfl (fun h2 => ?_) (fun h2 => ?_)
  · refine r_iconst hC dX6_isLost_32 rfl ?_
    exact J33_3 (0)  (by omega) 
  · refine r_iload_n hC dX6_isLost_10 rfl ?_
    refine r_aload_n hC dX6_isLost_11 rfl ?_
    refine r_iload_n hC dX6_isLost_12 rfl ?_
    refine r_bipush hC dX6_isLost_13 rfl ?_
    refine z_inv2 hM dX6_isLost_15 vl_RX6_80 rfl rfl rfl (Nat.le_of_ble_eq_true rfl) (Nat.le_of_ble_eq_true rfl) ?_
    refine m_of (by omega) (by omega) (fun v5 h_v5 h5_v5 h0_v5 t_v5 => ?_)
    refine r_aload_n hC dX6_isLost_18 rfl ?_
    refine r_iload_n hC dX6_isLost_19 rfl ?_
    refine r_iconst hC dX6_isLost_20 rfl ?_
    refine z_inv2 hM dX6_isLost_21 vl_RX6_80 rfl rfl rfl (Nat.le_of_ble_eq_true rfl) (Nat.le_of_ble_eq_true rfl) ?_
    refine m_of (by omega) (by omega) (fun v6 h_v6 h5_v6 h0_v6 t_v6 => ?_)
    refine r_isubG hC dX6_isLost_24 (fun v7 h_v7 => ?_)
    refine r_icmp_ge (tgt := 32) hC dX6_isLost_25 rfl (fun h8 => ?_) (fun h8 => ?_)
    · refine r_iconst hC dX6_isLost_32 rfl ?_
      exact J33_3 (0)  (by omega) 
    · refine r_iconst hC dX6_isLost_28 rfl ?_
      refine r_goto (tgt := 33) hC dX6_isLost_29 rfl ?_
      exact J33_3 (1)  (by omega) 
theorem m_isFullL {eb : Bool} {d : Nat} {P : Option Vl → Mm → Prop} {σ : Mm} {l h b : Int} (b_l : 0 ≤ l ∧ l ≤ 7) (b_h : 0 ≤ h ∧ h ≤ 120) (qg0 : σ 31 0 ((22 * l) + 5) = h) (qg1 : σ 31 0 ((22 * l) + 2) = b)  (k1 : P (some (vI 1)) σ) (k0 : (b ≠ 1 → h ≤ 119) → P (some (vI 0)) σ) : WT (true, eb, false) (d + 3) 203 [vR 30 0, vI l] σ P := by
  refine WT_in fun K hK => ?_
  have hK : StpY (true, eb, false) cX6_isFull RX6 (some .boolean) (WT (true, eb, false) (d + 2)) P K := hK
  have hM := hK.1
  have hC := hK.1.1
  show K 0 [some (vR 30 0), some (vI l)] [] σ
  refine r_aload_n hC dX6_isFull_0 rfl ?_
  refine r_iload_n hC dX6_isFull_1 rfl ?_
  refine r_iconst hC dX6_isFull_2 rfl ?_
  refine z_inv2 hM dX6_isFull_3 vl_RX6_80 rfl rfl rfl (Nat.le_of_ble_eq_true rfl) (Nat.le_of_ble_eq_true rfl) ?_
  refine m_of (by omega) (by omega) (fun v1 h_v1 h5_v1 h0_v1 t_v1 => ?_)
  have e_v1 : b = v1 := ((t_v1 (Or.inr (Or.inl ⟨rfl, by simp only [DL]; omega⟩))).trans qg1).symm
  subst e_v1
  refine r_iconst hC dX6_isFull_6 rfl ?_
  refine r_icmp_eq (tgt := 24) hC dX6_isFull_7 rfl (fun h2 => ?_) (fun h2 => ?_)
  · refine r_iconst hC dX6_isFull_24 rfl ?_
    refine y_zret hK rfl dX6_isFull_25 (by omega) ?_
    exact k0 (by omega)
  · refine r_aload_n hC dX6_isFull_10 rfl ?_
    refine r_iload_n hC dX6_isFull_11 rfl ?_
    refine z_inv1 hM dX6_isFull_12 vl_RX6_116 rfl rfl rfl (Nat.le_of_ble_eq_true rfl) (Nat.le_of_ble_eq_true rfl) ?_
    refine m_heldOf (by omega) (fun v3 h_v3 t_v3 => ?_)
    have e_v3 : h = v3 := ((t_v3 rfl).trans qg0).symm
    subst e_v3
    refine r_bipush hC dX6_isFull_15 rfl ?_
    refine r_icmp_ne (tgt := 24) hC dX6_isFull_17 rfl (fun h4 => ?_) (fun h4 => ?_)
    · refine r_iconst hC dX6_isFull_24 rfl ?_
      refine y_zret hK rfl dX6_isFull_25 (by omega) ?_
      exact k0 (by omega)
    · refine r_iconst hC dX6_isFull_20 rfl ?_
      refine r_goto (tgt := 25) hC dX6_isFull_21 rfl ?_
      refine y_zret hK rfl dX6_isFull_25 (by omega) ?_
      exact k1
theorem m_isFull {ea eb : Bool} {d : Nat} {P : Option Vl → Mm → Prop} {σ : Mm} {l : Int} (b_l : 0 ≤ l ∧ l ≤ 7)  (k : ∀ r : Int, 0 ≤ r ∧ r ≤ 1 → P (some (vI r)) σ) : WT (ea, eb, false) (d + 3) 203 [vR 30 0, vI l] σ P := by
  refine WT_in fun K hK => ?_
  have hK : StpY (ea, eb, false) cX6_isFull RX6 (some .boolean) (WT (ea, eb, false) (d + 2)) P K := hK
  have hM := hK.1
  have hC := hK.1.1
  show K 0 [some (vR 30 0), some (vI l)] [] σ
  refine r_aload_n hC dX6_isFull_0 rfl ?_
  refine r_iload_n hC dX6_isFull_1 rfl ?_
  refine r_iconst hC dX6_isFull_2 rfl ?_
  refine z_inv2 hM dX6_isFull_3 vl_RX6_80 rfl rfl rfl (Nat.le_of_ble_eq_true rfl) (Nat.le_of_ble_eq_true rfl) ?_
  refine m_of (by omega) (by omega) (fun v1 h_v1 h5_v1 h0_v1 t_v1 => ?_)
  refine r_iconst hC dX6_isFull_6 rfl ?_
  have J25_3 : ∀ (w3 : Int), 0 ≤ w3 ∧ w3 ≤ 1 → K 25 [some (vR 30 0), some (vI l)] [vI w3] σ := by
    intro w3  f_w3 
    refine y_zret hK rfl dX6_isFull_25 (by omega) ?_
    exact k _ (by omega)
  refine r_icmp_eq (tgt := 24) hC dX6_isFull_7 rfl (fun h2 => ?_) (fun h2 => ?_)
  · refine r_iconst hC dX6_isFull_24 rfl ?_
    exact J25_3 (0)  (by omega) 
  · refine r_aload_n hC dX6_isFull_10 rfl ?_
    refine r_iload_n hC dX6_isFull_11 rfl ?_
    refine z_inv1 hM dX6_isFull_12 vl_RX6_116 rfl rfl rfl (Nat.le_of_ble_eq_true rfl) (Nat.le_of_ble_eq_true rfl) ?_
    refine m_heldOf (by omega) (fun v5 h_v5 t_v5 => ?_)
    refine r_bipush hC dX6_isFull_15 rfl ?_
    refine r_icmp_ne (tgt := 24) hC dX6_isFull_17 rfl (fun h6 => ?_) (fun h6 => ?_)
    · refine r_iconst hC dX6_isFull_24 rfl ?_
      exact J25_3 (0)  (by omega) 
    · refine r_iconst hC dX6_isFull_20 rfl ?_
      refine r_goto (tgt := 25) hC dX6_isFull_21 rfl ?_
      exact J25_3 (1)  (by omega) 
theorem m_give {d : Nat} {P : Option Vl → Mm → Prop} {σ : Mm} {l x t h : Int} (b_l : 0 ≤ l ∧ l ≤ 3) (qg0 : σ 45 0 l = t) (b_h : 0 ≤ h ∧ h ≤ 120) (qg1 : σ 31 0 ((22 * l) + 5) = h) (hL : InL σ) (ht : t ≠ l)  (k : ∀ ρ : Mm, GL (fun c x y => c = 31 ∧ x = 0 ∧ y % 22 = 5 ∧ y ≠ 22 * l + 5) σ ρ → P none ρ) : WT (true, false, false) (d + 10) 204 [vR 30 0, vI l, vI x] σ P := by
  refine WT_in fun K hK => ?_
  have hK : StpY (true, false, false) cX6_give RX6 (none) (WT (true, false, false) (d + 9)) P K := hK
  have hM := hK.1
  have hC := hK.1.1
  show K 0 [some (vR 30 0), some (vI l), some (vI x), none, none, none, none, none] [] σ
  refine r_rngz hC (fun g0 => ?_)
  have r_x : -2147483648 ≤ x ∧ x ≤ 2147483647 := inR_le (g0 (vI x) (by simp))
  refine r_aload_n hC dX6_give_0 rfl ?_
  refine z_getR hM dX6_give_1 fl_RX6_52 rfl rfl (vld_of (n := 1) rfl (by omega) (by omega)) ?_
  refine r_iload_n hC dX6_give_4 rfl ?_
  refine z_iald hM dX6_give_5 rfl (by omega) (by omega) (fun v1 h_v1 o_v1 t_v1 => ?_)
  have e_v1 : t = v1 := ((t_v1 (Or.inl trivial)).trans qg0).symm
  subst e_v1
  have q_v1 : -1 ≤ t ∧ t ≤ 3 := o_v1
  refine r_if_lt (tgt := 17) hC dX6_give_6 rfl (fun h2 => ?_) (fun h2 => ?_)
  · refine y_vret hK rfl dX6_give_17 ?_
    exact k _ (GL.rf (S := fun c x y => c = 31 ∧ x = 0 ∧ y % 22 = 5 ∧ y ≠ 22 * l + 5) hL)
  · refine r_aload_n hC dX6_give_9 rfl ?_
    refine r_iload_n hC dX6_give_10 rfl ?_
    refine z_inv1 hM dX6_give_11 vl_RX6_116 rfl rfl rfl (Nat.le_of_ble_eq_true rfl) (Nat.le_of_ble_eq_true rfl) ?_
    refine m_heldOf (by omega) (fun v3 h_v3 t_v3 => ?_)
    have e_v3 : h = v3 := ((t_v3 rfl).trans qg1).symm
    subst e_v3
    refine r_if_ne (tgt := 18) hC dX6_give_14 rfl (fun h4 => ?_) (fun h4 => ?_)
    · refine r_aload_n hC dX6_give_18 rfl ?_
      refine r_iload_n hC dX6_give_19 rfl ?_
      refine z_inv1 hM dX6_give_20 vl_RX6_116 rfl rfl rfl (Nat.le_of_ble_eq_true rfl) (Nat.le_of_ble_eq_true rfl) ?_
      refine m_heldOf (by omega) (fun v5 h_v5 t_v5 => ?_)
      have e_v5 : h = v5 := ((t_v5 rfl).trans qg1).symm
      subst e_v5
      refine r_iconst hC dX6_give_23 rfl ?_
      refine r_isubE hC ((h - 1)) dX6_give_24 (by omega) (by unfold inR; omega) ?_
      refine r_istore_n hC dX6_give_25 rfl ?_
      refine r_aload_n hC dX6_give_26 rfl ?_
      refine z_getR hM dX6_give_27 fl_RX6_13 rfl rfl (vld_of (n := 1) rfl (by omega) (by omega)) ?_
      refine r_bipush hC dX6_give_30 rfl ?_
      refine r_iload_n hC dX6_give_32 rfl ?_
      refine r_imulE hC ((121 * l)) dX6_give_33 (by omega) (by unfold inR; omega) ?_
      refine r_iload_n hC dX6_give_34 rfl ?_
      refine r_iaddE hC (((121 * l) + (h - 1))) dX6_give_35 (by omega) (by unfold inR; omega) ?_
      refine z_iald hM dX6_give_36 rfl (by omega) (by omega) (fun v6 h_v6 o_v6 t_v6 => ?_)
      refine r_istore hC dX6_give_37 rfl ?_
      refine r_iload_n hC dX6_give_39 rfl ?_
      refine r_iload hC dX6_give_40 rfl ?_
      refine r_isubG hC dX6_give_42 (fun v7 h_v7 => ?_)
      refine r_aload_n hC dX6_give_43 rfl ?_
      refine z_getR hM dX6_give_44 fl_RX6_55 rfl rfl (vld_of (n := 1) rfl (by omega) (by omega)) ?_
      refine r_iload_n hC dX6_give_47 rfl ?_
      refine z_iald hM dX6_give_48 rfl (by omega) (by omega) (fun v8 h_v8 o_v8 t_v8 => ?_)
      refine r_icmp_gt (tgt := 53) hC dX6_give_49 rfl (fun h9 => ?_) (fun h9 => ?_)
      · refine r_iload_n hC dX6_give_53 rfl ?_
        refine r_istore hC dX6_give_54 rfl ?_
        have L56 : ∀ (n56 : Nat) (w10 : Int), 0 ≤ w10 ∧ w10 ≤ 119 → w10 - 0 < (n56 : Int) → K 56 [some (vR 30 0), some (vI l), some (vI x), some (vI (h - 1)), some (vI v6), some (vI w10), none, none] [] σ := by
          intro n56
          induction n56 with
          | zero => intro w10  f_w10  hm ; omega
          | succ n56 ih56 =>
            intro w10  f_w10  hm56 
            refine r_iload hC dX6_give_56 rfl ?_
            refine r_if_le (tgt := 103) hC dX6_give_58 rfl (fun h11 => ?_) (fun h11 => ?_)
            · refine r_aload_n hC dX6_give_103 rfl ?_
              refine r_iload_n hC dX6_give_104 rfl ?_
              refine r_iload hC dX6_give_105 rfl ?_
              refine r_iload_n hC dX6_give_107 rfl ?_
              refine r_aload_n hC dX6_give_108 rfl ?_
              refine z_getR hM dX6_give_109 fl_RX6_58 rfl rfl (vld_of (n := 1) rfl (by omega) (by omega)) ?_
              refine r_iload_n hC dX6_give_112 rfl ?_
              refine z_iald hM dX6_give_113 rfl (by omega) (by omega) (fun v12 h_v12 o_v12 t_v12 => ?_)
              have q_v12 : 0 ≤ v12 ∧ v12 ≤ 6 := o_v12
              refine z_inv4 hM dX6_give_114 vl_RX6_243 rfl rfl rfl (Nat.le_of_ble_eq_true rfl) (Nat.le_of_ble_eq_true rfl) ?_
              refine m_comesFrom (by omega) (by omega) (by omega) (by omega) (fun v13 h_v13 => ?_)
              refine r_istore hC dX6_give_117 rfl ?_
              refine r_iload hC dX6_give_119 rfl ?_
              refine r_ldc hC dX6_give_121 co_RX6_160 rfl ?_
              refine r_icmp_ne (tgt := 127) hC dX6_give_123 rfl (fun h14 => ?_) (fun h14 => ?_)
              · refine r_aload_n hC dX6_give_127 rfl ?_
                refine z_getR hM dX6_give_128 fl_RX6_52 rfl rfl (vld_of (n := 1) rfl (by omega) (by omega)) ?_
                refine r_iload_n hC dX6_give_131 rfl ?_
                refine z_iald hM dX6_give_132 rfl (by omega) (by omega) (fun v15 h_v15 o_v15 t_v15 => ?_)
                have e_v15 : t = v15 := ((t_v15 (Or.inl trivial)).trans qg0).symm
                subst e_v15
                have q_v15 : -1 ≤ t ∧ t ≤ 3 := o_v15
                refine r_istore hC dX6_give_133 rfl ?_
                refine r_aload_n hC dX6_give_135 rfl ?_
                refine r_iload hC dX6_give_136 rfl ?_
                refine r_iload hC dX6_give_138 rfl ?_
                refine z_inv2 hM dX6_give_140 vl_RX6_247 rfl rfl rfl (Nat.le_of_ble_eq_true rfl) (Nat.le_of_ble_eq_true rfl) ?_
                refine m_isLost (by omega) (fun v16 h_v16 => ?_)
                refine r_if_eq (tgt := 156) hC dX6_give_143 rfl (fun h17 => ?_) (fun h17 => ?_)
                · refine r_aload_n hC dX6_give_156 rfl ?_
                  refine r_iload hC dX6_give_157 rfl ?_
                  refine z_inv1 hM dX6_give_159 vl_RX6_250 rfl rfl rfl (Nat.le_of_ble_eq_true rfl) (Nat.le_of_ble_eq_true rfl) ?_
                  refine m_isFullL (h := σ 31 0 (22 * t + 5)) (b := σ 31 0 (22 * t + 2)) (by omega) (hL.h31 (by omega) (by omega)) rfl rfl ?_ (fun full159 => ?_)
                  · refine r_if_eq (tgt := 166) hC dX6_give_162 rfl (fun h18 => by omega) (fun h18 => ?_)
                    refine y_vret hK rfl dX6_give_165 ?_
                    exact k _ (GL.rf (S := fun c x y => c = 31 ∧ x = 0 ∧ y % 22 = 5 ∧ y ≠ 22 * l + 5) hL)
                  · refine r_if_eq (tgt := 166) hC dX6_give_162 rfl (fun h19 => ?_) (fun h19 => by omega)
                    refine r_aload_n hC dX6_give_166 rfl ?_
                    refine z_getR hM dX6_give_167 fl_RX6_61 rfl rfl (vld_of (n := 1) rfl (by omega) (by omega)) ?_
                    refine r_iload_n hC dX6_give_170 rfl ?_
                    refine r_dup2 hC dX6_give_171 rfl rfl ?_
                    refine z_iald hM dX6_give_172 rfl (by omega) (by omega) (fun v20 h_v20 o_v20 t_v20 => ?_)
                    refine r_iconst hC dX6_give_173 rfl ?_
                    refine r_iaddG hC dX6_give_174 (fun v21 h_v21 => ?_)
                    refine z_iastU hM dX6_give_175 rfl (by omega) (by omega) (by simp [Un, Tb, DL, DF, DR]) (by simp [Okv]) ?_
                    refine r_aload_n hC dX6_give_176 rfl ?_
                    refine r_iload hC dX6_give_177 rfl ?_
                    refine r_iload hC dX6_give_179 rfl ?_
                    refine r_iload hC dX6_give_181 rfl ?_
                    refine r_sipush hC dX6_give_183 rfl ?_
                    refine r_icmp_ge (tgt := 195) hC dX6_give_186 rfl (fun h22 => ?_) (fun h22 => ?_)
                    · refine r_iload hC dX6_give_195 rfl ?_
                      refine r_sipush hC dX6_give_197 rfl ?_
                      refine r_icmp_le (tgt := 209) hC dX6_give_200 rfl (fun h23 => ?_) (fun h23 => ?_)
                      · refine r_iload hC dX6_give_209 rfl ?_
                        refine z_inv3 hM dX6_give_211 vl_RX6_253 rfl rfl rfl (Nat.le_of_ble_eq_true rfl) (Nat.le_of_ble_eq_true rfl) ?_
                        have hrt := hL.2 t (by omega) (by omega)
                        refine m_enter (h := σ 31 0 (22 * t + 5)) (b := σ 31 0 (22 * t + 2)) (z := σ 31 0 (22 * t + 3)) (by omega) (hL.h31 (by omega) (by omega)) rfl rfl rfl hrt full159 (by unfold Rst at hrt; omega) (fun ρ24 a_ρ24 r_ρ24 _ => ?_)
                        refine y_vret hK rfl dX6_give_214 ?_
                        exact k _ (GL.put31 (GL.rf (S := fun c x y => c = 31 ∧ x = 0 ∧ y % 22 = 5 ∧ y ≠ 22 * l + 5) hL) (by first | omega | (simp; omega)) a_ρ24 r_ρ24)
                      · refine r_sipush hC dX6_give_203 rfl ?_
                        refine r_goto (tgt := 211) hC dX6_give_206 rfl ?_
                        refine z_inv3 hM dX6_give_211 vl_RX6_253 rfl rfl rfl (Nat.le_of_ble_eq_true rfl) (Nat.le_of_ble_eq_true rfl) ?_
                        have hrt := hL.2 t (by omega) (by omega)
                        refine m_enter (h := σ 31 0 (22 * t + 5)) (b := σ 31 0 (22 * t + 2)) (z := σ 31 0 (22 * t + 3)) (by omega) (hL.h31 (by omega) (by omega)) rfl rfl rfl hrt full159 (by unfold Rst at hrt; omega) (fun ρ25 a_ρ25 r_ρ25 _ => ?_)
                        refine y_vret hK rfl dX6_give_214 ?_
                        exact k _ (GL.put31 (GL.rf (S := fun c x y => c = 31 ∧ x = 0 ∧ y % 22 = 5 ∧ y ≠ 22 * l + 5) hL) (by first | omega | (simp; omega)) a_ρ25 r_ρ25)
                    · refine r_sipush hC dX6_give_189 rfl ?_
                      refine r_goto (tgt := 211) hC dX6_give_192 rfl ?_
                      refine z_inv3 hM dX6_give_211 vl_RX6_253 rfl rfl rfl (Nat.le_of_ble_eq_true rfl) (Nat.le_of_ble_eq_true rfl) ?_
                      have hrt := hL.2 t (by omega) (by omega)
                      refine m_enter (h := σ 31 0 (22 * t + 5)) (b := σ 31 0 (22 * t + 2)) (z := σ 31 0 (22 * t + 3)) (by omega) (hL.h31 (by omega) (by omega)) rfl rfl rfl hrt full159 (by unfold Rst at hrt; omega) (fun ρ26 a_ρ26 r_ρ26 _ => ?_)
                      refine y_vret hK rfl dX6_give_214 ?_
                      exact k _ (GL.put31 (GL.rf (S := fun c x y => c = 31 ∧ x = 0 ∧ y % 22 = 5 ∧ y ≠ 22 * l + 5) hL) (by first | omega | (simp; omega)) a_ρ26 r_ρ26)
                · refine r_aload_n hC dX6_give_146 rfl ?_
                  refine r_iload hC dX6_give_147 rfl ?_
                  refine r_bipush hC dX6_give_149 rfl ?_
                  refine r_iconst hC dX6_give_151 rfl ?_
                  refine z_inv3 hM dX6_give_152 vl_RX6_188 rfl rfl rfl (Nat.le_of_ble_eq_true rfl) (Nat.le_of_ble_eq_true rfl) ?_
                  refine m_more (by omega) (by omega) (by omega) ?_
                  refine y_vret hK rfl dX6_give_155 ?_
                  exact k _ (GL.rf (S := fun c x y => c = 31 ∧ x = 0 ∧ y % 22 = 5 ∧ y ≠ 22 * l + 5) hL)
              · refine y_vret hK rfl dX6_give_126 ?_
                exact k _ (GL.rf (S := fun c x y => c = 31 ∧ x = 0 ∧ y % 22 = 5 ∧ y ≠ 22 * l + 5) hL)
            · refine r_aload_n hC dX6_give_61 rfl ?_
              refine z_getR hM dX6_give_62 fl_RX6_13 rfl rfl (vld_of (n := 1) rfl (by omega) (by omega)) ?_
              refine r_bipush hC dX6_give_65 rfl ?_
              refine r_iload_n hC dX6_give_67 rfl ?_
              refine r_imulE hC ((121 * l)) dX6_give_68 (by omega) (by unfold inR; omega) ?_
              refine r_iload hC dX6_give_69 rfl ?_
              refine r_iaddE hC (((121 * l) + w10)) dX6_give_71 (by omega) (by unfold inR; omega) ?_
              refine z_iald hM dX6_give_72 rfl (by omega) (by omega) (fun v27 h_v27 o_v27 t_v27 => ?_)
              refine r_aload_n hC dX6_give_73 rfl ?_
              refine z_getR hM dX6_give_74 fl_RX6_13 rfl rfl (vld_of (n := 1) rfl (by omega) (by omega)) ?_
              refine r_bipush hC dX6_give_77 rfl ?_
              refine r_iload_n hC dX6_give_79 rfl ?_
              refine r_imulE hC ((121 * l)) dX6_give_80 (by omega) (by unfold inR; omega) ?_
              refine r_iload hC dX6_give_81 rfl ?_
              refine r_iaddE hC (((121 * l) + w10)) dX6_give_83 (by omega) (by unfold inR; omega) ?_
              refine r_iconst hC dX6_give_84 rfl ?_
              refine r_isubE hC ((((121 * l) + w10) - 1)) dX6_give_85 (by omega) (by unfold inR; omega) ?_
              refine z_iald hM dX6_give_86 rfl (by omega) (by omega) (fun v28 h_v28 o_v28 t_v28 => ?_)
              refine r_isubG hC dX6_give_87 (fun v29 h_v29 => ?_)
              refine r_aload_n hC dX6_give_88 rfl ?_
              refine z_getR hM dX6_give_89 fl_RX6_55 rfl rfl (vld_of (n := 1) rfl (by omega) (by omega)) ?_
              refine r_iload_n hC dX6_give_92 rfl ?_
              refine z_iald hM dX6_give_93 rfl (by omega) (by omega) (fun v30 h_v30 o_v30 t_v30 => ?_)
              refine r_icmp_gt (tgt := 103) hC dX6_give_94 rfl (fun h31 => ?_) (fun h31 => ?_)
              · refine r_aload_n hC dX6_give_103 rfl ?_
                refine r_iload_n hC dX6_give_104 rfl ?_
                refine r_iload hC dX6_give_105 rfl ?_
                refine r_iload_n hC dX6_give_107 rfl ?_
                refine r_aload_n hC dX6_give_108 rfl ?_
                refine z_getR hM dX6_give_109 fl_RX6_58 rfl rfl (vld_of (n := 1) rfl (by omega) (by omega)) ?_
                refine r_iload_n hC dX6_give_112 rfl ?_
                refine z_iald hM dX6_give_113 rfl (by omega) (by omega) (fun v32 h_v32 o_v32 t_v32 => ?_)
                have q_v32 : 0 ≤ v32 ∧ v32 ≤ 6 := o_v32
                refine z_inv4 hM dX6_give_114 vl_RX6_243 rfl rfl rfl (Nat.le_of_ble_eq_true rfl) (Nat.le_of_ble_eq_true rfl) ?_
                refine m_comesFrom (by omega) (by omega) (by omega) (by omega) (fun v33 h_v33 => ?_)
                refine r_istore hC dX6_give_117 rfl ?_
                refine r_iload hC dX6_give_119 rfl ?_
                refine r_ldc hC dX6_give_121 co_RX6_160 rfl ?_
                refine r_icmp_ne (tgt := 127) hC dX6_give_123 rfl (fun h34 => ?_) (fun h34 => ?_)
                · refine r_aload_n hC dX6_give_127 rfl ?_
                  refine z_getR hM dX6_give_128 fl_RX6_52 rfl rfl (vld_of (n := 1) rfl (by omega) (by omega)) ?_
                  refine r_iload_n hC dX6_give_131 rfl ?_
                  refine z_iald hM dX6_give_132 rfl (by omega) (by omega) (fun v35 h_v35 o_v35 t_v35 => ?_)
                  have e_v35 : t = v35 := ((t_v35 (Or.inl trivial)).trans qg0).symm
                  subst e_v35
                  have q_v35 : -1 ≤ t ∧ t ≤ 3 := o_v35
                  refine r_istore hC dX6_give_133 rfl ?_
                  refine r_aload_n hC dX6_give_135 rfl ?_
                  refine r_iload hC dX6_give_136 rfl ?_
                  refine r_iload hC dX6_give_138 rfl ?_
                  refine z_inv2 hM dX6_give_140 vl_RX6_247 rfl rfl rfl (Nat.le_of_ble_eq_true rfl) (Nat.le_of_ble_eq_true rfl) ?_
                  refine m_isLost (by omega) (fun v36 h_v36 => ?_)
                  refine r_if_eq (tgt := 156) hC dX6_give_143 rfl (fun h37 => ?_) (fun h37 => ?_)
                  · refine r_aload_n hC dX6_give_156 rfl ?_
                    refine r_iload hC dX6_give_157 rfl ?_
                    refine z_inv1 hM dX6_give_159 vl_RX6_250 rfl rfl rfl (Nat.le_of_ble_eq_true rfl) (Nat.le_of_ble_eq_true rfl) ?_
                    refine m_isFullL (h := σ 31 0 (22 * t + 5)) (b := σ 31 0 (22 * t + 2)) (by omega) (hL.h31 (by omega) (by omega)) rfl rfl ?_ (fun full159 => ?_)
                    · refine r_if_eq (tgt := 166) hC dX6_give_162 rfl (fun h38 => by omega) (fun h38 => ?_)
                      refine y_vret hK rfl dX6_give_165 ?_
                      exact k _ (GL.rf (S := fun c x y => c = 31 ∧ x = 0 ∧ y % 22 = 5 ∧ y ≠ 22 * l + 5) hL)
                    · refine r_if_eq (tgt := 166) hC dX6_give_162 rfl (fun h39 => ?_) (fun h39 => by omega)
                      refine r_aload_n hC dX6_give_166 rfl ?_
                      refine z_getR hM dX6_give_167 fl_RX6_61 rfl rfl (vld_of (n := 1) rfl (by omega) (by omega)) ?_
                      refine r_iload_n hC dX6_give_170 rfl ?_
                      refine r_dup2 hC dX6_give_171 rfl rfl ?_
                      refine z_iald hM dX6_give_172 rfl (by omega) (by omega) (fun v40 h_v40 o_v40 t_v40 => ?_)
                      refine r_iconst hC dX6_give_173 rfl ?_
                      refine r_iaddG hC dX6_give_174 (fun v41 h_v41 => ?_)
                      refine z_iastU hM dX6_give_175 rfl (by omega) (by omega) (by simp [Un, Tb, DL, DF, DR]) (by simp [Okv]) ?_
                      refine r_aload_n hC dX6_give_176 rfl ?_
                      refine r_iload hC dX6_give_177 rfl ?_
                      refine r_iload hC dX6_give_179 rfl ?_
                      refine r_iload hC dX6_give_181 rfl ?_
                      refine r_sipush hC dX6_give_183 rfl ?_
                      refine r_icmp_ge (tgt := 195) hC dX6_give_186 rfl (fun h42 => ?_) (fun h42 => ?_)
                      · refine r_iload hC dX6_give_195 rfl ?_
                        refine r_sipush hC dX6_give_197 rfl ?_
                        refine r_icmp_le (tgt := 209) hC dX6_give_200 rfl (fun h43 => ?_) (fun h43 => ?_)
                        · refine r_iload hC dX6_give_209 rfl ?_
                          refine z_inv3 hM dX6_give_211 vl_RX6_253 rfl rfl rfl (Nat.le_of_ble_eq_true rfl) (Nat.le_of_ble_eq_true rfl) ?_
                          have hrt := hL.2 t (by omega) (by omega)
                          refine m_enter (h := σ 31 0 (22 * t + 5)) (b := σ 31 0 (22 * t + 2)) (z := σ 31 0 (22 * t + 3)) (by omega) (hL.h31 (by omega) (by omega)) rfl rfl rfl hrt full159 (by unfold Rst at hrt; omega) (fun ρ44 a_ρ44 r_ρ44 _ => ?_)
                          refine y_vret hK rfl dX6_give_214 ?_
                          exact k _ (GL.put31 (GL.rf (S := fun c x y => c = 31 ∧ x = 0 ∧ y % 22 = 5 ∧ y ≠ 22 * l + 5) hL) (by first | omega | (simp; omega)) a_ρ44 r_ρ44)
                        · refine r_sipush hC dX6_give_203 rfl ?_
                          refine r_goto (tgt := 211) hC dX6_give_206 rfl ?_
                          refine z_inv3 hM dX6_give_211 vl_RX6_253 rfl rfl rfl (Nat.le_of_ble_eq_true rfl) (Nat.le_of_ble_eq_true rfl) ?_
                          have hrt := hL.2 t (by omega) (by omega)
                          refine m_enter (h := σ 31 0 (22 * t + 5)) (b := σ 31 0 (22 * t + 2)) (z := σ 31 0 (22 * t + 3)) (by omega) (hL.h31 (by omega) (by omega)) rfl rfl rfl hrt full159 (by unfold Rst at hrt; omega) (fun ρ45 a_ρ45 r_ρ45 _ => ?_)
                          refine y_vret hK rfl dX6_give_214 ?_
                          exact k _ (GL.put31 (GL.rf (S := fun c x y => c = 31 ∧ x = 0 ∧ y % 22 = 5 ∧ y ≠ 22 * l + 5) hL) (by first | omega | (simp; omega)) a_ρ45 r_ρ45)
                      · refine r_sipush hC dX6_give_189 rfl ?_
                        refine r_goto (tgt := 211) hC dX6_give_192 rfl ?_
                        refine z_inv3 hM dX6_give_211 vl_RX6_253 rfl rfl rfl (Nat.le_of_ble_eq_true rfl) (Nat.le_of_ble_eq_true rfl) ?_
                        have hrt := hL.2 t (by omega) (by omega)
                        refine m_enter (h := σ 31 0 (22 * t + 5)) (b := σ 31 0 (22 * t + 2)) (z := σ 31 0 (22 * t + 3)) (by omega) (hL.h31 (by omega) (by omega)) rfl rfl rfl hrt full159 (by unfold Rst at hrt; omega) (fun ρ46 a_ρ46 r_ρ46 _ => ?_)
                        refine y_vret hK rfl dX6_give_214 ?_
                        exact k _ (GL.put31 (GL.rf (S := fun c x y => c = 31 ∧ x = 0 ∧ y % 22 = 5 ∧ y ≠ 22 * l + 5) hL) (by first | omega | (simp; omega)) a_ρ46 r_ρ46)
                  · refine r_aload_n hC dX6_give_146 rfl ?_
                    refine r_iload hC dX6_give_147 rfl ?_
                    refine r_bipush hC dX6_give_149 rfl ?_
                    refine r_iconst hC dX6_give_151 rfl ?_
                    refine z_inv3 hM dX6_give_152 vl_RX6_188 rfl rfl rfl (Nat.le_of_ble_eq_true rfl) (Nat.le_of_ble_eq_true rfl) ?_
                    refine m_more (by omega) (by omega) (by omega) ?_
                    refine y_vret hK rfl dX6_give_155 ?_
                    exact k _ (GL.rf (S := fun c x y => c = 31 ∧ x = 0 ∧ y % 22 = 5 ∧ y ≠ 22 * l + 5) hL)
                · refine y_vret hK rfl dX6_give_126 ?_
                  exact k _ (GL.rf (S := fun c x y => c = 31 ∧ x = 0 ∧ y % 22 = 5 ∧ y ≠ 22 * l + 5) hL)
              · refine r_iincE hC ((w10 - 1)) dX6_give_97 rfl rfl (by omega) (by unfold inR; omega) ?_
                refine r_goto (tgt := 56) hC dX6_give_100 rfl ?_
                exact ih56 ((w10 - 1))  (by omega)  (by omega) 
        exact L56 121 ((h - 1))  (by omega)  (by omega) 
      · refine y_vret hK rfl dX6_give_52 ?_
        exact k _ (GL.rf (S := fun c x y => c = 31 ∧ x = 0 ∧ y % 22 = 5 ∧ y ≠ 22 * l + 5) hL)
    · refine y_vret hK rfl dX6_give_17 ?_
      exact k _ (GL.rf (S := fun c x y => c = 31 ∧ x = 0 ∧ y % 22 = 5 ∧ y ≠ 22 * l + 5) hL)
theorem m_come_S {d : Nat} {P : Option Vl → Mm → Prop} {σ : Mm} {l t v h b : Int} (qg0 : σ 31 0 ((22 * l) + 5) = h) (qg1 : σ 31 0 ((22 * l) + 2) = b) (hL : InL σ) (hto : ∀ i : Int, 0 ≤ i → i ≤ 3 → σ 45 0 i ≠ i)  (k : ∀ (r : Int) (ρ : Mm), GL (fun c x y => c = 31 ∧ x = 0 ∧ y % 22 = 5) σ ρ → P (some (vI r)) ρ) : WT (true, false, false) (d + 11) 205 [vR 30 0, vI l, vI t, vI v] σ P := by
  refine WT_in fun K hK => ?_
  have hK : StpY (true, false, false) cX6_come RX6 (some .int) (WT (true, false, false) (d + 10)) P K := hK
  have hM := hK.1
  have hC := hK.1.1
  show K 0 [some (vR 30 0), some (vI l), some (vI t), some (vI v)] [] σ
  refine r_rngz hC (fun g0 => ?_)
  have r_l : -2147483648 ≤ l ∧ l ≤ 2147483647 := inR_le (g0 (vI l) (by simp))
  have r_t : -2147483648 ≤ t ∧ t ≤ 2147483647 := inR_le (g0 (vI t) (by simp))
  have r_v : -2147483648 ≤ v ∧ v ≤ 2147483647 := inR_le (g0 (vI v) (by simp))
  refine r_aload_n hC dX6_come_0 rfl ?_
  refine r_iload_n hC dX6_come_1 rfl ?_
  refine z_inv1 hM dX6_come_2 vl_RX6_124 rfl rfl rfl (Nat.le_of_ble_eq_true rfl) (Nat.le_of_ble_eq_true rfl) ?_
  refine m_isLane (fun h1 => ?_) ?_
  · have b0_h1 : 0 ≤ h ∧ h ≤ 120 := by have := InL.h31 hL (l := l) (by omega) (by omega); have := qg0; omega
    refine r_if_eq (tgt := 31) hC dX6_come_5 rfl (fun h2 => by omega) (fun h2 => ?_)
    refine r_iload_n hC dX6_come_8 rfl ?_
    refine r_iconst hC dX6_come_9 rfl ?_
    refine r_ldc hC dX6_come_10 co_RX6_239 rfl ?_
    refine z_ins3 hM dX6_come_12 tl_RX6_76 rfl (Nat.le_of_ble_eq_true rfl) (Nat.le_of_ble_eq_true rfl) ?_
    refine m_isIn (fun h4 => ?_) (fun h4 => ?_)
    · refine r_if_eq (tgt := 31) hC dX6_come_15 rfl (fun h5 => by omega) (fun h5 => ?_)
      refine r_iload_n hC dX6_come_18 rfl ?_
      refine r_sipush hC dX6_come_19 rfl ?_
      refine r_sipush hC dX6_come_22 rfl ?_
      refine z_ins3 hM dX6_come_25 tl_RX6_76 rfl (Nat.le_of_ble_eq_true rfl) (Nat.le_of_ble_eq_true rfl) ?_
      refine m_isIn (fun h7 => ?_) (fun h7 => ?_)
      · refine r_if_ne (tgt := 33) hC dX6_come_28 rfl (fun h8 => ?_) (fun h8 => by omega)
        refine r_aload_n hC dX6_come_33 rfl ?_
        refine r_iload_n hC dX6_come_34 rfl ?_
        refine r_iload_n hC dX6_come_35 rfl ?_
        refine z_inv2 hM dX6_come_36 vl_RX6_247 rfl rfl rfl (Nat.le_of_ble_eq_true rfl) (Nat.le_of_ble_eq_true rfl) ?_
        refine m_isLost (by omega) (fun v9 h_v9 => ?_)
        refine r_if_eq (tgt := 53) hC dX6_come_39 rfl (fun h10 => ?_) (fun h10 => ?_)
        · refine r_aload_n hC dX6_come_53 rfl ?_
          refine r_iload_n hC dX6_come_54 rfl ?_
          refine z_inv1 hM dX6_come_55 vl_RX6_250 rfl rfl rfl (Nat.le_of_ble_eq_true rfl) (Nat.le_of_ble_eq_true rfl) ?_
          refine m_isFullL (h := h) (b := b) (by omega) (by omega) (by have hq := qg0; omega) (by have hq := qg1; omega) ?_ (fun full55 => ?_)
          · refine r_if_eq (tgt := 63) hC dX6_come_58 rfl (fun h11 => by omega) (fun h11 => ?_)
            refine r_iconst hC dX6_come_61 rfl ?_
            refine y_iret hK rfl dX6_come_62 ?_
            exact k _ _ (GL.rf (S := fun c x y => c = 31 ∧ x = 0 ∧ y % 22 = 5) hL)
          · refine r_if_eq (tgt := 63) hC dX6_come_58 rfl (fun h12 => ?_) (fun h12 => by omega)
            refine r_aload_n hC dX6_come_63 rfl ?_
            refine r_iload_n hC dX6_come_64 rfl ?_
            refine r_iload_n hC dX6_come_65 rfl ?_
            refine z_inv2 hM dX6_come_66 vl_RX6_256 rfl rfl rfl (Nat.le_of_ble_eq_true rfl) (Nat.le_of_ble_eq_true rfl) ?_
            refine m_give (t := σ 45 0 l) (h := h) (by omega) rfl (by omega) (by have hq := qg0; omega) (GL.rf (S := fun c x y => c = 31 ∧ x = 0 ∧ y % 22 = 5) hL).2 (by have hq := hto l (by omega) (by omega); have hg := (GL.rf (S := fun c x y => c = 31 ∧ x = 0 ∧ y % 22 = 5) hL).1 45 0 l (by simp); omega) (fun ρ13 g_ρ13 => ?_)
            refine r_aload_n hC dX6_come_69 rfl ?_
            refine r_iload_n hC dX6_come_70 rfl ?_
            refine r_iload_n hC dX6_come_71 rfl ?_
            refine r_iload_n hC dX6_come_72 rfl ?_
            refine z_inv3 hM dX6_come_73 vl_RX6_253 rfl rfl rfl (Nat.le_of_ble_eq_true rfl) (Nat.le_of_ble_eq_true rfl) ?_
            have hrt_ρ14 := (GL.gl (GL.rf (S := fun c x y => c = 31 ∧ x = 0 ∧ y % 22 = 5) hL) g_ρ13 (by intro c x y h; omega)).2.2 l (by omega) (by omega)
            rw [((g_ρ13.1 _ _ _ (by omega)).trans qg0), ((g_ρ13.1 _ _ _ (by omega)).trans qg1)] at hrt_ρ14
            refine m_enter (h := h) (b := b) (z := ρ13 31 0 (22 * l + 3)) (by omega) (by unfold Rst at hrt_ρ14; omega) (by have hq := ((g_ρ13.1 _ _ _ (by omega)).trans qg0); omega) (by have hq := ((g_ρ13.1 _ _ _ (by omega)).trans qg1); omega) rfl hrt_ρ14 (by omega) (by unfold Rst at hrt_ρ14; omega) (fun ρ14 a_ρ14 r_ρ14 l_ρ14 => ?_)
            obtain ⟨x15, e_x15⟩ : ∃ v, ρ14 31 0 (22 * l + 5) = v := ⟨_, rfl⟩
            have b_x15 : 0 ≤ x15 ∧ x15 ≤ 120 := by have hr := r_ρ14; unfold Rst at hr hrt_ρ14; omega
            refine r_aload_n hC dX6_come_76 rfl ?_
            refine r_iload_n hC dX6_come_77 rfl ?_
            refine z_inv1 hM dX6_come_78 vl_RX6_259 rfl rfl rfl (Nat.le_of_ble_eq_true rfl) (Nat.le_of_ble_eq_true rfl) ?_
            refine m_behindCall (by omega) (fun v16 h_v16 => ?_)
            refine y_iret hK rfl dX6_come_81 ?_
            exact k _ _ (GL.put31 (GL.gl (GL.rf (S := fun c x y => c = 31 ∧ x = 0 ∧ y % 22 = 5) hL) g_ρ13 (by intro c x y h; omega)) (by first | omega | (simp; omega)) a_ρ14 (by have hq := r_ρ14; rw [← ((g_ρ13.1 _ _ _ (by omega)).trans qg1)] at hq; exact hq))
        · refine r_aload_n hC dX6_come_42 rfl ?_
          refine r_iload_n hC dX6_come_43 rfl ?_
          refine r_bipush hC dX6_come_44 rfl ?_
          refine r_iconst hC dX6_come_46 rfl ?_
          refine z_inv3 hM dX6_come_47 vl_RX6_188 rfl rfl rfl (Nat.le_of_ble_eq_true rfl) (Nat.le_of_ble_eq_true rfl) ?_
          refine m_more (by omega) (by omega) (by omega) ?_
          refine r_bipush hC dX6_come_50 rfl ?_
          refine y_iret hK rfl dX6_come_52 ?_
          exact k _ _ (GL.rf (S := fun c x y => c = 31 ∧ x = 0 ∧ y % 22 = 5) hL)
      · refine r_if_ne (tgt := 33) hC dX6_come_28 rfl (fun h17 => by omega) (fun h17 => ?_)
        refine r_iconst hC dX6_come_31 rfl ?_
        refine y_iret hK rfl dX6_come_32 ?_
        exact k _ _ (GL.rf (S := fun c x y => c = 31 ∧ x = 0 ∧ y % 22 = 5) hL)
    · refine r_if_eq (tgt := 31) hC dX6_come_15 rfl (fun h18 => ?_) (fun h18 => by omega)
      refine r_iconst hC dX6_come_31 rfl ?_
      refine y_iret hK rfl dX6_come_32 ?_
      exact k _ _ (GL.rf (S := fun c x y => c = 31 ∧ x = 0 ∧ y % 22 = 5) hL)
  · refine r_if_eq (tgt := 31) hC dX6_come_5 rfl (fun h19 => ?_) (fun h19 => by omega)
    refine r_iconst hC dX6_come_31 rfl ?_
    refine y_iret hK rfl dX6_come_32 ?_
    exact k _ _ (GL.rf (S := fun c x y => c = 31 ∧ x = 0 ∧ y % 22 = 5) hL)
theorem m_come {d : Nat} {P : Option Vl → Mm → Prop} {σ : Mm} {l t v : Int} (hto : ∀ i : Int, 0 ≤ i → i ≤ 3 → σ 45 0 i ≠ i) (k : ∀ r : Int, P (some (vI r)) σ) : WT (false, false, false) (d + 11) 205 [vR 30 0, vI l, vI t, vI v] σ P := by
  refine WT_loose (true, false, false) (fun h => by cases h) (fun h => h) (fun c j q => ?_) (fun ρ hL hF hT hO => ?_)
  · rcases q with q | q | q | q
    · exact Or.inl q
    · cases q.1
    · cases q.1
    · exact Or.inr (Or.inr (Or.inr q))
  · refine m_come_S (qg0 := rfl) (qg1 := rfl) (hL rfl) (fun i h0 h1 => by rw [hT 45 0 i (Or.inl trivial)]; exact hto i h0 h1) (fun r ρ2 h2 => ⟨σ, k r, fun _ => Or.inr h2.2, fun _ => Or.inl rfl, fun c i j q => ?_⟩)
    rw [h2.1 c i j ?_]
    · exact hT c i j q
    · rintro ⟨rfl, rfl, h5⟩
      rcases q with q | q | q | q
      · simp only [Tb] at q; omega
      · cases q.1
      · cases q.1
      · cases q.1
theorem m_burst_S {d : Nat} {P : Option Vl → Mm → Prop} {σ : Mm} {l m v z h b : Int} (qg0 : σ 31 0 ((22 * l) + 5) = h) (qg1 : σ 31 0 ((22 * l) + 2) = b) (hL : InL σ) (hto : ∀ i : Int, 0 ≤ i → i ≤ 3 → σ 45 0 i ≠ i)  (k : ∀ (r : Int) (ρ : Mm), GL (fun c x y => c = 31 ∧ x = 0 ∧ y % 22 = 5) σ ρ → P (some (vI r)) ρ) : WT (true, false, false) (d + 11) 206 [vR 30 0, vI l, vI m, vI v, vI z] σ P := by
  refine WT_in fun K hK => ?_
  have hK : StpY (true, false, false) cX6_burst RX6 (some .int) (WT (true, false, false) (d + 10)) P K := hK
  have hM := hK.1
  have hC := hK.1.1
  show K 0 [some (vR 30 0), some (vI l), some (vI m), some (vI v), some (vI z), none, none] [] σ
  refine r_rngz hC (fun g0 => ?_)
  have r_l : -2147483648 ≤ l ∧ l ≤ 2147483647 := inR_le (g0 (vI l) (by simp))
  have r_m : -2147483648 ≤ m ∧ m ≤ 2147483647 := inR_le (g0 (vI m) (by simp))
  have r_v : -2147483648 ≤ v ∧ v ≤ 2147483647 := inR_le (g0 (vI v) (by simp))
  have r_z : -2147483648 ≤ z ∧ z ≤ 2147483647 := inR_le (g0 (vI z) (by simp))
  refine r_aload_n hC dX6_burst_0 rfl ?_
  refine r_iload_n hC dX6_burst_1 rfl ?_
  refine z_inv1 hM dX6_burst_2 vl_RX6_124 rfl rfl rfl (Nat.le_of_ble_eq_true rfl) (Nat.le_of_ble_eq_true rfl) ?_
  refine m_isLane (fun h1 => ?_) ?_
  · have b0_h1 : 0 ≤ h ∧ h ≤ 120 := by have := InL.h31 hL (l := l) (by omega) (by omega); have := qg0; omega
    refine r_if_eq (tgt := 32) hC dX6_burst_5 rfl (fun h2 => by omega) (fun h2 => ?_)
    refine r_iload_n hC dX6_burst_8 rfl ?_
    refine r_iconst hC dX6_burst_9 rfl ?_
    refine r_bipush hC dX6_burst_10 rfl ?_
    refine z_ins3 hM dX6_burst_12 tl_RX6_76 rfl (Nat.le_of_ble_eq_true rfl) (Nat.le_of_ble_eq_true rfl) ?_
    refine m_isIn (fun h4 => ?_) (fun h4 => ?_)
    · refine r_if_eq (tgt := 32) hC dX6_burst_15 rfl (fun h5 => by omega) (fun h5 => ?_)
      refine r_iload hC dX6_burst_18 rfl ?_
      refine r_sipush hC dX6_burst_20 rfl ?_
      refine r_sipush hC dX6_burst_23 rfl ?_
      refine z_ins3 hM dX6_burst_26 tl_RX6_76 rfl (Nat.le_of_ble_eq_true rfl) (Nat.le_of_ble_eq_true rfl) ?_
      refine m_isIn (fun h7 => ?_) (fun h7 => ?_)
      · refine r_if_ne (tgt := 34) hC dX6_burst_29 rfl (fun h8 => ?_) (fun h8 => by omega)
        refine r_iload_n hC dX6_burst_34 rfl ?_
        refine r_sipush hC dX6_burst_35 rfl ?_
        refine r_sipush hC dX6_burst_38 rfl ?_
        refine z_ins3 hM dX6_burst_41 tl_RX6_76 rfl (Nat.le_of_ble_eq_true rfl) (Nat.le_of_ble_eq_true rfl) ?_
        refine m_isIn (fun h10 => ?_) (fun h10 => ?_)
        · refine r_if_eq (tgt := 81) hC dX6_burst_44 rfl (fun h11 => by omega) (fun h11 => ?_)
          refine r_iload_n hC dX6_burst_47 rfl ?_
          refine r_iload hC dX6_burst_48 rfl ?_
          refine r_iload_n hC dX6_burst_50 rfl ?_
          refine r_iconst hC dX6_burst_51 rfl ?_
          refine r_isubE hC ((m - 1)) dX6_burst_52 (by omega) (by unfold inR; omega) ?_
          have m12 := mul_bd2 (a := (m - 1)) (b := z) (A := 39) (B := 1000) (by omega) (by omega) (by omega) (by omega)
          refine r_imulE hC ((z * (m - 1))) dX6_burst_53 (by omega) (by unfold inR; omega) ?_
          refine r_iaddE hC ((v + (z * (m - 1)))) dX6_burst_54 (by omega) (by unfold inR; omega) ?_
          refine r_sipush hC dX6_burst_55 rfl ?_
          refine r_sipush hC dX6_burst_58 rfl ?_
          refine z_ins3 hM dX6_burst_61 tl_RX6_76 rfl (Nat.le_of_ble_eq_true rfl) (Nat.le_of_ble_eq_true rfl) ?_
          refine m_isIn (fun h14 => ?_) (fun h14 => ?_)
          · refine r_if_eq (tgt := 81) hC dX6_burst_64 rfl (fun h15 => by omega) (fun h15 => ?_)
            refine r_aload_n hC dX6_burst_67 rfl ?_
            refine r_iload_n hC dX6_burst_68 rfl ?_
            refine r_bipush hC dX6_burst_69 rfl ?_
            refine z_inv2 hM dX6_burst_71 vl_RX6_80 rfl rfl rfl (Nat.le_of_ble_eq_true rfl) (Nat.le_of_ble_eq_true rfl) ?_
            refine m_of (by omega) (by omega) (fun v16 h_v16 h5_v16 h0_v16 t_v16 => ?_)
            refine r_iload_n hC dX6_burst_74 rfl ?_
            refine r_iaddG hC dX6_burst_75 (fun v17 h_v17 => ?_)
            refine r_ldc hC dX6_burst_76 co_RX6_239 rfl ?_
            refine r_icmp_le (tgt := 83) hC dX6_burst_78 rfl (fun h18 => ?_) (fun h18 => ?_)
            · refine r_aload_n hC dX6_burst_83 rfl ?_
              refine r_iload_n hC dX6_burst_84 rfl ?_
              refine r_iconst hC dX6_burst_85 rfl ?_
              refine z_inv2 hM dX6_burst_86 vl_RX6_80 rfl rfl rfl (Nat.le_of_ble_eq_true rfl) (Nat.le_of_ble_eq_true rfl) ?_
              refine m_of (by omega) (by omega) (fun v19 h_v19 h5_v19 h0_v19 t_v19 => ?_)
              have e_v19 : b = v19 := ((t_v19 (Or.inr (Or.inl ⟨rfl, by simp only [DL]; omega⟩))).trans qg1).symm
              subst e_v19
              refine r_iconst hC dX6_burst_89 rfl ?_
              refine r_icmp_eq (tgt := 107) hC dX6_burst_90 rfl (fun h20 => ?_) (fun h20 => ?_)
              · refine r_aload_n hC dX6_burst_107 rfl ?_
                refine r_iload_n hC dX6_burst_108 rfl ?_
                refine r_bipush hC dX6_burst_109 rfl ?_
                refine z_inv2 hM dX6_burst_111 vl_RX6_80 rfl rfl rfl (Nat.le_of_ble_eq_true rfl) (Nat.le_of_ble_eq_true rfl) ?_
                refine m_of (by omega) (by omega) (fun v21 h_v21 h5_v21 h0_v21 t_v21 => ?_)
                refine r_iconst hC dX6_burst_114 rfl ?_
                refine r_iaddG hC dX6_burst_115 (fun v22 h_v22 => ?_)
                refine r_istore hC dX6_burst_116 rfl ?_
                refine r_iconst hC dX6_burst_118 rfl ?_
                refine r_istore hC dX6_burst_119 rfl ?_
                have L121 : ∀ (n121 : Nat) (w23 w24 : Int) (ρ25 : Mm), 0 ≤ w23 ∧ w23 ≤ 40 → 0 ≤ w24 ∧ w24 ≤ 120 → (b ≠ 1 → (w24) + m - (w23) ≤ 120) → ((w23) ≤ m) → 40 - w23 < (n121 : Int) → GL (fun c x y => c = 31 ∧ x = 0 ∧ y % 22 = 5) σ ρ25 → ρ25 31 0 ((22 * l) + 5) = w24 → ρ25 31 0 ((22 * l) + 2) = b → K 121 [some (vR 30 0), some (vI l), some (vI m), some (vI v), some (vI z), some (vI v22), some (vI w23)] [] ρ25 := by
                  intro n121
                  induction n121 with
                  | zero => intro w23 w24 ρ25 f_w23 f_w24 i0_121 i1_121 hm g_ρ25 q0_ρ25 q1_ρ25; omega
                  | succ n121 ih121 =>
                    intro w23 w24 ρ25 f_w23 f_w24 i0_121 i1_121 hm121 g_ρ25 q0_ρ25 q1_ρ25
                    refine r_iload hC dX6_burst_121 rfl ?_
                    refine r_iload_n hC dX6_burst_123 rfl ?_
                    refine r_icmp_ge (tgt := 160) hC dX6_burst_124 rfl (fun h26 => ?_) (fun h26 => ?_)
                    · refine r_aload_n hC dX6_burst_160 rfl ?_
                      refine r_iload_n hC dX6_burst_161 rfl ?_
                      refine z_inv1 hM dX6_burst_162 vl_RX6_259 rfl rfl rfl (Nat.le_of_ble_eq_true rfl) (Nat.le_of_ble_eq_true rfl) ?_
                      refine m_behindCall (by omega) (fun v27 h_v27 => ?_)
                      refine y_iret hK rfl dX6_burst_165 ?_
                      exact k _ _ (g_ρ25)
                    · refine r_aload_n hC dX6_burst_127 rfl ?_
                      refine r_iload_n hC dX6_burst_128 rfl ?_
                      refine r_iload hC dX6_burst_129 rfl ?_
                      refine r_iload hC dX6_burst_131 rfl ?_
                      refine r_iaddG hC dX6_burst_133 (fun v28 h_v28 => ?_)
                      refine z_inv2 hM dX6_burst_134 vl_RX6_256 rfl rfl rfl (Nat.le_of_ble_eq_true rfl) (Nat.le_of_ble_eq_true rfl) ?_
                      refine m_give (t := ρ25 45 0 l) (h := w24) (by omega) rfl (by omega) (by have hq := q0_ρ25; omega) (g_ρ25).2 (by have hq := hto l (by omega) (by omega); have hg := (g_ρ25).1 45 0 l (by simp); omega) (fun ρ29 g_ρ29 => ?_)
                      refine r_aload_n hC dX6_burst_137 rfl ?_
                      refine r_iload_n hC dX6_burst_138 rfl ?_
                      refine r_iload hC dX6_burst_139 rfl ?_
                      refine r_iload hC dX6_burst_141 rfl ?_
                      refine r_iaddG hC dX6_burst_143 (fun v30 h_v30 => ?_)
                      refine r_iload_n hC dX6_burst_144 rfl ?_
                      refine r_iload hC dX6_burst_145 rfl ?_
                      refine r_iload hC dX6_burst_147 rfl ?_
                      have m31 := mul_bd2 (a := w23) (b := z) (A := 39) (B := 1000) (by omega) (by omega) (by omega) (by omega)
                      refine r_imulE hC ((z * w23)) dX6_burst_149 (by omega) (by unfold inR; omega) ?_
                      refine r_iaddE hC ((v + (z * w23))) dX6_burst_150 (by omega) (by unfold inR; omega) ?_
                      refine z_inv3 hM dX6_burst_151 vl_RX6_253 rfl rfl rfl (Nat.le_of_ble_eq_true rfl) (Nat.le_of_ble_eq_true rfl) ?_
                      have hrt_ρ32 := (GL.gl (g_ρ25) g_ρ29 (by intro c x y h; omega)).2.2 l (by omega) (by omega)
                      rw [((g_ρ29.1 _ _ _ (by omega)).trans q0_ρ25), ((g_ρ29.1 _ _ _ (by omega)).trans q1_ρ25)] at hrt_ρ32
                      refine m_enter (h := w24) (b := b) (z := ρ29 31 0 (22 * l + 3)) (by omega) (by unfold Rst at hrt_ρ32; omega) (by have hq := ((g_ρ29.1 _ _ _ (by omega)).trans q0_ρ25); omega) (by have hq := ((g_ρ29.1 _ _ _ (by omega)).trans q1_ρ25); omega) rfl hrt_ρ32 (by omega) (by unfold Rst at hrt_ρ32; omega) (fun ρ32 a_ρ32 r_ρ32 l_ρ32 => ?_)
                      obtain ⟨x33, e_x33⟩ : ∃ v, ρ32 31 0 (22 * l + 5) = v := ⟨_, rfl⟩
                      have b_x33 : 0 ≤ x33 ∧ x33 ≤ 120 := by have hr := r_ρ32; unfold Rst at hr hrt_ρ32; omega
                      refine r_iincE hC ((w23 + 1)) dX6_burst_154 rfl rfl (by omega) (by unfold inR; omega) ?_
                      refine r_goto (tgt := 121) hC dX6_burst_157 rfl ?_
                      exact ih121 ((w23 + 1)) (x33) ρ32 (by omega) (by omega) (by omega) (by omega) (by omega) (GL.put31 (GL.gl (g_ρ25) g_ρ29 (by intro c x y h; omega)) (by first | omega | (simp; omega)) a_ρ32 (by have hq := r_ρ32; rw [← ((g_ρ29.1 _ _ _ (by omega)).trans q1_ρ25)] at hq; exact hq)) (by have hq := e_x33; omega) (by have hq := ((a_ρ32 _ _ _ (by omega)).trans ((g_ρ29.1 _ _ _ (by omega)).trans q1_ρ25)); omega)
                exact L121 42 (0) (h) σ (by omega) (by omega) (by omega) (by omega) (by omega) (GL.rf (S := fun c x y => c = 31 ∧ x = 0 ∧ y % 22 = 5) hL) (by have hq := qg0; omega) (by have hq := qg1; omega)
              · refine r_aload_n hC dX6_burst_93 rfl ?_
                refine r_iload_n hC dX6_burst_94 rfl ?_
                refine z_inv1 hM dX6_burst_95 vl_RX6_116 rfl rfl rfl (Nat.le_of_ble_eq_true rfl) (Nat.le_of_ble_eq_true rfl) ?_
                refine m_heldOf (by omega) (fun v34 h_v34 t_v34 => ?_)
                have e_v34 : h = v34 := ((t_v34 rfl).trans qg0).symm
                subst e_v34
                refine r_iload_n hC dX6_burst_98 rfl ?_
                refine r_iaddE hC ((h + m)) dX6_burst_99 (by omega) (by unfold inR; omega) ?_
                refine r_bipush hC dX6_burst_100 rfl ?_
                refine r_icmp_le (tgt := 107) hC dX6_burst_102 rfl (fun h35 => ?_) (fun h35 => ?_)
                · refine r_aload_n hC dX6_burst_107 rfl ?_
                  refine r_iload_n hC dX6_burst_108 rfl ?_
                  refine r_bipush hC dX6_burst_109 rfl ?_
                  refine z_inv2 hM dX6_burst_111 vl_RX6_80 rfl rfl rfl (Nat.le_of_ble_eq_true rfl) (Nat.le_of_ble_eq_true rfl) ?_
                  refine m_of (by omega) (by omega) (fun v36 h_v36 h5_v36 h0_v36 t_v36 => ?_)
                  refine r_iconst hC dX6_burst_114 rfl ?_
                  refine r_iaddG hC dX6_burst_115 (fun v37 h_v37 => ?_)
                  refine r_istore hC dX6_burst_116 rfl ?_
                  refine r_iconst hC dX6_burst_118 rfl ?_
                  refine r_istore hC dX6_burst_119 rfl ?_
                  have L121 : ∀ (n121 : Nat) (w38 w39 : Int) (ρ40 : Mm), 0 ≤ w38 ∧ w38 ≤ 40 → 0 ≤ w39 ∧ w39 ≤ 120 → (b ≠ 1 → (w39) + m - (w38) ≤ 120) → ((w38) ≤ m) → 40 - w38 < (n121 : Int) → GL (fun c x y => c = 31 ∧ x = 0 ∧ y % 22 = 5) σ ρ40 → ρ40 31 0 ((22 * l) + 5) = w39 → ρ40 31 0 ((22 * l) + 2) = b → K 121 [some (vR 30 0), some (vI l), some (vI m), some (vI v), some (vI z), some (vI v37), some (vI w38)] [] ρ40 := by
                    intro n121
                    induction n121 with
                    | zero => intro w38 w39 ρ40 f_w38 f_w39 i0_121 i1_121 hm g_ρ40 q0_ρ40 q1_ρ40; omega
                    | succ n121 ih121 =>
                      intro w38 w39 ρ40 f_w38 f_w39 i0_121 i1_121 hm121 g_ρ40 q0_ρ40 q1_ρ40
                      refine r_iload hC dX6_burst_121 rfl ?_
                      refine r_iload_n hC dX6_burst_123 rfl ?_
                      refine r_icmp_ge (tgt := 160) hC dX6_burst_124 rfl (fun h41 => ?_) (fun h41 => ?_)
                      · refine r_aload_n hC dX6_burst_160 rfl ?_
                        refine r_iload_n hC dX6_burst_161 rfl ?_
                        refine z_inv1 hM dX6_burst_162 vl_RX6_259 rfl rfl rfl (Nat.le_of_ble_eq_true rfl) (Nat.le_of_ble_eq_true rfl) ?_
                        refine m_behindCall (by omega) (fun v42 h_v42 => ?_)
                        refine y_iret hK rfl dX6_burst_165 ?_
                        exact k _ _ (g_ρ40)
                      · refine r_aload_n hC dX6_burst_127 rfl ?_
                        refine r_iload_n hC dX6_burst_128 rfl ?_
                        refine r_iload hC dX6_burst_129 rfl ?_
                        refine r_iload hC dX6_burst_131 rfl ?_
                        refine r_iaddG hC dX6_burst_133 (fun v43 h_v43 => ?_)
                        refine z_inv2 hM dX6_burst_134 vl_RX6_256 rfl rfl rfl (Nat.le_of_ble_eq_true rfl) (Nat.le_of_ble_eq_true rfl) ?_
                        refine m_give (t := ρ40 45 0 l) (h := w39) (by omega) rfl (by omega) (by have hq := q0_ρ40; omega) (g_ρ40).2 (by have hq := hto l (by omega) (by omega); have hg := (g_ρ40).1 45 0 l (by simp); omega) (fun ρ44 g_ρ44 => ?_)
                        refine r_aload_n hC dX6_burst_137 rfl ?_
                        refine r_iload_n hC dX6_burst_138 rfl ?_
                        refine r_iload hC dX6_burst_139 rfl ?_
                        refine r_iload hC dX6_burst_141 rfl ?_
                        refine r_iaddG hC dX6_burst_143 (fun v45 h_v45 => ?_)
                        refine r_iload_n hC dX6_burst_144 rfl ?_
                        refine r_iload hC dX6_burst_145 rfl ?_
                        refine r_iload hC dX6_burst_147 rfl ?_
                        have m46 := mul_bd2 (a := w38) (b := z) (A := 39) (B := 1000) (by omega) (by omega) (by omega) (by omega)
                        refine r_imulE hC ((z * w38)) dX6_burst_149 (by omega) (by unfold inR; omega) ?_
                        refine r_iaddE hC ((v + (z * w38))) dX6_burst_150 (by omega) (by unfold inR; omega) ?_
                        refine z_inv3 hM dX6_burst_151 vl_RX6_253 rfl rfl rfl (Nat.le_of_ble_eq_true rfl) (Nat.le_of_ble_eq_true rfl) ?_
                        have hrt_ρ47 := (GL.gl (g_ρ40) g_ρ44 (by intro c x y h; omega)).2.2 l (by omega) (by omega)
                        rw [((g_ρ44.1 _ _ _ (by omega)).trans q0_ρ40), ((g_ρ44.1 _ _ _ (by omega)).trans q1_ρ40)] at hrt_ρ47
                        refine m_enter (h := w39) (b := b) (z := ρ44 31 0 (22 * l + 3)) (by omega) (by unfold Rst at hrt_ρ47; omega) (by have hq := ((g_ρ44.1 _ _ _ (by omega)).trans q0_ρ40); omega) (by have hq := ((g_ρ44.1 _ _ _ (by omega)).trans q1_ρ40); omega) rfl hrt_ρ47 (by omega) (by unfold Rst at hrt_ρ47; omega) (fun ρ47 a_ρ47 r_ρ47 l_ρ47 => ?_)
                        obtain ⟨x48, e_x48⟩ : ∃ v, ρ47 31 0 (22 * l + 5) = v := ⟨_, rfl⟩
                        have b_x48 : 0 ≤ x48 ∧ x48 ≤ 120 := by have hr := r_ρ47; unfold Rst at hr hrt_ρ47; omega
                        refine r_iincE hC ((w38 + 1)) dX6_burst_154 rfl rfl (by omega) (by unfold inR; omega) ?_
                        refine r_goto (tgt := 121) hC dX6_burst_157 rfl ?_
                        exact ih121 ((w38 + 1)) (x48) ρ47 (by omega) (by omega) (by omega) (by omega) (by omega) (GL.put31 (GL.gl (g_ρ40) g_ρ44 (by intro c x y h; omega)) (by first | omega | (simp; omega)) a_ρ47 (by have hq := r_ρ47; rw [← ((g_ρ44.1 _ _ _ (by omega)).trans q1_ρ40)] at hq; exact hq)) (by have hq := e_x48; omega) (by have hq := ((a_ρ47 _ _ _ (by omega)).trans ((g_ρ44.1 _ _ _ (by omega)).trans q1_ρ40)); omega)
                  exact L121 42 (0) (h) σ (by omega) (by omega) (by omega) (by omega) (by omega) (GL.rf (S := fun c x y => c = 31 ∧ x = 0 ∧ y % 22 = 5) hL) (by have hq := qg0; omega) (by have hq := qg1; omega)
                · refine r_iconst hC dX6_burst_105 rfl ?_
                  refine y_iret hK rfl dX6_burst_106 ?_
                  exact k _ _ (GL.rf (S := fun c x y => c = 31 ∧ x = 0 ∧ y % 22 = 5) hL)
            · refine r_iconst hC dX6_burst_81 rfl ?_
              refine y_iret hK rfl dX6_burst_82 ?_
              exact k _ _ (GL.rf (S := fun c x y => c = 31 ∧ x = 0 ∧ y % 22 = 5) hL)
          · refine r_if_eq (tgt := 81) hC dX6_burst_64 rfl (fun h49 => ?_) (fun h49 => by omega)
            refine r_iconst hC dX6_burst_81 rfl ?_
            refine y_iret hK rfl dX6_burst_82 ?_
            exact k _ _ (GL.rf (S := fun c x y => c = 31 ∧ x = 0 ∧ y % 22 = 5) hL)
        · refine r_if_eq (tgt := 81) hC dX6_burst_44 rfl (fun h50 => ?_) (fun h50 => by omega)
          refine r_iconst hC dX6_burst_81 rfl ?_
          refine y_iret hK rfl dX6_burst_82 ?_
          exact k _ _ (GL.rf (S := fun c x y => c = 31 ∧ x = 0 ∧ y % 22 = 5) hL)
      · refine r_if_ne (tgt := 34) hC dX6_burst_29 rfl (fun h51 => by omega) (fun h51 => ?_)
        refine r_iconst hC dX6_burst_32 rfl ?_
        refine y_iret hK rfl dX6_burst_33 ?_
        exact k _ _ (GL.rf (S := fun c x y => c = 31 ∧ x = 0 ∧ y % 22 = 5) hL)
    · refine r_if_eq (tgt := 32) hC dX6_burst_15 rfl (fun h52 => ?_) (fun h52 => by omega)
      refine r_iconst hC dX6_burst_32 rfl ?_
      refine y_iret hK rfl dX6_burst_33 ?_
      exact k _ _ (GL.rf (S := fun c x y => c = 31 ∧ x = 0 ∧ y % 22 = 5) hL)
  · refine r_if_eq (tgt := 32) hC dX6_burst_5 rfl (fun h53 => ?_) (fun h53 => by omega)
    refine r_iconst hC dX6_burst_32 rfl ?_
    refine y_iret hK rfl dX6_burst_33 ?_
    exact k _ _ (GL.rf (S := fun c x y => c = 31 ∧ x = 0 ∧ y % 22 = 5) hL)
theorem m_burst {d : Nat} {P : Option Vl → Mm → Prop} {σ : Mm} {l m v z : Int} (hto : ∀ i : Int, 0 ≤ i → i ≤ 3 → σ 45 0 i ≠ i) (k : ∀ r : Int, P (some (vI r)) σ) : WT (false, false, false) (d + 11) 206 [vR 30 0, vI l, vI m, vI v, vI z] σ P := by
  refine WT_loose (true, false, false) (fun h => by cases h) (fun h => h) (fun c j q => ?_) (fun ρ hL hF hT hO => ?_)
  · rcases q with q | q | q | q
    · exact Or.inl q
    · cases q.1
    · cases q.1
    · exact Or.inr (Or.inr (Or.inr q))
  · refine m_burst_S (qg0 := rfl) (qg1 := rfl) (hL rfl) (fun i h0 h1 => by rw [hT 45 0 i (Or.inl trivial)]; exact hto i h0 h1) (fun r ρ2 h2 => ⟨σ, k r, fun _ => Or.inr h2.2, fun _ => Or.inl rfl, fun c i j q => ?_⟩)
    rw [h2.1 c i j ?_]
    · exact hT c i j q
    · rintro ⟨rfl, rfl, h5⟩
      rcases q with q | q | q | q
      · simp only [Tb] at q; omega
      · cases q.1
      · cases q.1
      · cases q.1
theorem m_leave_S {d : Nat} {P : Option Vl → Mm → Prop} {σ : Mm} {l m h : Int} (qg0 : σ 31 0 ((22 * l) + 5) = h) (hL : InL σ)  (k : ∀ (r : Int) (ρ : Mm), GL (fun c x y => c = 31 ∧ x = 0 ∧ y % 22 = 5) σ ρ → P (some (vI r)) ρ) : WT (true, false, false) (d + 9) 207 [vR 30 0, vI l, vI m] σ P := by
  refine WT_in fun K hK => ?_
  have hK : StpY (true, false, false) cX6_leave RX6 (some .int) (WT (true, false, false) (d + 8)) P K := hK
  have hM := hK.1
  have hC := hK.1.1
  show K 0 [some (vR 30 0), some (vI l), some (vI m), none] [] σ
  refine r_rngz hC (fun g0 => ?_)
  have r_l : -2147483648 ≤ l ∧ l ≤ 2147483647 := inR_le (g0 (vI l) (by simp))
  have r_m : -2147483648 ≤ m ∧ m ≤ 2147483647 := inR_le (g0 (vI m) (by simp))
  refine r_aload_n hC dX6_leave_0 rfl ?_
  refine r_iload_n hC dX6_leave_1 rfl ?_
  refine z_inv1 hM dX6_leave_2 vl_RX6_124 rfl rfl rfl (Nat.le_of_ble_eq_true rfl) (Nat.le_of_ble_eq_true rfl) ?_
  refine m_isLane (fun h1 => ?_) ?_
  · have b0_h1 : 0 ≤ h ∧ h ≤ 120 := by have := InL.h31 hL (l := l) (by omega) (by omega); have := qg0; omega
    refine r_if_eq (tgt := 21) hC dX6_leave_5 rfl (fun h2 => by omega) (fun h2 => ?_)
    refine r_iload_n hC dX6_leave_8 rfl ?_
    refine r_iconst hC dX6_leave_9 rfl ?_
    refine r_aload_n hC dX6_leave_10 rfl ?_
    refine r_iload_n hC dX6_leave_11 rfl ?_
    refine z_inv1 hM dX6_leave_12 vl_RX6_116 rfl rfl rfl (Nat.le_of_ble_eq_true rfl) (Nat.le_of_ble_eq_true rfl) ?_
    refine m_heldOf (by omega) (fun v3 h_v3 t_v3 => ?_)
    have e_v3 : h = v3 := ((t_v3 rfl).trans qg0).symm
    subst e_v3
    refine z_ins3 hM dX6_leave_15 tl_RX6_76 rfl (Nat.le_of_ble_eq_true rfl) (Nat.le_of_ble_eq_true rfl) ?_
    refine m_isIn (fun h5 => ?_) (fun h5 => ?_)
    · refine r_if_ne (tgt := 23) hC dX6_leave_18 rfl (fun h6 => ?_) (fun h6 => by omega)
      refine r_iconst hC dX6_leave_23 rfl ?_
      refine r_istore_n hC dX6_leave_24 rfl ?_
      have L25 : ∀ (n25 : Nat) (w7 w8 : Int) (ρ9 : Mm), 0 ≤ w7 ∧ w7 ≤ 121 → 0 ≤ w8 ∧ w8 ≤ 120 → ((w8) = h - (w7)) → ((w7) ≤ m) → 121 - w7 < (n25 : Int) → GL (fun c x y => c = 31 ∧ x = 0 ∧ y % 22 = 5) σ ρ9 → ρ9 31 0 ((22 * l) + 5) = w8 → K 25 [some (vR 30 0), some (vI l), some (vI m), some (vI w7)] [] ρ9 := by
        intro n25
        induction n25 with
        | zero => intro w7 w8 ρ9 f_w7 f_w8 i0_25 i1_25 hm g_ρ9 q0_ρ9; omega
        | succ n25 ih25 =>
          intro w7 w8 ρ9 f_w7 f_w8 i0_25 i1_25 hm25 g_ρ9 q0_ρ9
          refine r_iload_n hC dX6_leave_25 rfl ?_
          refine r_iload_n hC dX6_leave_26 rfl ?_
          refine r_icmp_ge (tgt := 41) hC dX6_leave_27 rfl (fun h10 => ?_) (fun h10 => ?_)
          · refine r_aload_n hC dX6_leave_41 rfl ?_
            refine r_iload_n hC dX6_leave_42 rfl ?_
            refine z_inv1 hM dX6_leave_43 vl_RX6_116 rfl rfl rfl (Nat.le_of_ble_eq_true rfl) (Nat.le_of_ble_eq_true rfl) ?_
            refine m_heldOf (by omega) (fun v11 h_v11 t_v11 => ?_)
            have e_v11 : w8 = v11 := ((t_v11 rfl).trans q0_ρ9).symm
            subst e_v11
            refine y_iret hK rfl dX6_leave_46 ?_
            exact k _ _ (g_ρ9)
          · refine r_aload_n hC dX6_leave_30 rfl ?_
            refine r_iload_n hC dX6_leave_31 rfl ?_
            refine z_inv1 hM dX6_leave_32 vl_RX6_233 rfl rfl rfl (Nat.le_of_ble_eq_true rfl) (Nat.le_of_ble_eq_true rfl) ?_
            refine m_drop (h := w8) (by omega) (by omega) (by have hq := q0_ρ9; omega) (fun ρ12 a_ρ12 q_ρ12 => ?_)
            refine r_iincE hC ((w7 + 1)) dX6_leave_35 rfl rfl (by omega) (by unfold inR; omega) ?_
            refine r_goto (tgt := 25) hC dX6_leave_38 rfl ?_
            exact ih25 ((w7 + 1)) ((w8 - 1)) ρ12 (by omega) (by omega) (by omega) (by omega) (by omega) (GL.drop31 (g_ρ9) (by first | simp | omega) a_ρ12 (by omega) (by omega) (by have hq := q0_ρ9; have hr := q_ρ12; omega) (by have hq := q0_ρ9; omega)) (by have hq := q_ρ12; omega)
      exact L25 123 (0) (h) σ (by omega) (by omega) (by omega) (by omega) (by omega) (GL.rf (S := fun c x y => c = 31 ∧ x = 0 ∧ y % 22 = 5) hL) (by have hq := qg0; omega)
    · refine r_if_ne (tgt := 23) hC dX6_leave_18 rfl (fun h13 => by omega) (fun h13 => ?_)
      refine r_iconst hC dX6_leave_21 rfl ?_
      refine y_iret hK rfl dX6_leave_22 ?_
      exact k _ _ (GL.rf (S := fun c x y => c = 31 ∧ x = 0 ∧ y % 22 = 5) hL)
  · refine r_if_eq (tgt := 21) hC dX6_leave_5 rfl (fun h14 => ?_) (fun h14 => by omega)
    refine r_iconst hC dX6_leave_21 rfl ?_
    refine y_iret hK rfl dX6_leave_22 ?_
    exact k _ _ (GL.rf (S := fun c x y => c = 31 ∧ x = 0 ∧ y % 22 = 5) hL)
theorem m_leave {d : Nat} {P : Option Vl → Mm → Prop} {σ : Mm} {l m : Int} (k : ∀ r : Int, P (some (vI r)) σ) : WT (false, false, false) (d + 9) 207 [vR 30 0, vI l, vI m] σ P := by
  refine WT_loose (true, false, false) (fun h => by cases h) (fun h => h) (fun c j q => ?_) (fun ρ hL hF hT hO => ?_)
  · rcases q with q | q | q | q
    · exact Or.inl q
    · cases q.1
    · cases q.1
    · exact Or.inr (Or.inr (Or.inr q))
  · refine m_leave_S (qg0 := rfl) (hL rfl) (fun r ρ2 h2 => ⟨σ, k r, fun _ => Or.inr h2.2, fun _ => Or.inl rfl, fun c i j q => ?_⟩)
    rw [h2.1 c i j ?_]
    · exact hT c i j q
    · rintro ⟨rfl, rfl, h5⟩
      rcases q with q | q | q | q
      · simp only [Tb] at q; omega
      · cases q.1
      · cases q.1
      · cases q.1
theorem m_until_S {d : Nat} {P : Option Vl → Mm → Prop} {σ : Mm} {l t h : Int} (qg0 : σ 31 0 ((22 * l) + 5) = h) (hL : InL σ)  (k : ∀ (r : Int) (ρ : Mm), GL (fun c x y => c = 31 ∧ x = 0 ∧ y % 22 = 5) σ ρ → P (some (vI r)) ρ) : WT (true, false, false) (d + 9) 208 [vR 30 0, vI l, vI t] σ P := by
  refine WT_in fun K hK => ?_
  have hK : StpY (true, false, false) cX6_until RX6 (some .int) (WT (true, false, false) (d + 8)) P K := hK
  have hM := hK.1
  have hC := hK.1.1
  show K 0 [some (vR 30 0), some (vI l), some (vI t), none, none] [] σ
  refine r_rngz hC (fun g0 => ?_)
  have r_l : -2147483648 ≤ l ∧ l ≤ 2147483647 := inR_le (g0 (vI l) (by simp))
  have r_t : -2147483648 ≤ t ∧ t ≤ 2147483647 := inR_le (g0 (vI t) (by simp))
  refine r_aload_n hC dX6_until_0 rfl ?_
  refine r_iload_n hC dX6_until_1 rfl ?_
  refine z_inv1 hM dX6_until_2 vl_RX6_124 rfl rfl rfl (Nat.le_of_ble_eq_true rfl) (Nat.le_of_ble_eq_true rfl) ?_
  refine m_isLane (fun h1 => ?_) ?_
  · have b0_h1 : 0 ≤ h ∧ h ≤ 120 := by have := InL.h31 hL (l := l) (by omega) (by omega); have := qg0; omega
    refine r_if_ne (tgt := 10) hC dX6_until_5 rfl (fun h2 => ?_) (fun h2 => by omega)
    refine r_aload_n hC dX6_until_10 rfl ?_
    refine r_iload_n hC dX6_until_11 rfl ?_
    refine r_iload_n hC dX6_until_12 rfl ?_
    refine z_inv2 hM dX6_until_13 vl_RX6_224 rfl rfl rfl (Nat.le_of_ble_eq_true rfl) (Nat.le_of_ble_eq_true rfl) ?_
    refine m_placeOfL (h := h) (by omega) (by omega) (by have hq := qg0; omega) (fun v3 h_v3 => ?_)
    refine r_istore_n hC dX6_until_16 rfl ?_
    refine r_iconst hC dX6_until_17 rfl ?_
    refine r_istore hC dX6_until_18 rfl ?_
    have L20 : ∀ (n20 : Nat) (w4 w5 : Int) (ρ6 : Mm), 0 ≤ w4 ∧ w4 ≤ 121 → 0 ≤ w5 ∧ w5 ≤ 120 → ((w5) = h - (w4)) → ((w4) ≤ (v3)) → 121 - w4 < (n20 : Int) → GL (fun c x y => c = 31 ∧ x = 0 ∧ y % 22 = 5) σ ρ6 → ρ6 31 0 ((22 * l) + 5) = w5 → K 20 [some (vR 30 0), some (vI l), some (vI t), some (vI v3), some (vI w4)] [] ρ6 := by
      intro n20
      induction n20 with
      | zero => intro w4 w5 ρ6 f_w4 f_w5 i0_20 i1_20 hm g_ρ6 q0_ρ6; omega
      | succ n20 ih20 =>
        intro w4 w5 ρ6 f_w4 f_w5 i0_20 i1_20 hm20 g_ρ6 q0_ρ6
        refine r_iload hC dX6_until_20 rfl ?_
        refine r_iload_n hC dX6_until_22 rfl ?_
        refine r_icmp_ge (tgt := 37) hC dX6_until_23 rfl (fun h7 => ?_) (fun h7 => ?_)
        · refine r_iload_n hC dX6_until_37 rfl ?_
          refine y_iret hK rfl dX6_until_38 ?_
          exact k _ _ (g_ρ6)
        · refine r_aload_n hC dX6_until_26 rfl ?_
          refine r_iload_n hC dX6_until_27 rfl ?_
          refine z_inv1 hM dX6_until_28 vl_RX6_233 rfl rfl rfl (Nat.le_of_ble_eq_true rfl) (Nat.le_of_ble_eq_true rfl) ?_
          refine m_drop (h := w5) (by omega) (by omega) (by have hq := q0_ρ6; omega) (fun ρ8 a_ρ8 q_ρ8 => ?_)
          refine r_iincE hC ((w4 + 1)) dX6_until_31 rfl rfl (by omega) (by unfold inR; omega) ?_
          refine r_goto (tgt := 20) hC dX6_until_34 rfl ?_
          exact ih20 ((w4 + 1)) ((w5 - 1)) ρ8 (by omega) (by omega) (by omega) (by omega) (by omega) (GL.drop31 (g_ρ6) (by first | simp | omega) a_ρ8 (by omega) (by omega) (by have hq := q0_ρ6; have hr := q_ρ8; omega) (by have hq := q0_ρ6; omega)) (by have hq := q_ρ8; omega)
    exact L20 123 (0) (h) σ (by omega) (by omega) (by omega) (by omega) (by omega) (GL.rf (S := fun c x y => c = 31 ∧ x = 0 ∧ y % 22 = 5) hL) (by have hq := qg0; omega)
  · refine r_if_ne (tgt := 10) hC dX6_until_5 rfl (fun h9 => by omega) (fun h9 => ?_)
    refine r_iconst hC dX6_until_8 rfl ?_
    refine y_iret hK rfl dX6_until_9 ?_
    exact k _ _ (GL.rf (S := fun c x y => c = 31 ∧ x = 0 ∧ y % 22 = 5) hL)
theorem m_until {d : Nat} {P : Option Vl → Mm → Prop} {σ : Mm} {l t : Int} (k : ∀ r : Int, P (some (vI r)) σ) : WT (false, false, false) (d + 9) 208 [vR 30 0, vI l, vI t] σ P := by
  refine WT_loose (true, false, false) (fun h => by cases h) (fun h => h) (fun c j q => ?_) (fun ρ hL hF hT hO => ?_)
  · rcases q with q | q | q | q
    · exact Or.inl q
    · cases q.1
    · cases q.1
    · exact Or.inr (Or.inr (Or.inr q))
  · refine m_until_S (qg0 := rfl) (hL rfl) (fun r ρ2 h2 => ⟨σ, k r, fun _ => Or.inr h2.2, fun _ => Or.inl rfl, fun c i j q => ?_⟩)
    rw [h2.1 c i j ?_]
    · exact hT c i j q
    · rintro ⟨rfl, rfl, h5⟩
      rcases q with q | q | q | q
      · simp only [Tb] at q; omega
      · cases q.1
      · cases q.1
      · cases q.1
theorem m_take_S {d : Nat} {P : Option Vl → Mm → Prop} {σ : Mm} {l x h : Int} (qg0 : σ 31 0 ((22 * l) + 5) = h) (hL : InL σ)  (k : ∀ (r : Int) (ρ : Mm), GL (fun c x y => c = 31 ∧ x = 0 ∧ y % 22 = 5) σ ρ → P (some (vI r)) ρ) : WT (true, false, false) (d + 8) 210 [vR 30 0, vI l, vI x] σ P := by
  refine WT_in fun K hK => ?_
  have hK : StpY (true, false, false) cX6_take RX6 (some .int) (WT (true, false, false) (d + 7)) P K := hK
  have hM := hK.1
  have hC := hK.1.1
  show K 0 [some (vR 30 0), some (vI l), some (vI x), none] [] σ
  refine r_rngz hC (fun g0 => ?_)
  have r_l : -2147483648 ≤ l ∧ l ≤ 2147483647 := inR_le (g0 (vI l) (by simp))
  have r_x : -2147483648 ≤ x ∧ x ≤ 2147483647 := inR_le (g0 (vI x) (by simp))
  refine r_aload_n hC dX6_take_0 rfl ?_
  refine r_iload_n hC dX6_take_1 rfl ?_
  refine r_iload_n hC dX6_take_2 rfl ?_
  refine z_inv2 hM dX6_take_3 vl_RX6_262 rfl rfl rfl (Nat.le_of_ble_eq_true rfl) (Nat.le_of_ble_eq_true rfl) ?_
  refine m_isEvent (fun h1 x_h1 => ?_) ?_
  · have b_h1 : 0 ≤ h ∧ h ≤ 120 := by have := InL.h31 hL (l := l) (by omega) (by omega); have := qg0; omega
    have y_h1 := x_h1 rfl
    refine r_if_ne (tgt := 12) hC dX6_take_6 rfl (fun h2 => ?_) (fun h2 => by omega)
    refine r_aload_n hC dX6_take_12 rfl ?_
    refine z_getR hM dX6_take_13 fl_RX6_16 rfl rfl (vld_of (n := 1) rfl (by omega) (by omega)) ?_
    refine r_bipush hC dX6_take_16 rfl ?_
    refine r_iload_n hC dX6_take_18 rfl ?_
    refine r_imulE hC ((121 * l)) dX6_take_19 (by omega) (by unfold inR; omega) ?_
    refine r_iload_n hC dX6_take_20 rfl ?_
    refine r_iaddE hC (((121 * l) + x)) dX6_take_21 (by omega) (by unfold inR; omega) ?_
    refine z_iald hM dX6_take_22 rfl (by omega) (by omega) (fun v3 h_v3 o_v3 t_v3 => ?_)
    refine r_istore_n hC dX6_take_23 rfl ?_
    refine r_aload_n hC dX6_take_24 rfl ?_
    refine r_iload_n hC dX6_take_25 rfl ?_
    refine r_iload_n hC dX6_take_26 rfl ?_
    refine r_iconst hC dX6_take_27 rfl ?_
    refine z_inv3 hM dX6_take_28 vl_RX6_217 rfl rfl rfl (Nat.le_of_ble_eq_true rfl) (Nat.le_of_ble_eq_true rfl) ?_
    refine m_shift (h := h) (by omega) (by omega) (by omega) (by omega) (by have hq := qg0; omega) (by omega) ?_
    refine r_aload_n hC dX6_take_31 rfl ?_
    refine r_iload_n hC dX6_take_32 rfl ?_
    refine r_iconst hC dX6_take_33 rfl ?_
    refine r_iconst hC dX6_take_34 rfl ?_
    refine z_inv3 hM dX6_take_35 vl_RX6_188 rfl rfl rfl (Nat.le_of_ble_eq_true rfl) (Nat.le_of_ble_eq_true rfl) ?_
    refine m_moreT (h := h) (by omega) (by omega) (by omega) (by have hq := qg0; omega) (by omega) (fun ρ4 a_ρ4 q_ρ4 => ?_)
    refine r_aload_n hC dX6_take_38 rfl ?_
    refine r_iload_n hC dX6_take_39 rfl ?_
    refine z_inv1 hM dX6_take_40 vl_RX6_227 rfl rfl rfl (Nat.le_of_ble_eq_true rfl) (Nat.le_of_ble_eq_true rfl) ?_
    refine m_layAnew (by omega) ?_
    refine r_iload_n hC dX6_take_43 rfl ?_
    refine y_iret hK rfl dX6_take_44 ?_
    exact k _ _ (GL.drop31 (GL.rf (S := fun c x y => c = 31 ∧ x = 0 ∧ y % 22 = 5) hL) (by first | simp | omega) a_ρ4 (by omega) (by omega) (by have hq := qg0; have hr := q_ρ4; omega) (by have hq := qg0; omega))
  · refine r_if_ne (tgt := 12) hC dX6_take_6 rfl (fun h5 => by omega) (fun h5 => ?_)
    refine r_ldc hC dX6_take_9 co_RX6_160 rfl ?_
    refine y_iret hK rfl dX6_take_11 ?_
    exact k _ _ (GL.rf (S := fun c x y => c = 31 ∧ x = 0 ∧ y % 22 = 5) hL)
theorem m_take {d : Nat} {P : Option Vl → Mm → Prop} {σ : Mm} {l x : Int} (k : ∀ r : Int, P (some (vI r)) σ) : WT (false, false, false) (d + 8) 210 [vR 30 0, vI l, vI x] σ P := by
  refine WT_loose (true, false, false) (fun h => by cases h) (fun h => h) (fun c j q => ?_) (fun ρ hL hF hT hO => ?_)
  · rcases q with q | q | q | q
    · exact Or.inl q
    · cases q.1
    · cases q.1
    · exact Or.inr (Or.inr (Or.inr q))
  · refine m_take_S (qg0 := rfl) (hL rfl) (fun r ρ2 h2 => ⟨σ, k r, fun _ => Or.inr h2.2, fun _ => Or.inl rfl, fun c i j q => ?_⟩)
    rw [h2.1 c i j ?_]
    · exact hT c i j q
    · rintro ⟨rfl, rfl, h5⟩
      rcases q with q | q | q | q
      · simp only [Tb] at q; omega
      · cases q.1
      · cases q.1
      · cases q.1
theorem m_alter {ea eb : Bool} {d : Nat} {P : Option Vl → Mm → Prop} {σ : Mm} {l x v : Int}   (k : ∀ r : Int, 0 ≤ r ∧ r ≤ 1 → P (some (vI r)) σ) : WT (ea, eb, false) (d + 8) 211 [vR 30 0, vI l, vI x, vI v] σ P := by
  refine WT_in fun K hK => ?_
  have hK : StpY (ea, eb, false) cX6_alter RX6 (some .boolean) (WT (ea, eb, false) (d + 7)) P K := hK
  have hM := hK.1
  have hC := hK.1.1
  show K 0 [some (vR 30 0), some (vI l), some (vI x), some (vI v)] [] σ
  refine r_rngz hC (fun g0 => ?_)
  have r_l : -2147483648 ≤ l ∧ l ≤ 2147483647 := inR_le (g0 (vI l) (by simp))
  have r_x : -2147483648 ≤ x ∧ x ≤ 2147483647 := inR_le (g0 (vI x) (by simp))
  have r_v : -2147483648 ≤ v ∧ v ≤ 2147483647 := inR_le (g0 (vI v) (by simp))
  refine r_aload_n hC dX6_alter_0 rfl ?_
  refine r_iload_n hC dX6_alter_1 rfl ?_
  refine r_iload_n hC dX6_alter_2 rfl ?_
  refine z_inv2 hM dX6_alter_3 vl_RX6_262 rfl rfl rfl (Nat.le_of_ble_eq_true rfl) (Nat.le_of_ble_eq_true rfl) ?_
  refine m_isEvent (fun h1 x_h1 => ?_) ?_
  · refine r_if_eq (tgt := 22) hC dX6_alter_6 rfl (fun h2 => by omega) (fun h2 => ?_)
    refine r_iload_n hC dX6_alter_9 rfl ?_
    refine r_sipush hC dX6_alter_10 rfl ?_
    refine r_sipush hC dX6_alter_13 rfl ?_
    refine z_ins3 hM dX6_alter_16 tl_RX6_76 rfl (Nat.le_of_ble_eq_true rfl) (Nat.le_of_ble_eq_true rfl) ?_
    refine m_isIn (fun h4 => ?_) (fun h4 => ?_)
    · refine r_if_ne (tgt := 24) hC dX6_alter_19 rfl (fun h5 => ?_) (fun h5 => by omega)
      refine r_aload_n hC dX6_alter_24 rfl ?_
      refine z_getR hM dX6_alter_25 fl_RX6_16 rfl rfl (vld_of (n := 1) rfl (by omega) (by omega)) ?_
      refine r_bipush hC dX6_alter_28 rfl ?_
      refine r_iload_n hC dX6_alter_30 rfl ?_
      refine r_imulE hC ((121 * l)) dX6_alter_31 (by omega) (by unfold inR; omega) ?_
      refine r_iload_n hC dX6_alter_32 rfl ?_
      refine r_iaddE hC (((121 * l) + x)) dX6_alter_33 (by omega) (by unfold inR; omega) ?_
      refine r_iload_n hC dX6_alter_34 rfl ?_
      refine z_iastU hM dX6_alter_35 rfl (by omega) (by omega) (by simp [Un, Tb, DL, DF, DR]) (by simp [Okv]) ?_
      refine r_aload_n hC dX6_alter_36 rfl ?_
      refine r_iload_n hC dX6_alter_37 rfl ?_
      refine z_inv1 hM dX6_alter_38 vl_RX6_227 rfl rfl rfl (Nat.le_of_ble_eq_true rfl) (Nat.le_of_ble_eq_true rfl) ?_
      refine m_layAnew (by omega) ?_
      refine r_iconst hC dX6_alter_41 rfl ?_
      refine y_zret hK rfl dX6_alter_42 (by omega) ?_
      exact k _ (by omega)
    · refine r_if_ne (tgt := 24) hC dX6_alter_19 rfl (fun h6 => by omega) (fun h6 => ?_)
      refine r_iconst hC dX6_alter_22 rfl ?_
      refine y_zret hK rfl dX6_alter_23 (by omega) ?_
      exact k _ (by omega)
  · refine r_if_eq (tgt := 22) hC dX6_alter_6 rfl (fun h7 => ?_) (fun h7 => by omega)
    refine r_iconst hC dX6_alter_22 rfl ?_
    refine y_zret hK rfl dX6_alter_23 (by omega) ?_
    exact k _ (by omega)
theorem m_setX {eb : Bool} {d : Nat} {P : Option Vl → Mm → Prop} {σ : Mm} {l f v : Int} (b_l : 0 ≤ l ∧ l ≤ 7) (b_f : 0 ≤ f ∧ f ≤ 21) {a2 : Int} (ho : (f = 5 → 0 ≤ v ∧ v ≤ 121) ∧ (f = 0 → v = 0 ∨ v = 1)) (hx : Tk (true, eb, false) 31 (22 * l + f) → v = a2)  (k : P none (mu σ 31 0 (22 * l + f) a2)) : WT (true, eb, false) (d + 1) 139 [vR 30 0, vI l, vI f, vI v] σ P := by
  refine WT_in fun K hK => ?_
  have hK : StpY (true, eb, false) cX6_set RX6 (none) (WT (true, eb, false) (d + 0)) P K := hK
  have hM := hK.1
  have hC := hK.1.1
  show K 0 [some (vR 30 0), some (vI l), some (vI f), some (vI v)] [] σ
  refine r_rngz hC (fun g0 => ?_)
  have r_v : -2147483648 ≤ v ∧ v ≤ 2147483647 := inR_le (g0 (vI v) (by simp))
  refine r_aload_n hC dX6_set_0 rfl ?_
  refine z_getR hM dX6_set_1 fl_RX6_7 rfl rfl (vld_of (n := 1) rfl (by omega) (by omega)) ?_
  refine r_bipush hC dX6_set_4 rfl ?_
  refine r_iload_n hC dX6_set_6 rfl ?_
  refine r_imulE hC ((22 * l)) dX6_set_7 (by omega) (by unfold inR; omega) ?_
  refine r_iload_n hC dX6_set_8 rfl ?_
  refine r_iaddE hC (((22 * l) + f)) dX6_set_9 (by omega) (by unfold inR; omega) ?_
  refine r_iload_n hC dX6_set_10 rfl ?_
  refine z_iastX (a2 := a2) hM dX6_set_11 rfl (by omega) (by omega) ⟨Or.inl rfl, Or.inr (by simp [DF])⟩ (by simp only [Okv]; omega) hx ?_
  refine y_vret hK rfl dX6_set_12 ?_
  exact k
theorem m_copyLane {eb : Bool} {d : Nat} {P : Option Vl → Mm → Prop} {σ : Mm} {l x : Int} (b_l : 0 ≤ l ∧ l ≤ 6) (b_x : 0 ≤ x ∧ x ≤ 7) (hlx : l ≠ x)  (k : P none (cpy σ 31 0 (22 * l) 31 0 (22 * x) 22)) : WT (true, eb, false) (d + 3) 253 [vR 30 0, vI l, vI x] σ P := by
  refine WT_in fun K hK => ?_
  have hK : StpY (true, eb, false) cX6_copyLane RX6 (none) (WT (true, eb, false) (d + 2)) P K := hK
  have hM := hK.1
  have hC := hK.1.1
  show K 0 [some (vR 30 0), some (vI l), some (vI x), none] [] σ
  refine r_iconst hC dX6_copyLane_0 rfl ?_
  refine r_istore_n hC dX6_copyLane_1 rfl ?_
  have L2 : ∀ (n2 : Nat) (w1 : Int), 0 ≤ w1 ∧ w1 ≤ 22 → 22 - w1 < (n2 : Int) → K 2 [some (vR 30 0), some (vI l), some (vI x), some (vI w1)] [] (cpy σ 31 0 (22 * l) 31 0 (22 * x) w1) := by
    intro n2
    induction n2 with
    | zero => intro w1  f_w1  hm ; omega
    | succ n2 ih2 =>
      intro w1  f_w1  hm2 
      refine r_iload_n hC dX6_copyLane_2 rfl ?_
      refine r_bipush hC dX6_copyLane_3 rfl ?_
      refine r_icmp_ge (tgt := 26) hC dX6_copyLane_5 rfl (fun h2 => ?_) (fun h2 => ?_)
      · refine r_iconst hC dX6_copyLane_26 rfl ?_
        refine r_istore_n hC dX6_copyLane_27 rfl ?_
        have L28 : ∀ (n28 : Nat) (w3 : Int), 0 ≤ w3 ∧ w3 ≤ 121 → 121 - w3 < (n28 : Int) → K 28 [some (vR 30 0), some (vI l), some (vI x), some (vI w3)] [] (cpy σ 31 0 (22 * l) 31 0 (22 * x) w1) := by
          intro n28
          induction n28 with
          | zero => intro w3  f_w3  hm ; omega
          | succ n28 ih28 =>
            intro w3  f_w3  hm28 
            refine r_iload_n hC dX6_copyLane_28 rfl ?_
            refine r_aload_n hC dX6_copyLane_29 rfl ?_
            refine r_iload_n hC dX6_copyLane_30 rfl ?_
            refine z_inv1 hM dX6_copyLane_31 vl_RX6_116 rfl rfl rfl (Nat.le_of_ble_eq_true rfl) (Nat.le_of_ble_eq_true rfl) ?_
            refine m_heldOf (by omega) (fun v4 h_v4 t_v4 => ?_)
            refine r_icmp_ge (tgt := 59) hC dX6_copyLane_34 rfl (fun h5 => ?_) (fun h5 => ?_)
            · refine y_vret hK rfl dX6_copyLane_59 ?_
              rw [show w1 = (22 : Int) from by omega]
              exact k
            · refine r_aload_n hC dX6_copyLane_37 rfl ?_
              refine r_bipush hC dX6_copyLane_38 rfl ?_
              refine r_iload_n hC dX6_copyLane_40 rfl ?_
              refine r_imulE hC ((121 * l)) dX6_copyLane_41 (by omega) (by unfold inR; omega) ?_
              refine r_iload_n hC dX6_copyLane_42 rfl ?_
              refine r_iaddE hC (((121 * l) + w3)) dX6_copyLane_43 (by omega) (by unfold inR; omega) ?_
              refine r_bipush hC dX6_copyLane_44 rfl ?_
              refine r_iload_n hC dX6_copyLane_46 rfl ?_
              refine r_imulE hC ((121 * x)) dX6_copyLane_47 (by omega) (by unfold inR; omega) ?_
              refine r_iload_n hC dX6_copyLane_48 rfl ?_
              refine r_iaddE hC (((121 * x) + w3)) dX6_copyLane_49 (by omega) (by unfold inR; omega) ?_
              refine z_inv2 hM dX6_copyLane_50 vl_RX6_213 rfl rfl rfl (Nat.le_of_ble_eq_true rfl) (Nat.le_of_ble_eq_true rfl) ?_
              refine m_copyEvent (by omega) (by omega) ?_
              refine r_iincE hC ((w3 + 1)) dX6_copyLane_53 rfl rfl (by omega) (by unfold inR; omega) ?_
              refine r_goto (tgt := 28) hC dX6_copyLane_56 rfl ?_
              exact ih28 ((w3 + 1))  (by omega)  (by omega) 
        exact L28 123 (0)  (by omega)  (by omega) 
      · refine r_aload_n hC dX6_copyLane_8 rfl ?_
        refine r_iload_n hC dX6_copyLane_9 rfl ?_
        refine r_iload_n hC dX6_copyLane_10 rfl ?_
        refine r_aload_n hC dX6_copyLane_11 rfl ?_
        refine r_iload_n hC dX6_copyLane_12 rfl ?_
        refine r_iload_n hC dX6_copyLane_13 rfl ?_
        refine z_inv2 hM dX6_copyLane_14 vl_RX6_80 rfl rfl rfl (Nat.le_of_ble_eq_true rfl) (Nat.le_of_ble_eq_true rfl) ?_
        refine m_of (by omega) (by omega) (fun v6 h_v6 h5_v6 h0_v6 t_v6 => ?_)
        refine z_inv3 hM dX6_copyLane_17 vl_RX6_173 rfl rfl rfl (Nat.le_of_ble_eq_true rfl) (Nat.le_of_ble_eq_true rfl) ?_
        refine m_setX (a2 := σ 31 0 (22 * l + w1)) (by omega) (by omega) ⟨fun h => h5_v6 h, fun h => by have := h0_v6 h; omega⟩ (fun hk => (t_v6 (tk_lane (by omega) (by omega) (by omega) hk)).trans (cpy_off (by omega))) ?_
        refine r_iincE hC ((w1 + 1)) dX6_copyLane_20 rfl rfl (by omega) (by unfold inR; omega) ?_
        refine r_goto (tgt := 2) hC dX6_copyLane_23 rfl ?_
        have hi := ih2 ((w1 + 1)) (by omega)  (by omega)
        rw [cpy_succ (by omega)] at hi
        exact hi
  have hi := L2 24 (0) (by omega)  (by omega)
  rw [cpy_zero] at hi
  exact hi
theorem m_set70 {ea eb : Bool} {d : Nat} {P : Option Vl → Mm → Prop} {σ : Mm}   (k : P none σ) : WT (ea, eb, false) (d + 1) 139 [vR 30 0, vI 7, vI 0, vI 0] σ P := by
  refine WT_in fun K hK => ?_
  have hK : StpY (ea, eb, false) cX6_set RX6 (none) (WT (ea, eb, false) (d + 0)) P K := hK
  have hM := hK.1
  have hC := hK.1.1
  show K 0 [some (vR 30 0), some (vI 7), some (vI 0), some (vI 0)] [] σ
  refine r_aload_n hC dX6_set_0 rfl ?_
  refine z_getR hM dX6_set_1 fl_RX6_7 rfl rfl (vld_of (n := 1) rfl (by omega) (by omega)) ?_
  refine r_bipush hC dX6_set_4 rfl ?_
  refine r_iload_n hC dX6_set_6 rfl ?_
  refine r_imulE hC (154) dX6_set_7 (by omega) (by unfold inR; omega) ?_
  refine r_iload_n hC dX6_set_8 rfl ?_
  refine r_iaddE hC (154) dX6_set_9 (by omega) (by unfold inR; omega) ?_
  refine r_iload_n hC dX6_set_10 rfl ?_
  refine z_iastU hM dX6_set_11 rfl (by omega) (by omega) ⟨by simp only [Tb]; omega, by simp only [DL]; omega, by simp [DF], Or.inr (by simp [DR])⟩ ⟨fun h => by omega, fun h => by omega⟩ ?_
  refine y_vret hK rfl dX6_set_12 ?_
  exact k
theorem m_were_S {d : Nat} {P : Option Vl → Mm → Prop} {σ : Mm} {l t v w : Int} (hL : InL σ)  (k : ∀ (r : Int) (ρ : Mm), GL (fun c x y => c = 31 ∧ x = 0 ∧ 154 ≤ y) σ ρ → P (some (vI r)) ρ) : WT (true, false, false) (d + 10) 241 [vR 30 0, vI l, vI t, vI v, vI w] σ P := by
  refine WT_in fun K hK => ?_
  have hK : StpY (true, false, false) cX6_were RX6 (some .int) (WT (true, false, false) (d + 9)) P K := hK
  have hM := hK.1
  have hC := hK.1.1
  show K 0 [some (vR 30 0), some (vI l), some (vI t), some (vI v), some (vI w), none] [] σ
  refine r_rngz hC (fun g0 => ?_)
  have r_l : -2147483648 ≤ l ∧ l ≤ 2147483647 := inR_le (g0 (vI l) (by simp))
  have r_t : -2147483648 ≤ t ∧ t ≤ 2147483647 := inR_le (g0 (vI t) (by simp))
  have r_v : -2147483648 ≤ v ∧ v ≤ 2147483647 := inR_le (g0 (vI v) (by simp))
  have r_w : -2147483648 ≤ w ∧ w ≤ 2147483647 := inR_le (g0 (vI w) (by simp))
  refine r_aload_n hC dX6_were_0 rfl ?_
  refine r_iload_n hC dX6_were_1 rfl ?_
  refine r_iload hC dX6_were_2 rfl ?_
  refine z_inv2 hM dX6_were_4 vl_RX6_207 rfl rfl rfl (Nat.le_of_ble_eq_true rfl) (Nat.le_of_ble_eq_true rfl) ?_
  refine m_isNumber (fun h1 => ?_) ?_
  · refine r_if_eq (tgt := 50) hC dX6_were_7 rfl (fun h2 => by omega) (fun h2 => ?_)
    refine r_iload_n hC dX6_were_10 rfl ?_
    refine r_iconst hC dX6_were_11 rfl ?_
    refine r_ldc hC dX6_were_12 co_RX6_239 rfl ?_
    refine z_ins3 hM dX6_were_14 tl_RX6_76 rfl (Nat.le_of_ble_eq_true rfl) (Nat.le_of_ble_eq_true rfl) ?_
    refine m_isIn (fun h4 => ?_) (fun h4 => ?_)
    · refine r_if_eq (tgt := 50) hC dX6_were_17 rfl (fun h5 => by omega) (fun h5 => ?_)
      refine r_iload_n hC dX6_were_20 rfl ?_
      refine r_sipush hC dX6_were_21 rfl ?_
      refine r_sipush hC dX6_were_24 rfl ?_
      refine z_ins3 hM dX6_were_27 tl_RX6_76 rfl (Nat.le_of_ble_eq_true rfl) (Nat.le_of_ble_eq_true rfl) ?_
      refine m_isIn (fun h7 => ?_) (fun h7 => ?_)
      · refine r_if_eq (tgt := 50) hC dX6_were_30 rfl (fun h8 => by omega) (fun h8 => ?_)
        refine r_aload_n hC dX6_were_33 rfl ?_
        refine r_iload_n hC dX6_were_34 rfl ?_
        refine r_iload_n hC dX6_were_35 rfl ?_
        refine z_inv2 hM dX6_were_36 vl_RX6_247 rfl rfl rfl (Nat.le_of_ble_eq_true rfl) (Nat.le_of_ble_eq_true rfl) ?_
        refine m_isLost (by omega) (fun v9 h_v9 => ?_)
        refine r_if_ne (tgt := 50) hC dX6_were_39 rfl (fun h10 => ?_) (fun h10 => ?_)
        · refine r_ldc hC dX6_were_50 co_RX6_160 rfl ?_
          refine y_iret hK rfl dX6_were_52 ?_
          exact k _ _ (GL.rf (S := fun c x y => c = 31 ∧ x = 0 ∧ 154 ≤ y) hL)
        · refine r_aload_n hC dX6_were_42 rfl ?_
          refine r_iload_n hC dX6_were_43 rfl ?_
          refine z_inv1 hM dX6_were_44 vl_RX6_250 rfl rfl rfl (Nat.le_of_ble_eq_true rfl) (Nat.le_of_ble_eq_true rfl) ?_
          refine m_isFullL (h := σ 31 0 (22 * l + 5)) (b := σ 31 0 (22 * l + 2)) (by omega) (hL.h31 (by omega) (by omega)) rfl rfl ?_ (fun full44 => ?_)
          · refine r_if_eq (tgt := 53) hC dX6_were_47 rfl (fun h11 => by omega) (fun h11 => ?_)
            refine r_ldc hC dX6_were_50 co_RX6_160 rfl ?_
            refine y_iret hK rfl dX6_were_52 ?_
            exact k _ _ (GL.rf (S := fun c x y => c = 31 ∧ x = 0 ∧ 154 ≤ y) hL)
          · refine r_if_eq (tgt := 53) hC dX6_were_47 rfl (fun h12 => ?_) (fun h12 => by omega)
            refine r_aload_n hC dX6_were_53 rfl ?_
            refine r_iload_n hC dX6_were_54 rfl ?_
            refine r_bipush hC dX6_were_55 rfl ?_
            refine z_inv2 hM dX6_were_57 vl_RX6_292 rfl rfl rfl (Nat.le_of_ble_eq_true rfl) (Nat.le_of_ble_eq_true rfl) ?_
            refine m_copyLane (by omega) (by omega) (by omega) ?_
            obtain ⟨ρ13, e_ρ13⟩ : ∃ ρ, ρ = cpy σ 31 0 (22 * l) 31 0 (22 * 7) 22 := ⟨_, rfl⟩
            rw [← e_ρ13]
            have g_ρ13 : GL (fun c x y => c = 31 ∧ x = 0 ∧ 154 ≤ y) σ ρ13 := by rw [e_ρ13]; exact cpy_tried hL (by omega) (by omega)
            have q0_ρ13 : ρ13 31 0 (22 * 7 + 5) = σ 31 0 (22 * l + 5) := by rw [e_ρ13]; exact cpy_at (by omega)
            have q1_ρ13 : ρ13 31 0 (22 * 7 + 2) = σ 31 0 (22 * l + 2) := by rw [e_ρ13]; exact cpy_at (by omega)
            have q2_ρ13 : ρ13 31 0 (22 * 7 + 3) = σ 31 0 (22 * l + 3) := by rw [e_ρ13]; exact cpy_at (by omega)
            refine r_aload_n hC dX6_were_60 rfl ?_
            refine r_bipush hC dX6_were_61 rfl ?_
            refine r_iload_n hC dX6_were_63 rfl ?_
            refine r_iload_n hC dX6_were_64 rfl ?_
            refine z_inv3 hM dX6_were_65 vl_RX6_253 rfl rfl rfl (Nat.le_of_ble_eq_true rfl) (Nat.le_of_ble_eq_true rfl) ?_
            have hrt := hL.2 l (by omega) (by omega)
            refine m_enter (l := 7) (h := σ 31 0 (22 * l + 5)) (b := σ 31 0 (22 * l + 2)) (z := σ 31 0 (22 * l + 3)) (by omega) (hL.h31 (by omega) (by omega)) q0_ρ13 q1_ρ13 q2_ρ13 hrt full44 (by unfold Rst at hrt; omega) (fun ρ14 a_ρ14 r_ρ14 _ => ?_)
            refine r_aload_n hC dX6_were_68 rfl ?_
            refine r_bipush hC dX6_were_69 rfl ?_
            refine r_iconst hC dX6_were_71 rfl ?_
            refine r_aload_n hC dX6_were_72 rfl ?_
            refine r_bipush hC dX6_were_73 rfl ?_
            refine z_inv1 hM dX6_were_75 vl_RX6_116 rfl rfl rfl (Nat.le_of_ble_eq_true rfl) (Nat.le_of_ble_eq_true rfl) ?_
            refine m_heldOf (by omega) (fun v15 h_v15 t_v15 => ?_)
            refine r_iconst hC dX6_were_78 rfl ?_
            refine r_isubE hC ((v15 - 1)) dX6_were_79 (by omega) (by unfold inR; omega) ?_
            refine r_iload hC dX6_were_80 rfl ?_
            refine z_inv4 hM dX6_were_82 vl_RX6_243 rfl rfl rfl (Nat.le_of_ble_eq_true rfl) (Nat.le_of_ble_eq_true rfl) ?_
            refine m_comesFrom (by omega) (by omega) (by omega) (by omega) (fun v16 h_v16 => ?_)
            refine r_istore hC dX6_were_85 rfl ?_
            refine r_aload_n hC dX6_were_87 rfl ?_
            refine r_bipush hC dX6_were_88 rfl ?_
            refine r_iconst hC dX6_were_90 rfl ?_
            refine r_iconst hC dX6_were_91 rfl ?_
            refine z_inv3 hM dX6_were_92 vl_RX6_173 rfl rfl rfl (Nat.le_of_ble_eq_true rfl) (Nat.le_of_ble_eq_true rfl) ?_
            refine m_set70 ?_
            refine r_iload hC dX6_were_95 rfl ?_
            refine y_iret hK rfl dX6_were_97 ?_
            exact k _ _ (GL.put31 (l := 7) (g_ρ13) (by first | omega | (simp; omega)) a_ρ14 (by rw [q1_ρ13, q2_ρ13]; exact r_ρ14))
      · refine r_if_eq (tgt := 50) hC dX6_were_30 rfl (fun h17 => ?_) (fun h17 => by omega)
        refine r_ldc hC dX6_were_50 co_RX6_160 rfl ?_
        refine y_iret hK rfl dX6_were_52 ?_
        exact k _ _ (GL.rf (S := fun c x y => c = 31 ∧ x = 0 ∧ 154 ≤ y) hL)
    · refine r_if_eq (tgt := 50) hC dX6_were_17 rfl (fun h18 => ?_) (fun h18 => by omega)
      refine r_ldc hC dX6_were_50 co_RX6_160 rfl ?_
      refine y_iret hK rfl dX6_were_52 ?_
      exact k _ _ (GL.rf (S := fun c x y => c = 31 ∧ x = 0 ∧ 154 ≤ y) hL)
  · refine r_if_eq (tgt := 50) hC dX6_were_7 rfl (fun h19 => ?_) (fun h19 => by omega)
    refine r_ldc hC dX6_were_50 co_RX6_160 rfl ?_
    refine y_iret hK rfl dX6_were_52 ?_
    exact k _ _ (GL.rf (S := fun c x y => c = 31 ∧ x = 0 ∧ 154 ≤ y) hL)
theorem m_were {d : Nat} {P : Option Vl → Mm → Prop} {σ : Mm} {l t v w : Int} (k : ∀ r : Int, P (some (vI r)) σ) : WT (false, false, false) (d + 10) 241 [vR 30 0, vI l, vI t, vI v, vI w] σ P := by
  refine WT_loose (true, false, false) (fun h => by cases h) (fun h => h) (fun c j q => ?_) (fun ρ hL hF hT hO => ?_)
  · rcases q with q | q | q | q
    · exact Or.inl q
    · cases q.1
    · cases q.1
    · exact Or.inr (Or.inr (Or.inr q))
  · refine m_were_S (hL rfl) (fun r ρ2 h2 => ⟨σ, k r, fun _ => Or.inr h2.2, fun _ => Or.inl rfl, fun c i j q => ?_⟩)
    rw [h2.1 c i j ?_]
    · exact hT c i j q
    · rintro ⟨rfl, rfl, h5⟩
      rcases q with q | q | q | q
      · simp only [Tb] at q; omega
      · cases q.1
      · cases q.1
      · cases q.1
theorem m_cost_S {d : Nat} {P : Option Vl → Mm → Prop} {σ : Mm} {l m w : Int} (hL : InL σ)  (k : ∀ (r : Int) (ρ : Mm), GL (fun c x y => c = 31 ∧ x = 0 ∧ 154 ≤ y) σ ρ → P (some (vI r)) ρ) : WT (true, false, false) (d + 8) 242 [vR 30 0, vI l, vI m, vI w] σ P := by
  refine WT_in fun K hK => ?_
  have hK : StpY (true, false, false) cX6_cost RX6 (some .int) (WT (true, false, false) (d + 7)) P K := hK
  have hM := hK.1
  have hC := hK.1.1
  show K 0 [some (vR 30 0), some (vI l), some (vI m), some (vI w), none, none, none, none] [] σ
  refine r_rngz hC (fun g0 => ?_)
  have r_l : -2147483648 ≤ l ∧ l ≤ 2147483647 := inR_le (g0 (vI l) (by simp))
  have r_m : -2147483648 ≤ m ∧ m ≤ 2147483647 := inR_le (g0 (vI m) (by simp))
  have r_w : -2147483648 ≤ w ∧ w ≤ 2147483647 := inR_le (g0 (vI w) (by simp))
  refine r_aload_n hC dX6_cost_0 rfl ?_
  refine r_iload_n hC dX6_cost_1 rfl ?_
  refine z_inv1 hM dX6_cost_2 vl_RX6_124 rfl rfl rfl (Nat.le_of_ble_eq_true rfl) (Nat.le_of_ble_eq_true rfl) ?_
  refine m_isLane (fun h1 => ?_) ?_
  · refine r_if_eq (tgt := 28) hC dX6_cost_5 rfl (fun h2 => by omega) (fun h2 => ?_)
    refine r_iload_n hC dX6_cost_8 rfl ?_
    refine r_iconst hC dX6_cost_9 rfl ?_
    refine r_sipush hC dX6_cost_10 rfl ?_
    refine z_ins3 hM dX6_cost_13 tl_RX6_76 rfl (Nat.le_of_ble_eq_true rfl) (Nat.le_of_ble_eq_true rfl) ?_
    refine m_isIn (fun h4 => ?_) (fun h4 => ?_)
    · refine r_if_eq (tgt := 28) hC dX6_cost_16 rfl (fun h5 => by omega) (fun h5 => ?_)
      refine r_iload_n hC dX6_cost_19 rfl ?_
      refine r_iconst hC dX6_cost_20 rfl ?_
      refine r_iconst hC dX6_cost_21 rfl ?_
      refine z_ins3 hM dX6_cost_22 tl_RX6_76 rfl (Nat.le_of_ble_eq_true rfl) (Nat.le_of_ble_eq_true rfl) ?_
      refine m_isIn (fun h7 => ?_) (fun h7 => ?_)
      · refine r_if_ne (tgt := 30) hC dX6_cost_25 rfl (fun h8 => ?_) (fun h8 => by omega)
        refine r_aload_n hC dX6_cost_30 rfl ?_
        refine r_iload_n hC dX6_cost_31 rfl ?_
        refine r_bipush hC dX6_cost_32 rfl ?_
        refine z_inv2 hM dX6_cost_34 vl_RX6_292 rfl rfl rfl (Nat.le_of_ble_eq_true rfl) (Nat.le_of_ble_eq_true rfl) ?_
        refine m_copyLane (by omega) (by omega) (by omega) ?_
        obtain ⟨ρ9, e_ρ9⟩ : ∃ ρ, ρ = cpy σ 31 0 (22 * l) 31 0 (22 * 7) 22 := ⟨_, rfl⟩
        rw [← e_ρ9]
        have g_ρ9 : GL (fun c x y => c = 31 ∧ x = 0 ∧ 154 ≤ y) σ ρ9 := by rw [e_ρ9]; exact cpy_tried hL (by omega) (by omega)
        have q0_ρ9 : ρ9 31 0 (22 * 7 + 5) = σ 31 0 (22 * l + 5) := by rw [e_ρ9]; exact cpy_at (by omega)
        have q1_ρ9 : ρ9 31 0 (22 * 7 + 2) = σ 31 0 (22 * l + 2) := by rw [e_ρ9]; exact cpy_at (by omega)
        have q2_ρ9 : ρ9 31 0 (22 * 7 + 3) = σ 31 0 (22 * l + 3) := by rw [e_ρ9]; exact cpy_at (by omega)
        refine r_iconst hC dX6_cost_37 rfl ?_
        refine r_istore hC dX6_cost_38 rfl ?_
        refine r_iconst hC dX6_cost_40 rfl ?_
        refine r_istore hC dX6_cost_41 rfl ?_
        refine r_iconst hC dX6_cost_43 rfl ?_
        refine r_istore hC dX6_cost_44 rfl ?_
        have L46 : ∀ (n46 : Nat) (w10 w11 w12 : Int), -2147483648 ≤ w10 ∧ w10 ≤ 2147483647 → 0 ≤ w11 ∧ w11 ≤ 200 → -2147483648 ≤ w12 ∧ w12 ≤ 2147483647 → 200 - w11 < (n46 : Int) → K 46 [some (vR 30 0), some (vI l), some (vI m), some (vI w), some (vI w10), some (vI w12), some (vI w11), none] [] ρ9 := by
          intro n46
          induction n46 with
          | zero => intro w10 w11 w12  f_w10 f_w11 f_w12  hm ; omega
          | succ n46 ih46 =>
            intro w10 w11 w12  f_w10 f_w11 f_w12  hm46 
            refine r_iload hC dX6_cost_46 rfl ?_
            refine r_iload_n hC dX6_cost_48 rfl ?_
            refine r_icmp_ge (tgt := 129) hC dX6_cost_49 rfl (fun h13 => ?_) (fun h13 => ?_)
            · refine r_aload_n hC dX6_cost_129 rfl ?_
              refine r_bipush hC dX6_cost_130 rfl ?_
              refine r_iconst hC dX6_cost_132 rfl ?_
              refine r_iconst hC dX6_cost_133 rfl ?_
              refine z_inv3 hM dX6_cost_134 vl_RX6_173 rfl rfl rfl (Nat.le_of_ble_eq_true rfl) (Nat.le_of_ble_eq_true rfl) ?_
              refine m_set70 ?_
              refine r_iload_n hC dX6_cost_137 rfl ?_
              refine r_if_ne (tgt := 146) hC dX6_cost_138 rfl (fun h14 => ?_) (fun h14 => ?_)
              · refine r_iload hC dX6_cost_146 rfl ?_
                refine y_iret hK rfl dX6_cost_148 ?_
                exact k _ _ (g_ρ9)
              · refine r_iload hC dX6_cost_141 rfl ?_
                refine r_goto (tgt := 148) hC dX6_cost_143 rfl ?_
                refine y_iret hK rfl dX6_cost_148 ?_
                exact k _ _ (g_ρ9)
            · refine r_aload_n hC dX6_cost_52 rfl ?_
              refine r_bipush hC dX6_cost_53 rfl ?_
              refine r_bipush hC dX6_cost_55 rfl ?_
              refine z_inv2 hM dX6_cost_57 vl_RX6_80 rfl rfl rfl (Nat.le_of_ble_eq_true rfl) (Nat.le_of_ble_eq_true rfl) ?_
              refine m_of (by omega) (by omega) (fun v15 h_v15 h5_v15 h0_v15 t_v15 => ?_)
              refine r_if_le (tgt := 67) hC dX6_cost_60 rfl (fun h16 => ?_) (fun h16 => ?_)
              · refine r_iconst hC dX6_cost_67 rfl ?_
                refine r_istore hC dX6_cost_68 rfl ?_
                refine r_aload_n hC dX6_cost_70 rfl ?_
                refine r_bipush hC dX6_cost_71 rfl ?_
                refine r_bipush hC dX6_cost_73 rfl ?_
                refine r_iconst hC dX6_cost_75 rfl ?_
                refine z_inv3 hM dX6_cost_76 vl_RX6_188 rfl rfl rfl (Nat.le_of_ble_eq_true rfl) (Nat.le_of_ble_eq_true rfl) ?_
                refine m_more (by omega) (by omega) (by omega) ?_
                refine r_aload_n hC dX6_cost_79 rfl ?_
                refine r_bipush hC dX6_cost_80 rfl ?_
                refine r_iload hC dX6_cost_82 rfl ?_
                refine z_inv2 hM dX6_cost_84 vl_RX6_221 rfl rfl rfl (Nat.le_of_ble_eq_true rfl) (Nat.le_of_ble_eq_true rfl) ?_
                refine m_endMove (by omega) ?_
                refine r_iload hC dX6_cost_87 rfl ?_
                refine r_aload_n hC dX6_cost_89 rfl ?_
                refine r_bipush hC dX6_cost_90 rfl ?_
                refine r_bipush hC dX6_cost_92 rfl ?_
                refine z_inv2 hM dX6_cost_94 vl_RX6_80 rfl rfl rfl (Nat.le_of_ble_eq_true rfl) (Nat.le_of_ble_eq_true rfl) ?_
                refine m_of (by omega) (by omega) (fun v17 h_v17 h5_v17 h0_v17 t_v17 => ?_)
                refine r_iaddG hC dX6_cost_97 (fun v18 h_v18 => ?_)
                refine r_istore hC dX6_cost_98 rfl ?_
                refine r_aload_n hC dX6_cost_100 rfl ?_
                refine r_bipush hC dX6_cost_101 rfl ?_
                refine r_bipush hC dX6_cost_103 rfl ?_
                refine z_inv2 hM dX6_cost_105 vl_RX6_80 rfl rfl rfl (Nat.le_of_ble_eq_true rfl) (Nat.le_of_ble_eq_true rfl) ?_
                refine m_of (by omega) (by omega) (fun v19 h_v19 h5_v19 h0_v19 t_v19 => ?_)
                refine r_iload hC dX6_cost_108 rfl ?_
                refine r_icmp_le (tgt := 123) hC dX6_cost_110 rfl (fun h20 => ?_) (fun h20 => ?_)
                · refine r_iincE hC ((w11 + 1)) dX6_cost_123 rfl rfl (by omega) (by unfold inR; omega) ?_
                  refine r_goto (tgt := 46) hC dX6_cost_126 rfl ?_
                  refine r_forget hC (ls2 := [some (vR 30 0), some (vI l), some (vI m), some (vI w), some (vI v18), some (vI w12), some (vI (w11 + 1)), none]) (lsub_some (lsub_some (lsub_some (lsub_some (lsub_some (lsub_some (lsub_some (lsub_none lsub_nil)))))))) ?_
                  exact ih46 (v18) ((w11 + 1)) (w12)  (by omega) (by omega) (by omega)  (by omega) 
                · refine r_aload_n hC dX6_cost_113 rfl ?_
                  refine r_bipush hC dX6_cost_114 rfl ?_
                  refine r_bipush hC dX6_cost_116 rfl ?_
                  refine z_inv2 hM dX6_cost_118 vl_RX6_80 rfl rfl rfl (Nat.le_of_ble_eq_true rfl) (Nat.le_of_ble_eq_true rfl) ?_
                  refine m_of (by omega) (by omega) (fun v21 h_v21 h5_v21 h0_v21 t_v21 => ?_)
                  refine r_istore hC dX6_cost_121 rfl ?_
                  refine r_iincE hC ((w11 + 1)) dX6_cost_123 rfl rfl (by omega) (by unfold inR; omega) ?_
                  refine r_goto (tgt := 46) hC dX6_cost_126 rfl ?_
                  refine r_forget hC (ls2 := [some (vR 30 0), some (vI l), some (vI m), some (vI w), some (vI v18), some (vI v21), some (vI (w11 + 1)), none]) (lsub_some (lsub_some (lsub_some (lsub_some (lsub_some (lsub_some (lsub_some (lsub_none lsub_nil)))))))) ?_
                  exact ih46 (v18) ((w11 + 1)) (v21)  (by omega) (by omega) (by omega)  (by omega) 
              · refine r_iconst hC dX6_cost_63 rfl ?_
                refine r_goto (tgt := 68) hC dX6_cost_64 rfl ?_
                refine r_istore hC dX6_cost_68 rfl ?_
                refine r_aload_n hC dX6_cost_70 rfl ?_
                refine r_bipush hC dX6_cost_71 rfl ?_
                refine r_bipush hC dX6_cost_73 rfl ?_
                refine r_iconst hC dX6_cost_75 rfl ?_
                refine z_inv3 hM dX6_cost_76 vl_RX6_188 rfl rfl rfl (Nat.le_of_ble_eq_true rfl) (Nat.le_of_ble_eq_true rfl) ?_
                refine m_more (by omega) (by omega) (by omega) ?_
                refine r_aload_n hC dX6_cost_79 rfl ?_
                refine r_bipush hC dX6_cost_80 rfl ?_
                refine r_iload hC dX6_cost_82 rfl ?_
                refine z_inv2 hM dX6_cost_84 vl_RX6_221 rfl rfl rfl (Nat.le_of_ble_eq_true rfl) (Nat.le_of_ble_eq_true rfl) ?_
                refine m_endMove (by omega) ?_
                refine r_iload hC dX6_cost_87 rfl ?_
                refine r_aload_n hC dX6_cost_89 rfl ?_
                refine r_bipush hC dX6_cost_90 rfl ?_
                refine r_bipush hC dX6_cost_92 rfl ?_
                refine z_inv2 hM dX6_cost_94 vl_RX6_80 rfl rfl rfl (Nat.le_of_ble_eq_true rfl) (Nat.le_of_ble_eq_true rfl) ?_
                refine m_of (by omega) (by omega) (fun v22 h_v22 h5_v22 h0_v22 t_v22 => ?_)
                refine r_iaddG hC dX6_cost_97 (fun v23 h_v23 => ?_)
                refine r_istore hC dX6_cost_98 rfl ?_
                refine r_aload_n hC dX6_cost_100 rfl ?_
                refine r_bipush hC dX6_cost_101 rfl ?_
                refine r_bipush hC dX6_cost_103 rfl ?_
                refine z_inv2 hM dX6_cost_105 vl_RX6_80 rfl rfl rfl (Nat.le_of_ble_eq_true rfl) (Nat.le_of_ble_eq_true rfl) ?_
                refine m_of (by omega) (by omega) (fun v24 h_v24 h5_v24 h0_v24 t_v24 => ?_)
                refine r_iload hC dX6_cost_108 rfl ?_
                refine r_icmp_le (tgt := 123) hC dX6_cost_110 rfl (fun h25 => ?_) (fun h25 => ?_)
                · refine r_iincE hC ((w11 + 1)) dX6_cost_123 rfl rfl (by omega) (by unfold inR; omega) ?_
                  refine r_goto (tgt := 46) hC dX6_cost_126 rfl ?_
                  refine r_forget hC (ls2 := [some (vR 30 0), some (vI l), some (vI m), some (vI w), some (vI v23), some (vI w12), some (vI (w11 + 1)), none]) (lsub_some (lsub_some (lsub_some (lsub_some (lsub_some (lsub_some (lsub_some (lsub_none lsub_nil)))))))) ?_
                  exact ih46 (v23) ((w11 + 1)) (w12)  (by omega) (by omega) (by omega)  (by omega) 
                · refine r_aload_n hC dX6_cost_113 rfl ?_
                  refine r_bipush hC dX6_cost_114 rfl ?_
                  refine r_bipush hC dX6_cost_116 rfl ?_
                  refine z_inv2 hM dX6_cost_118 vl_RX6_80 rfl rfl rfl (Nat.le_of_ble_eq_true rfl) (Nat.le_of_ble_eq_true rfl) ?_
                  refine m_of (by omega) (by omega) (fun v26 h_v26 h5_v26 h0_v26 t_v26 => ?_)
                  refine r_istore hC dX6_cost_121 rfl ?_
                  refine r_iincE hC ((w11 + 1)) dX6_cost_123 rfl rfl (by omega) (by unfold inR; omega) ?_
                  refine r_goto (tgt := 46) hC dX6_cost_126 rfl ?_
                  refine r_forget hC (ls2 := [some (vR 30 0), some (vI l), some (vI m), some (vI w), some (vI v23), some (vI v26), some (vI (w11 + 1)), none]) (lsub_some (lsub_some (lsub_some (lsub_some (lsub_some (lsub_some (lsub_some (lsub_none lsub_nil)))))))) ?_
                  exact ih46 (v23) ((w11 + 1)) (v26)  (by omega) (by omega) (by omega)  (by omega) 
        exact L46 202 (0) (0) (0)  (by omega) (by omega) (by omega)  (by omega) 
      · refine r_if_ne (tgt := 30) hC dX6_cost_25 rfl (fun h27 => by omega) (fun h27 => ?_)
        refine r_iconst hC dX6_cost_28 rfl ?_
        refine y_iret hK rfl dX6_cost_29 ?_
        exact k _ _ (GL.rf (S := fun c x y => c = 31 ∧ x = 0 ∧ 154 ≤ y) hL)
    · refine r_if_eq (tgt := 28) hC dX6_cost_16 rfl (fun h28 => ?_) (fun h28 => by omega)
      refine r_iconst hC dX6_cost_28 rfl ?_
      refine y_iret hK rfl dX6_cost_29 ?_
      exact k _ _ (GL.rf (S := fun c x y => c = 31 ∧ x = 0 ∧ 154 ≤ y) hL)
  · refine r_if_eq (tgt := 28) hC dX6_cost_5 rfl (fun h29 => ?_) (fun h29 => by omega)
    refine r_iconst hC dX6_cost_28 rfl ?_
    refine y_iret hK rfl dX6_cost_29 ?_
    exact k _ _ (GL.rf (S := fun c x y => c = 31 ∧ x = 0 ∧ 154 ≤ y) hL)
theorem m_cost {d : Nat} {P : Option Vl → Mm → Prop} {σ : Mm} {l m w : Int} (k : ∀ r : Int, P (some (vI r)) σ) : WT (false, false, false) (d + 8) 242 [vR 30 0, vI l, vI m, vI w] σ P := by
  refine WT_loose (true, false, false) (fun h => by cases h) (fun h => h) (fun c j q => ?_) (fun ρ hL hF hT hO => ?_)
  · rcases q with q | q | q | q
    · exact Or.inl q
    · cases q.1
    · cases q.1
    · exact Or.inr (Or.inr (Or.inr q))
  · refine m_cost_S (hL rfl) (fun r ρ2 h2 => ⟨σ, k r, fun _ => Or.inr h2.2, fun _ => Or.inl rfl, fun c i j q => ?_⟩)
    rw [h2.1 c i j ?_]
    · exact hT c i j q
    · rintro ⟨rfl, rfl, h5⟩
      rcases q with q | q | q | q
      · simp only [Tb] at q; omega
      · cases q.1
      · cases q.1
      · cases q.1
