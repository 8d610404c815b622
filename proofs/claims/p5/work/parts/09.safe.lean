-- the fold's steps
def FS (σ ρ : Mm) : Prop := ∀ (c : Nat) (i j : Int), ¬ (c = 17 ∧ i = 0 ∧ j = 0) → ρ c i j = σ c i j
theorem FS.rf {σ : Mm} : FS σ σ := fun _ _ _ _ => rfl
theorem FS.trans {σ ρ τ : Mm} (h : FS σ ρ) (g : FS ρ τ) : FS σ τ := fun c i j q => (g c i j q).trans (h c i j q)
theorem z_iastF {e : Ev} {cc : ByteArray} {own : String} {Cal : Nat → List Vl → Mm → (Option Vl → Mm → Prop) → Prop} {K : Nat → Lc → List Vl → Mm → Prop} (hK : StpZ e cc own Cal K) (he : e.2.1 = true) {pc : Nat} {ls : Lc} {st : List Vl} {σ : Mm} {j a : Int} (hd : decode cc pc = .ok (.iastore, 1)) (h0 : 0 ≤ j) (h1 : j < 7) (k_ : ∀ ρ : Mm, FS σ ρ → K (pc + 1) ls st ρ) : K pc ls (vI a :: vI j :: vR 17 0 :: st) σ := by
  by_cases hj : j = 0
  · subst hj
    exact z_iastT hK hd rfl h0 h1 ⟨Or.inr (by simp [DL]), Or.inl he⟩ (by simp [Okv]) (k_ _ (fun c i j h => mu_ne h))
  · exact z_iastU hK hd rfl h0 h1 ⟨by simp [Tb], by simp [DL], hj, Or.inr (by simp [DR])⟩ (by simp [Okv]) (k_ _ FS.rf)
theorem s_floorMod {e : Ev} {d : Nat} {P : Option Vl → Mm → Prop} {σ : Mm} {a b : Int} (b_b : 1 ≤ b ∧ b ≤ 1000)  (k : ∀ r : Int, 0 ≤ r ∧ r ≤ b - 1 → P (some (vI r)) σ) : WT e (d + 1) 262 [vI a, vI b] σ P := by
  refine WT_in fun K hK => ?_
  have hK : StpY e cJ9_floorMod_7cf53 RJ9 (some .int) (WT e (d + 0)) P K := hK
  have hM := hK.1
  have hC := hK.1.1
  show K 0 [some (vI a), some (vI b), none] [] σ
  refine r_rngz hC (fun g0 => ?_)
  have r_a : -2147483648 ≤ a ∧ a ≤ 2147483647 := inR_le (g0 (vI a) (by simp))
  refine r_iload_n hC dJ9_floorMod_7cf53_0 rfl ?_
  refine r_iload_n hC dJ9_floorMod_7cf53_1 rfl ?_
  refine r_iremG hC dJ9_floorMod_7cf53_2 (by omega) (fun v1 h_v1 p_v1 m_v1 => ?_)
  refine r_istore_n hC dJ9_floorMod_7cf53_3 rfl ?_
  refine r_iload_n hC dJ9_floorMod_7cf53_4 rfl ?_
  refine r_iload_n hC dJ9_floorMod_7cf53_5 rfl ?_
  refine r_ixorS hC dJ9_floorMod_7cf53_6 (by omega) (by omega) (fun v2 h_v2 s_v2 => ?_)
  refine r_if_ge (tgt := 18) hC dJ9_floorMod_7cf53_7 rfl (fun h3 => ?_) (fun h3 => ?_)
  · refine r_iload_n hC dJ9_floorMod_7cf53_18 rfl ?_
    refine y_iret hK rfl dJ9_floorMod_7cf53_19 ?_
    exact k _ (by omega)
  · refine r_iload_n hC dJ9_floorMod_7cf53_10 rfl ?_
    refine r_if_eq (tgt := 18) hC dJ9_floorMod_7cf53_11 rfl (fun h4 => ?_) (fun h4 => ?_)
    · refine r_iload_n hC dJ9_floorMod_7cf53_18 rfl ?_
      refine y_iret hK rfl dJ9_floorMod_7cf53_19 ?_
      exact k _ (by omega)
    · refine r_iload_n hC dJ9_floorMod_7cf53_14 rfl ?_
      refine r_iload_n hC dJ9_floorMod_7cf53_15 rfl ?_
      refine r_iaddE hC ((v1 + b)) dJ9_floorMod_7cf53_16 (by omega) (by unfold inR; omega) ?_
      refine y_iret hK rfl dJ9_floorMod_7cf53_17 ?_
      exact k _ (by omega)
theorem s_addGreatest {ea eb : Bool} {d : Nat} {P : Option Vl → Mm → Prop} {σ : Mm} {v : Int} (b_v : -1000 ≤ v ∧ v ≤ 1000)  (k : ∀ ρ : Mm, FS σ ρ → P none ρ) : WT (ea, true, eb) (d + 1) 15 [vR 14 0, vI v] σ P := by
  refine WT_in fun K hK => ?_
  have hK : StpY (ea, true, eb) cX1_addGreatest RX1 (none) (WT (ea, true, eb) (d + 0)) P K := hK
  have hM := hK.1
  have hC := hK.1.1
  show K 0 [some (vR 14 0), some (vI v)] [] σ
  refine r_aload_n hC dX1_addGreatest_0 rfl ?_
  refine z_getI (jz := 6) hM dX1_addGreatest_1 fl_RX1_34 rfl rfl rfl (fun v1 h_v1 o_v1 t_v1 => ?_)
  have J64_2 : ∀ (ρ4 : Mm), FS σ ρ4 → K 64 [some (vR 14 0), some (vI v)] [] ρ4 := by
    intro  ρ4  g_ρ4
    refine r_aload_n hC dX1_addGreatest_64 rfl ?_
    refine z_getR hM dX1_addGreatest_65 fl_RX1_24 rfl rfl (vld_of (n := 1) rfl (by omega) (by omega)) ?_
    refine r_iconst hC dX1_addGreatest_68 rfl ?_
    refine r_aload_n hC dX1_addGreatest_69 rfl ?_
    refine z_getI (jz := 6) hM dX1_addGreatest_70 fl_RX1_34 rfl rfl rfl (fun v5 h_v5 o_v5 t_v5 => ?_)
    refine r_iconst hC dX1_addGreatest_73 rfl ?_
    refine r_iaddG hC dX1_addGreatest_74 (fun v6 h_v6 => ?_)
    refine z_iastF hM rfl dX1_addGreatest_75 (by omega) (by omega) (fun ρ7 g_ρ7 => ?_)
    refine y_vret hK rfl dX1_addGreatest_76 ?_
    exact k _ (FS.trans (g_ρ4) g_ρ7)
  refine r_if_eq (tgt := 17) hC dX1_addGreatest_4 rfl (fun h2 => ?_) (fun h2 => ?_)
  · refine r_aload_n hC dX1_addGreatest_17 rfl ?_
    refine z_getR hM dX1_addGreatest_18 fl_RX1_24 rfl rfl (vld_of (n := 1) rfl (by omega) (by omega)) ?_
    refine r_iconst hC dX1_addGreatest_21 rfl ?_
    refine r_iload_n hC dX1_addGreatest_22 rfl ?_
    refine z_iastF hM rfl dX1_addGreatest_23 (by omega) (by omega) (fun ρ8 g_ρ8 => ?_)
    refine r_aload_n hC dX1_addGreatest_24 rfl ?_
    refine z_getR hM dX1_addGreatest_25 fl_RX1_24 rfl rfl (vld_of (n := 1) rfl (by omega) (by omega)) ?_
    refine r_iconst hC dX1_addGreatest_28 rfl ?_
    refine r_iconst hC dX1_addGreatest_29 rfl ?_
    refine z_iastF hM rfl dX1_addGreatest_30 (by omega) (by omega) (fun ρ9 g_ρ9 => ?_)
    refine r_aload_n hC dX1_addGreatest_31 rfl ?_
    refine z_getR hM dX1_addGreatest_32 fl_RX1_24 rfl rfl (vld_of (n := 1) rfl (by omega) (by omega)) ?_
    refine r_iconst hC dX1_addGreatest_35 rfl ?_
    refine r_aload_n hC dX1_addGreatest_36 rfl ?_
    refine z_getI (jz := 6) hM dX1_addGreatest_37 fl_RX1_34 rfl rfl rfl (fun v10 h_v10 o_v10 t_v10 => ?_)
    refine z_iastF hM rfl dX1_addGreatest_40 (by omega) (by omega) (fun ρ11 g_ρ11 => ?_)
    refine r_goto (tgt := 64) hC dX1_addGreatest_41 rfl ?_
    exact J64_2  ρ11  (FS.trans (FS.trans (FS.trans (FS.rf) g_ρ8) g_ρ9) g_ρ11)
  · refine r_iload_n hC dX1_addGreatest_7 rfl ?_
    refine r_aload_n hC dX1_addGreatest_8 rfl ?_
    refine z_getR hM dX1_addGreatest_9 fl_RX1_24 rfl rfl (vld_of (n := 1) rfl (by omega) (by omega)) ?_
    refine r_iconst hC dX1_addGreatest_12 rfl ?_
    refine z_iald hM dX1_addGreatest_13 rfl (by omega) (by omega) (fun v12 h_v12 o_v12 t_v12 => ?_)
    refine r_icmp_le (tgt := 44) hC dX1_addGreatest_14 rfl (fun h13 => ?_) (fun h13 => ?_)
    · refine r_iload_n hC dX1_addGreatest_44 rfl ?_
      refine r_aload_n hC dX1_addGreatest_45 rfl ?_
      refine z_getR hM dX1_addGreatest_46 fl_RX1_24 rfl rfl (vld_of (n := 1) rfl (by omega) (by omega)) ?_
      refine r_iconst hC dX1_addGreatest_49 rfl ?_
      refine z_iald hM dX1_addGreatest_50 rfl (by omega) (by omega) (fun v14 h_v14 o_v14 t_v14 => ?_)
      refine r_icmp_ne (tgt := 64) hC dX1_addGreatest_51 rfl (fun h15 => ?_) (fun h15 => ?_)
      · exact J64_2  σ  (FS.rf)
      · refine r_aload_n hC dX1_addGreatest_54 rfl ?_
        refine z_getR hM dX1_addGreatest_55 fl_RX1_24 rfl rfl (vld_of (n := 1) rfl (by omega) (by omega)) ?_
        refine r_iconst hC dX1_addGreatest_58 rfl ?_
        refine r_dup2 hC dX1_addGreatest_59 rfl rfl ?_
        refine z_iald hM dX1_addGreatest_60 rfl (by omega) (by omega) (fun v16 h_v16 o_v16 t_v16 => ?_)
        refine r_iconst hC dX1_addGreatest_61 rfl ?_
        refine r_iaddG hC dX1_addGreatest_62 (fun v17 h_v17 => ?_)
        refine z_iastF hM rfl dX1_addGreatest_63 (by omega) (by omega) (fun ρ18 g_ρ18 => ?_)
        exact J64_2  ρ18  (FS.trans (FS.rf) g_ρ18)
    · refine r_aload_n hC dX1_addGreatest_17 rfl ?_
      refine z_getR hM dX1_addGreatest_18 fl_RX1_24 rfl rfl (vld_of (n := 1) rfl (by omega) (by omega)) ?_
      refine r_iconst hC dX1_addGreatest_21 rfl ?_
      refine r_iload_n hC dX1_addGreatest_22 rfl ?_
      refine z_iastF hM rfl dX1_addGreatest_23 (by omega) (by omega) (fun ρ19 g_ρ19 => ?_)
      refine r_aload_n hC dX1_addGreatest_24 rfl ?_
      refine z_getR hM dX1_addGreatest_25 fl_RX1_24 rfl rfl (vld_of (n := 1) rfl (by omega) (by omega)) ?_
      refine r_iconst hC dX1_addGreatest_28 rfl ?_
      refine r_iconst hC dX1_addGreatest_29 rfl ?_
      refine z_iastF hM rfl dX1_addGreatest_30 (by omega) (by omega) (fun ρ20 g_ρ20 => ?_)
      refine r_aload_n hC dX1_addGreatest_31 rfl ?_
      refine z_getR hM dX1_addGreatest_32 fl_RX1_24 rfl rfl (vld_of (n := 1) rfl (by omega) (by omega)) ?_
      refine r_iconst hC dX1_addGreatest_35 rfl ?_
      refine r_aload_n hC dX1_addGreatest_36 rfl ?_
      refine z_getI (jz := 6) hM dX1_addGreatest_37 fl_RX1_34 rfl rfl rfl (fun v21 h_v21 o_v21 t_v21 => ?_)
      refine z_iastF hM rfl dX1_addGreatest_40 (by omega) (by omega) (fun ρ22 g_ρ22 => ?_)
      refine r_goto (tgt := 64) hC dX1_addGreatest_41 rfl ?_
      exact J64_2  ρ22  (FS.trans (FS.trans (FS.trans (FS.rf) g_ρ19) g_ρ20) g_ρ22)
theorem s_addRun {ea eb : Bool} {d : Nat} {P : Option Vl → Mm → Prop} {σ : Mm} {v : Int} (b_v : -1000 ≤ v ∧ v ≤ 1000)  (k : ∀ ρ : Mm, FS σ ρ → P none ρ) : WT (ea, true, eb) (d + 2) 18 [vR 14 0, vI v] σ P := by
  refine WT_in fun K hK => ?_
  have hK : StpY (ea, true, eb) cX1_addRun RX1 (none) (WT (ea, true, eb) (d + 1)) P K := hK
  have hM := hK.1
  have hC := hK.1.1
  show K 0 [some (vR 14 0), some (vI v), none] [] σ
  refine r_aload_n hC dX1_addRun_0 rfl ?_
  refine z_getI (jz := 6) hM dX1_addRun_1 fl_RX1_34 rfl rfl rfl (fun v1 h_v1 o_v1 t_v1 => ?_)
  have J12_3 : ∀ (w3 : Int), ∀ (ρ5 : Mm), 0 ≤ w3 ∧ w3 ≤ 1 → FS σ ρ5 → K 12 [some (vR 14 0), some (vI v), none] [vI w3] ρ5 := by
    intro w3 ρ5 f_w3 g_ρ5
    refine r_istore_n hC dX1_addRun_12 rfl ?_
    refine r_aload_n hC dX1_addRun_13 rfl ?_
    refine z_getR hM dX1_addRun_14 fl_RX1_24 rfl rfl (vld_of (n := 1) rfl (by omega) (by omega)) ?_
    refine r_iconst hC dX1_addRun_17 rfl ?_
    refine r_dup2 hC dX1_addRun_18 rfl rfl ?_
    refine z_iald hM dX1_addRun_19 rfl (by omega) (by omega) (fun v6 h_v6 o_v6 t_v6 => ?_)
    refine r_iload_n hC dX1_addRun_20 rfl ?_
    refine r_iaddG hC dX1_addRun_21 (fun v7 h_v7 => ?_)
    refine z_iastF hM rfl dX1_addRun_22 (by omega) (by omega) (fun ρ8 g_ρ8 => ?_)
    refine r_aload_n hC dX1_addRun_23 rfl ?_
    refine z_getR hM dX1_addRun_24 fl_RX1_24 rfl rfl (vld_of (n := 1) rfl (by omega) (by omega)) ?_
    refine r_iconst hC dX1_addRun_27 rfl ?_
    refine r_iload_n hC dX1_addRun_28 rfl ?_
    have J51_10 : ∀ (w10 : Int), ∀ (ρ12 : Mm), -2147483648 ≤ w10 ∧ w10 ≤ 2147483647 → FS σ ρ12 → K 51 [some (vR 14 0), some (vI v), some (vI w3)] [vI w10, vI 2, vR 17 0] ρ12 := by
      intro w10 ρ12 f_w10 g_ρ12
      refine z_iastF hM rfl dX1_addRun_51 (by omega) (by omega) (fun ρ13 g_ρ13 => ?_)
      refine r_aload_n hC dX1_addRun_52 rfl ?_
      refine z_getR hM dX1_addRun_53 fl_RX1_24 rfl rfl (vld_of (n := 1) rfl (by omega) (by omega)) ?_
      refine r_iconst hC dX1_addRun_56 rfl ?_
      refine r_iload_n hC dX1_addRun_57 rfl ?_
      have J77_15 : ∀ (w15 : Int), ∀ (ρ17 : Mm), -2147483648 ≤ w15 ∧ w15 ≤ 2147483647 → FS σ ρ17 → K 77 [some (vR 14 0), some (vI v), some (vI w3)] [vI w15, vI 3, vR 17 0] ρ17 := by
        intro w15 ρ17 f_w15 g_ρ17
        refine z_iastF hM rfl dX1_addRun_77 (by omega) (by omega) (fun ρ18 g_ρ18 => ?_)
        refine r_aload_n hC dX1_addRun_78 rfl ?_
        refine z_getR hM dX1_addRun_79 fl_RX1_24 rfl rfl (vld_of (n := 1) rfl (by omega) (by omega)) ?_
        refine r_iconst hC dX1_addRun_82 rfl ?_
        refine r_iload_n hC dX1_addRun_83 rfl ?_
        have J106_20 : ∀ (w20 : Int), ∀ (ρ22 : Mm), -2147483648 ≤ w20 ∧ w20 ≤ 2147483647 → FS σ ρ22 → K 106 [some (vR 14 0), some (vI v), some (vI w3)] [vI w20, vI 0, vR 17 0] ρ22 := by
          intro w20 ρ22 f_w20 g_ρ22
          refine z_iastF hM rfl dX1_addRun_106 (by omega) (by omega) (fun ρ23 g_ρ23 => ?_)
          refine y_vret hK rfl dX1_addRun_107 ?_
          exact k _ (FS.trans (g_ρ22) g_ρ23)
        refine r_if_eq (tgt := 91) hC dX1_addRun_84 rfl (fun h19 => ?_) (fun h19 => ?_)
        · refine r_aload_n hC dX1_addRun_91 rfl ?_
          refine z_getR hM dX1_addRun_92 fl_RX1_24 rfl rfl (vld_of (n := 1) rfl (by omega) (by omega)) ?_
          refine r_iconst hC dX1_addRun_95 rfl ?_
          refine z_iald hM dX1_addRun_96 rfl (by omega) (by omega) (fun v24 h_v24 o_v24 t_v24 => ?_)
          refine r_aload_n hC dX1_addRun_97 rfl ?_
          refine z_getR hM dX1_addRun_98 fl_RX1_24 rfl rfl (vld_of (n := 1) rfl (by omega) (by omega)) ?_
          refine r_iconst hC dX1_addRun_101 rfl ?_
          refine z_iald hM dX1_addRun_102 rfl (by omega) (by omega) (fun v25 h_v25 o_v25 t_v25 => ?_)
          refine z_ins2 hM dX1_addRun_103 tl_RX1_97 rfl (Nat.le_of_ble_eq_true rfl) (Nat.le_of_ble_eq_true rfl) ?_
          refine s_max (fun v26 h_v26 => ?_)
          exact J106_20 (v26) ρ18 (by omega) (FS.trans (g_ρ17) g_ρ18)
        · refine r_iload_n hC dX1_addRun_87 rfl ?_
          refine r_goto (tgt := 106) hC dX1_addRun_88 rfl ?_
          exact J106_20 (v) ρ18 (by omega) (FS.trans (g_ρ17) g_ρ18)
      refine r_if_eq (tgt := 65) hC dX1_addRun_58 rfl (fun h14 => ?_) (fun h14 => ?_)
      · refine r_aload_n hC dX1_addRun_65 rfl ?_
        refine z_getR hM dX1_addRun_66 fl_RX1_24 rfl rfl (vld_of (n := 1) rfl (by omega) (by omega)) ?_
        refine r_iconst hC dX1_addRun_69 rfl ?_
        refine z_iald hM dX1_addRun_70 rfl (by omega) (by omega) (fun v27 h_v27 o_v27 t_v27 => ?_)
        refine r_iload_n hC dX1_addRun_71 rfl ?_
        refine r_iaddG hC dX1_addRun_72 (fun v28 h_v28 => ?_)
        refine r_iload_n hC dX1_addRun_73 rfl ?_
        refine z_ins2 hM dX1_addRun_74 tl_RX1_97 rfl (Nat.le_of_ble_eq_true rfl) (Nat.le_of_ble_eq_true rfl) ?_
        refine s_max (fun v29 h_v29 => ?_)
        exact J77_15 (v29) ρ13 (by omega) (FS.trans (g_ρ12) g_ρ13)
      · refine r_iload_n hC dX1_addRun_61 rfl ?_
        refine r_goto (tgt := 77) hC dX1_addRun_62 rfl ?_
        exact J77_15 (v) ρ13 (by omega) (FS.trans (g_ρ12) g_ρ13)
    refine r_if_eq (tgt := 36) hC dX1_addRun_29 rfl (fun h9 => ?_) (fun h9 => ?_)
    · refine r_aload_n hC dX1_addRun_36 rfl ?_
      refine z_getR hM dX1_addRun_37 fl_RX1_24 rfl rfl (vld_of (n := 1) rfl (by omega) (by omega)) ?_
      refine r_iconst hC dX1_addRun_40 rfl ?_
      refine z_iald hM dX1_addRun_41 rfl (by omega) (by omega) (fun v30 h_v30 o_v30 t_v30 => ?_)
      refine r_aload_n hC dX1_addRun_42 rfl ?_
      refine z_getR hM dX1_addRun_43 fl_RX1_24 rfl rfl (vld_of (n := 1) rfl (by omega) (by omega)) ?_
      refine r_iconst hC dX1_addRun_46 rfl ?_
      refine z_iald hM dX1_addRun_47 rfl (by omega) (by omega) (fun v31 h_v31 o_v31 t_v31 => ?_)
      refine z_ins2 hM dX1_addRun_48 tl_RX1_97 rfl (Nat.le_of_ble_eq_true rfl) (Nat.le_of_ble_eq_true rfl) ?_
      refine s_max (fun v32 h_v32 => ?_)
      exact J51_10 (v32) ρ8 (by omega) (FS.trans (g_ρ5) g_ρ8)
    · refine r_iload_n hC dX1_addRun_32 rfl ?_
      refine r_goto (tgt := 51) hC dX1_addRun_33 rfl ?_
      exact J51_10 (v) ρ8 (by omega) (FS.trans (g_ρ5) g_ρ8)
  refine r_if_ne (tgt := 11) hC dX1_addRun_4 rfl (fun h2 => ?_) (fun h2 => ?_)
  · refine r_iconst hC dX1_addRun_11 rfl ?_
    exact J12_3 (0) σ (by omega) (FS.rf)
  · refine r_iconst hC dX1_addRun_7 rfl ?_
    refine r_goto (tgt := 12) hC dX1_addRun_8 rfl ?_
    exact J12_3 (1) σ (by omega) (FS.rf)
theorem s_addNest {ea eb : Bool} {d : Nat} {P : Option Vl → Mm → Prop} {σ : Mm} {v : Int} (b_v : -1000 ≤ v ∧ v ≤ 1000)  (k : ∀ ρ : Mm, FS σ ρ → P none ρ) : WT (ea, true, eb) (d + 2) 20 [vR 14 0, vI v] σ P := by
  refine WT_in fun K hK => ?_
  have hK : StpY (ea, true, eb) cX1_addNest RX1 (none) (WT (ea, true, eb) (d + 1)) P K := hK
  have hM := hK.1
  have hC := hK.1.1
  show K 0 [some (vR 14 0), some (vI v)] [] σ
  refine r_iload_n hC dX1_addNest_0 rfl ?_
  have J59_1 : ∀ (ρ3 : Mm), FS σ ρ3 → K 59 [some (vR 14 0), some (vI v)] [] ρ3 := by
    intro  ρ3  g_ρ3
    refine r_aload_n hC dX1_addNest_59 rfl ?_
    refine z_getR hM dX1_addNest_60 fl_RX1_24 rfl rfl (vld_of (n := 1) rfl (by omega) (by omega)) ?_
    refine r_iconst hC dX1_addNest_63 rfl ?_
    refine r_aload_n hC dX1_addNest_64 rfl ?_
    refine z_getR hM dX1_addNest_65 fl_RX1_24 rfl rfl (vld_of (n := 1) rfl (by omega) (by omega)) ?_
    refine r_iconst hC dX1_addNest_68 rfl ?_
    refine z_iald hM dX1_addNest_69 rfl (by omega) (by omega) (fun v4 h_v4 o_v4 t_v4 => ?_)
    refine r_aload_n hC dX1_addNest_70 rfl ?_
    refine z_getR hM dX1_addNest_71 fl_RX1_24 rfl rfl (vld_of (n := 1) rfl (by omega) (by omega)) ?_
    refine r_iconst hC dX1_addNest_74 rfl ?_
    refine z_iald hM dX1_addNest_75 rfl (by omega) (by omega) (fun v5 h_v5 o_v5 t_v5 => ?_)
    refine r_aload_n hC dX1_addNest_76 rfl ?_
    refine z_getR hM dX1_addNest_77 fl_RX1_24 rfl rfl (vld_of (n := 1) rfl (by omega) (by omega)) ?_
    refine r_iconst hC dX1_addNest_80 rfl ?_
    refine z_iald hM dX1_addNest_81 rfl (by omega) (by omega) (fun v6 h_v6 o_v6 t_v6 => ?_)
    refine r_isubG hC dX1_addNest_82 (fun v7 h_v7 => ?_)
    refine z_ins2 hM dX1_addNest_83 tl_RX1_97 rfl (Nat.le_of_ble_eq_true rfl) (Nat.le_of_ble_eq_true rfl) ?_
    refine s_max (fun v8 h_v8 => ?_)
    refine z_iastF hM rfl dX1_addNest_86 (by omega) (by omega) (fun ρ9 g_ρ9 => ?_)
    refine y_vret hK rfl dX1_addNest_87 ?_
    exact k _ (FS.trans (g_ρ3) g_ρ9)
  refine r_if_lt (tgt := 17) hC dX1_addNest_1 rfl (fun h1 => ?_) (fun h1 => ?_)
  · refine r_aload_n hC dX1_addNest_17 rfl ?_
    refine z_getR hM dX1_addNest_18 fl_RX1_24 rfl rfl (vld_of (n := 1) rfl (by omega) (by omega)) ?_
    refine r_iconst hC dX1_addNest_21 rfl ?_
    refine z_iald hM dX1_addNest_22 rfl (by omega) (by omega) (fun v10 h_v10 o_v10 t_v10 => ?_)
    refine r_if_le (tgt := 49) hC dX1_addNest_23 rfl (fun h11 => ?_) (fun h11 => ?_)
    · refine r_aload_n hC dX1_addNest_49 rfl ?_
      refine z_getR hM dX1_addNest_50 fl_RX1_24 rfl rfl (vld_of (n := 1) rfl (by omega) (by omega)) ?_
      refine r_iconst hC dX1_addNest_53 rfl ?_
      refine r_dup2 hC dX1_addNest_54 rfl rfl ?_
      refine z_iald hM dX1_addNest_55 rfl (by omega) (by omega) (fun v12 h_v12 o_v12 t_v12 => ?_)
      refine r_iconst hC dX1_addNest_56 rfl ?_
      refine r_iaddG hC dX1_addNest_57 (fun v13 h_v13 => ?_)
      refine z_iastF hM rfl dX1_addNest_58 (by omega) (by omega) (fun ρ14 g_ρ14 => ?_)
      exact J59_1  ρ14  (FS.trans (FS.rf) g_ρ14)
    · refine r_aload_n hC dX1_addNest_26 rfl ?_
      refine z_getR hM dX1_addNest_27 fl_RX1_24 rfl rfl (vld_of (n := 1) rfl (by omega) (by omega)) ?_
      refine r_iconst hC dX1_addNest_30 rfl ?_
      refine r_dup2 hC dX1_addNest_31 rfl rfl ?_
      refine z_iald hM dX1_addNest_32 rfl (by omega) (by omega) (fun v15 h_v15 o_v15 t_v15 => ?_)
      refine r_iconst hC dX1_addNest_33 rfl ?_
      refine r_isubG hC dX1_addNest_34 (fun v16 h_v16 => ?_)
      refine z_iastF hM rfl dX1_addNest_35 (by omega) (by omega) (fun ρ17 g_ρ17 => ?_)
      refine r_aload_n hC dX1_addNest_36 rfl ?_
      refine z_getR hM dX1_addNest_37 fl_RX1_24 rfl rfl (vld_of (n := 1) rfl (by omega) (by omega)) ?_
      refine r_iconst hC dX1_addNest_40 rfl ?_
      refine r_dup2 hC dX1_addNest_41 rfl rfl ?_
      refine z_iald hM dX1_addNest_42 rfl (by omega) (by omega) (fun v18 h_v18 o_v18 t_v18 => ?_)
      refine r_iconst hC dX1_addNest_43 rfl ?_
      refine r_iaddG hC dX1_addNest_44 (fun v19 h_v19 => ?_)
      refine z_iastF hM rfl dX1_addNest_45 (by omega) (by omega) (fun ρ20 g_ρ20 => ?_)
      refine r_goto (tgt := 59) hC dX1_addNest_46 rfl ?_
      exact J59_1  ρ20  (FS.trans (FS.trans (FS.rf) g_ρ17) g_ρ20)
  · refine r_aload_n hC dX1_addNest_4 rfl ?_
    refine z_getR hM dX1_addNest_5 fl_RX1_24 rfl rfl (vld_of (n := 1) rfl (by omega) (by omega)) ?_
    refine r_iconst hC dX1_addNest_8 rfl ?_
    refine r_dup2 hC dX1_addNest_9 rfl rfl ?_
    refine z_iald hM dX1_addNest_10 rfl (by omega) (by omega) (fun v21 h_v21 o_v21 t_v21 => ?_)
    refine r_iconst hC dX1_addNest_11 rfl ?_
    refine r_iaddG hC dX1_addNest_12 (fun v22 h_v22 => ?_)
    refine z_iastF hM rfl dX1_addNest_13 (by omega) (by omega) (fun ρ23 g_ρ23 => ?_)
    refine r_goto (tgt := 59) hC dX1_addNest_14 rfl ?_
    exact J59_1  ρ23  (FS.trans (FS.rf) g_ρ23)
theorem s_addLike {ea eb : Bool} {d : Nat} {P : Option Vl → Mm → Prop} {σ : Mm} {v : Int} (b_v : -1000 ≤ v ∧ v ≤ 1000)  (k : ∀ ρ : Mm, FS σ ρ → P none ρ) : WT (ea, true, eb) (d + 1) 21 [vR 14 0, vI v] σ P := by
  refine WT_in fun K hK => ?_
  have hK : StpY (ea, true, eb) cX1_addLike RX1 (none) (WT (ea, true, eb) (d + 0)) P K := hK
  have hM := hK.1
  have hC := hK.1.1
  show K 0 [some (vR 14 0), some (vI v)] [] σ
  refine r_aload_n hC dX1_addLike_0 rfl ?_
  refine z_getI (jz := 6) hM dX1_addLike_1 fl_RX1_34 rfl rfl rfl (fun v1 h_v1 o_v1 t_v1 => ?_)
  have J48_2 : ∀ (ρ4 : Mm), FS σ ρ4 → K 48 [some (vR 14 0), some (vI v)] [] ρ4 := by
    intro  ρ4  g_ρ4
    refine r_aload_n hC dX1_addLike_48 rfl ?_
    refine z_getI (jz := 6) hM dX1_addLike_49 fl_RX1_34 rfl rfl rfl (fun v5 h_v5 o_v5 t_v5 => ?_)
    have J62_6 : ∀ (ρ8 : Mm), FS σ ρ8 → K 62 [some (vR 14 0), some (vI v)] [] ρ8 := by
      intro  ρ8  g_ρ8
      refine r_aload_n hC dX1_addLike_62 rfl ?_
      refine z_getR hM dX1_addLike_63 fl_RX1_24 rfl rfl (vld_of (n := 1) rfl (by omega) (by omega)) ?_
      refine r_iconst hC dX1_addLike_66 rfl ?_
      refine z_iald hM dX1_addLike_67 rfl (by omega) (by omega) (fun v9 h_v9 o_v9 t_v9 => ?_)
      refine r_iconst hC dX1_addLike_68 rfl ?_
      have J84_10 : ∀ (ρ12 : Mm), FS σ ρ12 → K 84 [some (vR 14 0), some (vI v)] [] ρ12 := by
        intro  ρ12  g_ρ12
        refine r_aload_n hC dX1_addLike_84 rfl ?_
        refine z_getR hM dX1_addLike_85 fl_RX1_24 rfl rfl (vld_of (n := 1) rfl (by omega) (by omega)) ?_
        refine r_iconst hC dX1_addLike_88 rfl ?_
        refine z_iald hM dX1_addLike_89 rfl (by omega) (by omega) (fun v13 h_v13 o_v13 t_v13 => ?_)
        refine r_aload_n hC dX1_addLike_90 rfl ?_
        refine z_getR hM dX1_addLike_91 fl_RX1_24 rfl rfl (vld_of (n := 1) rfl (by omega) (by omega)) ?_
        refine r_iconst hC dX1_addLike_94 rfl ?_
        refine z_iald hM dX1_addLike_95 rfl (by omega) (by omega) (fun v14 h_v14 o_v14 t_v14 => ?_)
        have J118_15 : ∀ (ρ17 : Mm), FS σ ρ17 → K 118 [some (vR 14 0), some (vI v)] [] ρ17 := by
          intro  ρ17  g_ρ17
          refine r_aload_n hC dX1_addLike_118 rfl ?_
          refine z_getR hM dX1_addLike_119 fl_RX1_24 rfl rfl (vld_of (n := 1) rfl (by omega) (by omega)) ?_
          refine r_bipush hC dX1_addLike_122 rfl ?_
          refine r_iload_n hC dX1_addLike_124 rfl ?_
          refine z_iastF hM rfl dX1_addLike_125 (by omega) (by omega) (fun ρ18 g_ρ18 => ?_)
          refine y_vret hK rfl dX1_addLike_126 ?_
          exact k _ (FS.trans (g_ρ17) g_ρ18)
        refine r_icmp_le (tgt := 118) hC dX1_addLike_96 rfl (fun h15 => ?_) (fun h15 => ?_)
        · exact J118_15  ρ12  (g_ρ12)
        · refine r_aload_n hC dX1_addLike_99 rfl ?_
          refine z_getR hM dX1_addLike_100 fl_RX1_24 rfl rfl (vld_of (n := 1) rfl (by omega) (by omega)) ?_
          refine r_iconst hC dX1_addLike_103 rfl ?_
          refine r_aload_n hC dX1_addLike_104 rfl ?_
          refine z_getR hM dX1_addLike_105 fl_RX1_24 rfl rfl (vld_of (n := 1) rfl (by omega) (by omega)) ?_
          refine r_iconst hC dX1_addLike_108 rfl ?_
          refine z_iald hM dX1_addLike_109 rfl (by omega) (by omega) (fun v19 h_v19 o_v19 t_v19 => ?_)
          refine z_iastF hM rfl dX1_addLike_110 (by omega) (by omega) (fun ρ20 g_ρ20 => ?_)
          refine r_aload_n hC dX1_addLike_111 rfl ?_
          refine z_getR hM dX1_addLike_112 fl_RX1_24 rfl rfl (vld_of (n := 1) rfl (by omega) (by omega)) ?_
          refine r_iconst hC dX1_addLike_115 rfl ?_
          refine r_iload_n hC dX1_addLike_116 rfl ?_
          refine z_iastF hM rfl dX1_addLike_117 (by omega) (by omega) (fun ρ21 g_ρ21 => ?_)
          exact J118_15  ρ21  (FS.trans (FS.trans (g_ρ12) g_ρ20) g_ρ21)
      refine r_icmp_ne (tgt := 84) hC dX1_addLike_69 rfl (fun h10 => ?_) (fun h10 => ?_)
      · exact J84_10  ρ8  (g_ρ8)
      · refine r_aload_n hC dX1_addLike_72 rfl ?_
        refine z_getR hM dX1_addLike_73 fl_RX1_24 rfl rfl (vld_of (n := 1) rfl (by omega) (by omega)) ?_
        refine r_iconst hC dX1_addLike_76 rfl ?_
        refine r_aload_n hC dX1_addLike_77 rfl ?_
        refine z_getR hM dX1_addLike_78 fl_RX1_24 rfl rfl (vld_of (n := 1) rfl (by omega) (by omega)) ?_
        refine r_iconst hC dX1_addLike_81 rfl ?_
        refine z_iald hM dX1_addLike_82 rfl (by omega) (by omega) (fun v22 h_v22 o_v22 t_v22 => ?_)
        refine z_iastF hM rfl dX1_addLike_83 (by omega) (by omega) (fun ρ23 g_ρ23 => ?_)
        exact J84_10  ρ23  (FS.trans (g_ρ8) g_ρ23)
    refine r_if_ne (tgt := 62) hC dX1_addLike_52 rfl (fun h6 => ?_) (fun h6 => ?_)
    · exact J62_6  ρ4  (g_ρ4)
    · refine r_aload_n hC dX1_addLike_55 rfl ?_
      refine z_getR hM dX1_addLike_56 fl_RX1_24 rfl rfl (vld_of (n := 1) rfl (by omega) (by omega)) ?_
      refine r_iconst hC dX1_addLike_59 rfl ?_
      refine r_iload_n hC dX1_addLike_60 rfl ?_
      refine z_iastF hM rfl dX1_addLike_61 (by omega) (by omega) (fun ρ24 g_ρ24 => ?_)
      exact J62_6  ρ24  (FS.trans (g_ρ4) g_ρ24)
  refine r_if_le (tgt := 31) hC dX1_addLike_4 rfl (fun h2 => ?_) (fun h2 => ?_)
  · refine r_aload_n hC dX1_addLike_31 rfl ?_
    refine z_getR hM dX1_addLike_32 fl_RX1_24 rfl rfl (vld_of (n := 1) rfl (by omega) (by omega)) ?_
    refine r_iconst hC dX1_addLike_35 rfl ?_
    refine r_dup2 hC dX1_addLike_36 rfl rfl ?_
    refine z_iald hM dX1_addLike_37 rfl (by omega) (by omega) (fun v25 h_v25 o_v25 t_v25 => ?_)
    refine r_iconst hC dX1_addLike_38 rfl ?_
    refine r_iaddG hC dX1_addLike_39 (fun v26 h_v26 => ?_)
    refine z_iastF hM rfl dX1_addLike_40 (by omega) (by omega) (fun ρ27 g_ρ27 => ?_)
    refine r_aload_n hC dX1_addLike_41 rfl ?_
    refine z_getR hM dX1_addLike_42 fl_RX1_24 rfl rfl (vld_of (n := 1) rfl (by omega) (by omega)) ?_
    refine r_iconst hC dX1_addLike_45 rfl ?_
    refine r_iconst hC dX1_addLike_46 rfl ?_
    refine z_iastF hM rfl dX1_addLike_47 (by omega) (by omega) (fun ρ28 g_ρ28 => ?_)
    exact J48_2  ρ28  (FS.trans (FS.trans (FS.rf) g_ρ27) g_ρ28)
  · refine r_iload_n hC dX1_addLike_7 rfl ?_
    refine r_aload_n hC dX1_addLike_8 rfl ?_
    refine z_getR hM dX1_addLike_9 fl_RX1_24 rfl rfl (vld_of (n := 1) rfl (by omega) (by omega)) ?_
    refine r_bipush hC dX1_addLike_12 rfl ?_
    refine z_iald hM dX1_addLike_14 rfl (by omega) (by omega) (fun v29 h_v29 o_v29 t_v29 => ?_)
    refine r_icmp_ne (tgt := 31) hC dX1_addLike_15 rfl (fun h30 => ?_) (fun h30 => ?_)
    · refine r_aload_n hC dX1_addLike_31 rfl ?_
      refine z_getR hM dX1_addLike_32 fl_RX1_24 rfl rfl (vld_of (n := 1) rfl (by omega) (by omega)) ?_
      refine r_iconst hC dX1_addLike_35 rfl ?_
      refine r_dup2 hC dX1_addLike_36 rfl rfl ?_
      refine z_iald hM dX1_addLike_37 rfl (by omega) (by omega) (fun v31 h_v31 o_v31 t_v31 => ?_)
      refine r_iconst hC dX1_addLike_38 rfl ?_
      refine r_iaddG hC dX1_addLike_39 (fun v32 h_v32 => ?_)
      refine z_iastF hM rfl dX1_addLike_40 (by omega) (by omega) (fun ρ33 g_ρ33 => ?_)
      refine r_aload_n hC dX1_addLike_41 rfl ?_
      refine z_getR hM dX1_addLike_42 fl_RX1_24 rfl rfl (vld_of (n := 1) rfl (by omega) (by omega)) ?_
      refine r_iconst hC dX1_addLike_45 rfl ?_
      refine r_iconst hC dX1_addLike_46 rfl ?_
      refine z_iastF hM rfl dX1_addLike_47 (by omega) (by omega) (fun ρ34 g_ρ34 => ?_)
      exact J48_2  ρ34  (FS.trans (FS.trans (FS.rf) g_ρ33) g_ρ34)
    · refine r_aload_n hC dX1_addLike_18 rfl ?_
      refine z_getR hM dX1_addLike_19 fl_RX1_24 rfl rfl (vld_of (n := 1) rfl (by omega) (by omega)) ?_
      refine r_iconst hC dX1_addLike_22 rfl ?_
      refine r_dup2 hC dX1_addLike_23 rfl rfl ?_
      refine z_iald hM dX1_addLike_24 rfl (by omega) (by omega) (fun v35 h_v35 o_v35 t_v35 => ?_)
      refine r_iconst hC dX1_addLike_25 rfl ?_
      refine r_iaddG hC dX1_addLike_26 (fun v36 h_v36 => ?_)
      refine z_iastF hM rfl dX1_addLike_27 (by omega) (by omega) (fun ρ37 g_ρ37 => ?_)
      refine r_goto (tgt := 48) hC dX1_addLike_28 rfl ?_
      exact J48_2  ρ37  (FS.trans (FS.rf) g_ρ37)
theorem s_addStep {ea eb : Bool} {d : Nat} {P : Option Vl → Mm → Prop} {σ : Mm} {v : Int} (b_v : -1000 ≤ v ∧ v ≤ 1000)  (k : ∀ ρ : Mm, FS σ ρ → P none ρ) : WT (ea, true, eb) (d + 2) 22 [vR 14 0, vI v] σ P := by
  refine WT_in fun K hK => ?_
  have hK : StpY (ea, true, eb) cX1_addStep RX1 (none) (WT (ea, true, eb) (d + 1)) P K := hK
  have hM := hK.1
  have hC := hK.1.1
  show K 0 [some (vR 14 0), some (vI v), none, none, none] [] σ
  refine r_aload_n hC dX1_addStep_0 rfl ?_
  refine z_getI (jz := 6) hM dX1_addStep_1 fl_RX1_34 rfl rfl rfl (fun v1 h_v1 o_v1 t_v1 => ?_)
  have J12_3 : ∀ (w3 : Int), ∀ (ρ5 : Mm), 0 ≤ w3 ∧ w3 ≤ 1 → FS σ ρ5 → K 12 [some (vR 14 0), some (vI v), none, none, none] [vI w3] ρ5 := by
    intro w3 ρ5 f_w3 g_ρ5
    refine r_istore_n hC dX1_addStep_12 rfl ?_
    refine r_iload_n hC dX1_addStep_13 rfl ?_
    have J32_7 : ∀ (w7 : Int), ∀ (ρ9 : Mm), 0 ≤ w7 ∧ w7 ≤ 1 → FS σ ρ9 → K 32 [some (vR 14 0), some (vI v), some (vI w3), none, none] [vI w7] ρ9 := by
      intro w7 ρ9 f_w7 g_ρ9
      refine r_istore_n hC dX1_addStep_32 rfl ?_
      refine r_iload_n hC dX1_addStep_33 rfl ?_
      have J52_11 : ∀ (w11 : Int), ∀ (ρ13 : Mm), 0 ≤ w11 ∧ w11 ≤ 1 → FS σ ρ13 → K 52 [some (vR 14 0), some (vI v), some (vI w3), some (vI w7), none] [vI w11] ρ13 := by
        intro w11 ρ13 f_w11 g_ρ13
        refine r_istore hC dX1_addStep_52 rfl ?_
        refine r_aload_n hC dX1_addStep_54 rfl ?_
        refine z_getR hM dX1_addStep_55 fl_RX1_24 rfl rfl (vld_of (n := 1) rfl (by omega) (by omega)) ?_
        refine r_iconst hC dX1_addStep_58 rfl ?_
        refine r_dup2 hC dX1_addStep_59 rfl rfl ?_
        refine z_iald hM dX1_addStep_60 rfl (by omega) (by omega) (fun v14 h_v14 o_v14 t_v14 => ?_)
        refine r_iload_n hC dX1_addStep_61 rfl ?_
        have J70_16 : ∀ (w16 : Int), ∀ (ρ18 : Mm), 0 ≤ w16 ∧ w16 ≤ 1 → FS σ ρ18 → K 70 [some (vR 14 0), some (vI v), some (vI w3), some (vI w7), some (vI w11)] [vI w16, vI v14, vI 0, vR 17 0] ρ18 := by
          intro w16 ρ18 f_w16 g_ρ18
          refine r_iaddG hC dX1_addStep_70 (fun v19 h_v19 => ?_)
          refine z_iastF hM rfl dX1_addStep_71 (by omega) (by omega) (fun ρ20 g_ρ20 => ?_)
          refine r_aload_n hC dX1_addStep_72 rfl ?_
          refine z_getR hM dX1_addStep_73 fl_RX1_24 rfl rfl (vld_of (n := 1) rfl (by omega) (by omega)) ?_
          refine r_iconst hC dX1_addStep_76 rfl ?_
          refine r_dup2 hC dX1_addStep_77 rfl rfl ?_
          refine z_iald hM dX1_addStep_78 rfl (by omega) (by omega) (fun v21 h_v21 o_v21 t_v21 => ?_)
          refine r_iload hC dX1_addStep_79 rfl ?_
          have J89_23 : ∀ (w23 : Int), ∀ (ρ25 : Mm), 0 ≤ w23 ∧ w23 ≤ 1 → FS σ ρ25 → K 89 [some (vR 14 0), some (vI v), some (vI w3), some (vI w7), some (vI w11)] [vI w23, vI v21, vI 1, vR 17 0] ρ25 := by
            intro w23 ρ25 f_w23 g_ρ25
            refine r_iaddG hC dX1_addStep_89 (fun v26 h_v26 => ?_)
            refine z_iastF hM rfl dX1_addStep_90 (by omega) (by omega) (fun ρ27 g_ρ27 => ?_)
            refine r_aload_n hC dX1_addStep_91 rfl ?_
            refine z_getR hM dX1_addStep_92 fl_RX1_24 rfl rfl (vld_of (n := 1) rfl (by omega) (by omega)) ?_
            refine r_iconst hC dX1_addStep_95 rfl ?_
            refine r_iload_n hC dX1_addStep_96 rfl ?_
            have J110_29 : ∀ (w29 : Int), ∀ (ρ31 : Mm), -2147483648 ≤ w29 ∧ w29 ≤ 2147483647 → FS σ ρ31 → K 110 [some (vR 14 0), some (vI v), some (vI w3), some (vI w7), some (vI w11)] [vI w29, vI 2, vR 17 0] ρ31 := by
              intro w29 ρ31 f_w29 g_ρ31
              refine z_iastF hM rfl dX1_addStep_110 (by omega) (by omega) (fun ρ32 g_ρ32 => ?_)
              refine r_aload_n hC dX1_addStep_111 rfl ?_
              refine z_getR hM dX1_addStep_112 fl_RX1_24 rfl rfl (vld_of (n := 1) rfl (by omega) (by omega)) ?_
              refine r_iconst hC dX1_addStep_115 rfl ?_
              refine r_iload_n hC dX1_addStep_116 rfl ?_
              refine z_iastF hM rfl dX1_addStep_117 (by omega) (by omega) (fun ρ33 g_ρ33 => ?_)
              refine r_aload_n hC dX1_addStep_118 rfl ?_
              refine r_iload_n hC dX1_addStep_119 rfl ?_
              have J133_35 : ∀ (w35 : Int), ∀ (ρ37 : Mm), -2147483648 ≤ w35 ∧ w35 ≤ 2147483647 → FS σ ρ37 → K 133 [some (vR 14 0), some (vI v), some (vI w3), some (vI w7), some (vI w11)] [vI w35, vR 14 0] ρ37 := by
                intro w35 ρ37 f_w35 g_ρ37
                refine z_putIU (jz := 7) hM dX1_addStep_133 fw_RX1_37 rfl rfl rfl (by simp [Un, Tb, DL, DF, DR]) (by simp [Okv]) ?_
                refine r_aload_n hC dX1_addStep_136 rfl ?_
                refine z_getR hM dX1_addStep_137 fl_RX1_24 rfl rfl (vld_of (n := 1) rfl (by omega) (by omega)) ?_
                refine r_iconst hC dX1_addStep_140 rfl ?_
                refine r_aload_n hC dX1_addStep_141 rfl ?_
                refine z_getR hM dX1_addStep_142 fl_RX1_24 rfl rfl (vld_of (n := 1) rfl (by omega) (by omega)) ?_
                refine r_iconst hC dX1_addStep_145 rfl ?_
                refine z_iald hM dX1_addStep_146 rfl (by omega) (by omega) (fun v38 h_v38 o_v38 t_v38 => ?_)
                refine r_aload_n hC dX1_addStep_147 rfl ?_
                refine z_getI (jz := 7) hM dX1_addStep_148 fl_RX1_37 rfl rfl rfl (fun v39 h_v39 o_v39 t_v39 => ?_)
                refine z_ins2 hM dX1_addStep_151 tl_RX1_97 rfl (Nat.le_of_ble_eq_true rfl) (Nat.le_of_ble_eq_true rfl) ?_
                refine s_max (fun v40 h_v40 => ?_)
                refine z_iastF hM rfl dX1_addStep_154 (by omega) (by omega) (fun ρ41 g_ρ41 => ?_)
                refine y_vret hK rfl dX1_addStep_155 ?_
                exact k _ (FS.trans (g_ρ37) g_ρ41)
              refine r_if_eq (tgt := 127) hC dX1_addStep_120 rfl (fun h34 => ?_) (fun h34 => ?_)
              · refine r_aload_n hC dX1_addStep_127 rfl ?_
                refine z_getI (jz := 7) hM dX1_addStep_128 fl_RX1_37 rfl rfl rfl (fun v42 h_v42 o_v42 t_v42 => ?_)
                refine r_iconst hC dX1_addStep_131 rfl ?_
                refine r_iaddG hC dX1_addStep_132 (fun v43 h_v43 => ?_)
                exact J133_35 (v43) ρ33 (by omega) (FS.trans (FS.trans (g_ρ31) g_ρ32) g_ρ33)
              · refine r_iconst hC dX1_addStep_123 rfl ?_
                refine r_goto (tgt := 133) hC dX1_addStep_124 rfl ?_
                exact J133_35 (1) ρ33 (by omega) (FS.trans (FS.trans (g_ρ31) g_ρ32) g_ρ33)
            refine r_if_eq (tgt := 104) hC dX1_addStep_97 rfl (fun h28 => ?_) (fun h28 => ?_)
            · refine r_aload_n hC dX1_addStep_104 rfl ?_
              refine z_getR hM dX1_addStep_105 fl_RX1_24 rfl rfl (vld_of (n := 1) rfl (by omega) (by omega)) ?_
              refine r_iconst hC dX1_addStep_108 rfl ?_
              refine z_iald hM dX1_addStep_109 rfl (by omega) (by omega) (fun v44 h_v44 o_v44 t_v44 => ?_)
              exact J110_29 (v44) ρ27 (by omega) (FS.trans (g_ρ25) g_ρ27)
            · refine r_iload_n hC dX1_addStep_100 rfl ?_
              refine r_goto (tgt := 110) hC dX1_addStep_101 rfl ?_
              exact J110_29 (v) ρ27 (by omega) (FS.trans (g_ρ25) g_ρ27)
          refine r_if_eq (tgt := 88) hC dX1_addStep_81 rfl (fun h22 => ?_) (fun h22 => ?_)
          · refine r_iconst hC dX1_addStep_88 rfl ?_
            exact J89_23 (0) ρ20 (by omega) (FS.trans (g_ρ18) g_ρ20)
          · refine r_iconst hC dX1_addStep_84 rfl ?_
            refine r_goto (tgt := 89) hC dX1_addStep_85 rfl ?_
            exact J89_23 (1) ρ20 (by omega) (FS.trans (g_ρ18) g_ρ20)
        refine r_if_eq (tgt := 69) hC dX1_addStep_62 rfl (fun h15 => ?_) (fun h15 => ?_)
        · refine r_iconst hC dX1_addStep_69 rfl ?_
          exact J70_16 (0) ρ13 (by omega) (g_ρ13)
        · refine r_iconst hC dX1_addStep_65 rfl ?_
          refine r_goto (tgt := 70) hC dX1_addStep_66 rfl ?_
          exact J70_16 (1) ρ13 (by omega) (g_ρ13)
      refine r_if_ne (tgt := 51) hC dX1_addStep_34 rfl (fun h10 => ?_) (fun h10 => ?_)
      · refine r_iconst hC dX1_addStep_51 rfl ?_
        exact J52_11 (0) ρ9 (by omega) (g_ρ9)
      · refine r_iload_n hC dX1_addStep_37 rfl ?_
        refine r_aload_n hC dX1_addStep_38 rfl ?_
        refine z_getR hM dX1_addStep_39 fl_RX1_24 rfl rfl (vld_of (n := 1) rfl (by omega) (by omega)) ?_
        refine r_iconst hC dX1_addStep_42 rfl ?_
        refine z_iald hM dX1_addStep_43 rfl (by omega) (by omega) (fun v45 h_v45 o_v45 t_v45 => ?_)
        refine r_icmp_le (tgt := 51) hC dX1_addStep_44 rfl (fun h46 => ?_) (fun h46 => ?_)
        · refine r_iconst hC dX1_addStep_51 rfl ?_
          exact J52_11 (0) ρ9 (by omega) (g_ρ9)
        · refine r_iconst hC dX1_addStep_47 rfl ?_
          refine r_goto (tgt := 52) hC dX1_addStep_48 rfl ?_
          exact J52_11 (1) ρ9 (by omega) (g_ρ9)
    refine r_if_ne (tgt := 31) hC dX1_addStep_14 rfl (fun h6 => ?_) (fun h6 => ?_)
    · refine r_iconst hC dX1_addStep_31 rfl ?_
      exact J32_7 (0) ρ5 (by omega) (g_ρ5)
    · refine r_iload_n hC dX1_addStep_17 rfl ?_
      refine r_aload_n hC dX1_addStep_18 rfl ?_
      refine z_getR hM dX1_addStep_19 fl_RX1_24 rfl rfl (vld_of (n := 1) rfl (by omega) (by omega)) ?_
      refine r_iconst hC dX1_addStep_22 rfl ?_
      refine z_iald hM dX1_addStep_23 rfl (by omega) (by omega) (fun v47 h_v47 o_v47 t_v47 => ?_)
      refine r_icmp_ge (tgt := 31) hC dX1_addStep_24 rfl (fun h48 => ?_) (fun h48 => ?_)
      · refine r_iconst hC dX1_addStep_31 rfl ?_
        exact J32_7 (0) ρ5 (by omega) (g_ρ5)
      · refine r_iconst hC dX1_addStep_27 rfl ?_
        refine r_goto (tgt := 32) hC dX1_addStep_28 rfl ?_
        exact J32_7 (1) ρ5 (by omega) (g_ρ5)
  refine r_if_ne (tgt := 11) hC dX1_addStep_4 rfl (fun h2 => ?_) (fun h2 => ?_)
  · refine r_iconst hC dX1_addStep_11 rfl ?_
    exact J12_3 (0) σ (by omega) (FS.rf)
  · refine r_iconst hC dX1_addStep_7 rfl ?_
    refine r_goto (tgt := 12) hC dX1_addStep_8 rfl ?_
    exact J12_3 (1) σ (by omega) (FS.rf)
theorem s_addSpread {ea eb : Bool} {d : Nat} {P : Option Vl → Mm → Prop} {σ : Mm} {v : Int} (b_v : -1000 ≤ v ∧ v ≤ 1000)  (k : ∀ ρ : Mm, FS σ ρ → P none ρ) : WT (ea, true, eb) (d + 2) 23 [vR 14 0, vI v] σ P := by
  refine WT_in fun K hK => ?_
  have hK : StpY (ea, true, eb) cX1_addSpread RX1 (none) (WT (ea, true, eb) (d + 1)) P K := hK
  have hM := hK.1
  have hC := hK.1.1
  show K 0 [some (vR 14 0), some (vI v)] [] σ
  refine r_iload_n hC dX1_addSpread_0 rfl ?_
  have J72_1 : ∀ (ρ3 : Mm), FS σ ρ3 → K 72 [some (vR 14 0), some (vI v)] [] ρ3 := by
    intro  ρ3  g_ρ3
    refine y_vret hK rfl dX1_addSpread_72 ?_
    exact k _ (g_ρ3)
  refine r_if_le (tgt := 35) hC dX1_addSpread_1 rfl (fun h1 => ?_) (fun h1 => ?_)
  · refine r_iload_n hC dX1_addSpread_35 rfl ?_
    refine r_if_ge (tgt := 58) hC dX1_addSpread_36 rfl (fun h4 => ?_) (fun h4 => ?_)
    · refine r_iload_n hC dX1_addSpread_58 rfl ?_
      refine r_if_ne (tgt := 72) hC dX1_addSpread_59 rfl (fun h5 => by omega) (fun h5 => ?_)
      refine r_aload_n hC dX1_addSpread_62 rfl ?_
      refine z_getR hM dX1_addSpread_63 fl_RX1_24 rfl rfl (vld_of (n := 1) rfl (by omega) (by omega)) ?_
      refine r_iconst hC dX1_addSpread_66 rfl ?_
      refine r_dup2 hC dX1_addSpread_67 rfl rfl ?_
      refine z_iald hM dX1_addSpread_68 rfl (by omega) (by omega) (fun v6 h_v6 o_v6 t_v6 => ?_)
      refine r_iconst hC dX1_addSpread_69 rfl ?_
      refine r_iaddG hC dX1_addSpread_70 (fun v7 h_v7 => ?_)
      refine z_iastF hM rfl dX1_addSpread_71 (by omega) (by omega) (fun ρ8 g_ρ8 => ?_)
      exact J72_1  ρ8  (FS.trans (FS.rf) g_ρ8)
    · refine r_aload_n hC dX1_addSpread_39 rfl ?_
      refine z_getR hM dX1_addSpread_40 fl_RX1_24 rfl rfl (vld_of (n := 1) rfl (by omega) (by omega)) ?_
      refine r_iconst hC dX1_addSpread_43 rfl ?_
      refine r_aload_n hC dX1_addSpread_44 rfl ?_
      refine z_getR hM dX1_addSpread_45 fl_RX1_24 rfl rfl (vld_of (n := 1) rfl (by omega) (by omega)) ?_
      refine r_iconst hC dX1_addSpread_48 rfl ?_
      refine z_iald hM dX1_addSpread_49 rfl (by omega) (by omega) (fun v9 h_v9 o_v9 t_v9 => ?_)
      refine r_iload_n hC dX1_addSpread_50 rfl ?_
      refine z_ins2 hM dX1_addSpread_51 tl_RX1_97 rfl (Nat.le_of_ble_eq_true rfl) (Nat.le_of_ble_eq_true rfl) ?_
      refine s_max (fun v10 h_v10 => ?_)
      refine z_iastF hM rfl dX1_addSpread_54 (by omega) (by omega) (fun ρ11 g_ρ11 => ?_)
      refine r_goto (tgt := 72) hC dX1_addSpread_55 rfl ?_
      exact J72_1  ρ11  (FS.trans (FS.rf) g_ρ11)
  · refine r_aload_n hC dX1_addSpread_4 rfl ?_
    refine z_getR hM dX1_addSpread_5 fl_RX1_24 rfl rfl (vld_of (n := 1) rfl (by omega) (by omega)) ?_
    refine r_iconst hC dX1_addSpread_8 rfl ?_
    refine z_iald hM dX1_addSpread_9 rfl (by omega) (by omega) (fun v12 h_v12 o_v12 t_v12 => ?_)
    refine r_ldc hC dX1_addSpread_10 co_RX1_40 rfl ?_
    refine r_icmp_eq (tgt := 25) hC dX1_addSpread_12 rfl (fun h13 => ?_) (fun h13 => ?_)
    · refine r_aload_n hC dX1_addSpread_25 rfl ?_
      refine z_getR hM dX1_addSpread_26 fl_RX1_24 rfl rfl (vld_of (n := 1) rfl (by omega) (by omega)) ?_
      refine r_iconst hC dX1_addSpread_29 rfl ?_
      refine r_iload_n hC dX1_addSpread_30 rfl ?_
      refine z_iastF hM rfl dX1_addSpread_31 (by omega) (by omega) (fun ρ14 g_ρ14 => ?_)
      refine r_goto (tgt := 72) hC dX1_addSpread_32 rfl ?_
      exact J72_1  ρ14  (FS.trans (FS.rf) g_ρ14)
    · refine r_iload_n hC dX1_addSpread_15 rfl ?_
      refine r_aload_n hC dX1_addSpread_16 rfl ?_
      refine z_getR hM dX1_addSpread_17 fl_RX1_24 rfl rfl (vld_of (n := 1) rfl (by omega) (by omega)) ?_
      refine r_iconst hC dX1_addSpread_20 rfl ?_
      refine z_iald hM dX1_addSpread_21 rfl (by omega) (by omega) (fun v15 h_v15 o_v15 t_v15 => ?_)
      refine r_icmp_ge (tgt := 35) hC dX1_addSpread_22 rfl (fun h16 => ?_) (fun h16 => ?_)
      · refine r_iload_n hC dX1_addSpread_35 rfl ?_
        refine r_if_ge (tgt := 58) hC dX1_addSpread_36 rfl (fun h17 => ?_) (fun h17 => by omega)
        refine r_iload_n hC dX1_addSpread_58 rfl ?_
        refine r_if_ne (tgt := 72) hC dX1_addSpread_59 rfl (fun h18 => ?_) (fun h18 => by omega)
        exact J72_1  σ  (FS.rf)
      · refine r_aload_n hC dX1_addSpread_25 rfl ?_
        refine z_getR hM dX1_addSpread_26 fl_RX1_24 rfl rfl (vld_of (n := 1) rfl (by omega) (by omega)) ?_
        refine r_iconst hC dX1_addSpread_29 rfl ?_
        refine r_iload_n hC dX1_addSpread_30 rfl ?_
        refine z_iastF hM rfl dX1_addSpread_31 (by omega) (by omega) (fun ρ19 g_ρ19 => ?_)
        refine r_goto (tgt := 72) hC dX1_addSpread_32 rfl ?_
        exact J72_1  ρ19  (FS.trans (FS.rf) g_ρ19)
theorem s_addLine {ea eb : Bool} {d : Nat} {P : Option Vl → Mm → Prop} {σ : Mm} {v : Int} (b_v : -1000 ≤ v ∧ v ≤ 1000)  (k : ∀ ρ : Mm, FS σ ρ → P none ρ) : WT (ea, true, eb) (d + 2) 17 [vR 14 0, vI v] σ P := by
  refine WT_in fun K hK => ?_
  have hK : StpY (ea, true, eb) cX1_addLine RX1 (none) (WT (ea, true, eb) (d + 1)) P K := hK
  have hM := hK.1
  have hC := hK.1.1
  show K 0 [some (vR 14 0), some (vI v), none, none] [] σ
  refine r_iload_n hC dX1_addLine_0 rfl ?_
  refine r_sipush hC dX1_addLine_1 rfl ?_
  refine z_ins2 hM dX1_addLine_4 tl_RX1_93 rfl (Nat.le_of_ble_eq_true rfl) (Nat.le_of_ble_eq_true rfl) ?_
  refine s_floorMod (by omega) (fun v1 h_v1 => ?_)
  refine r_istore_n hC dX1_addLine_7 rfl ?_
  refine r_bipush hC dX1_addLine_8 rfl ?_
  refine r_iload_n hC dX1_addLine_10 rfl ?_
  refine r_imulE hC ((7 * v)) dX1_addLine_11 (by omega) (by unfold inR; omega) ?_
  refine r_iconst hC dX1_addLine_12 rfl ?_
  refine r_iaddE hC (((7 * v) + 1)) dX1_addLine_13 (by omega) (by unfold inR; omega) ?_
  refine r_sipush hC dX1_addLine_14 rfl ?_
  refine z_ins2 hM dX1_addLine_17 tl_RX1_93 rfl (Nat.le_of_ble_eq_true rfl) (Nat.le_of_ble_eq_true rfl) ?_
  refine s_floorMod (by omega) (fun v2 h_v2 => ?_)
  refine r_istore_n hC dX1_addLine_20 rfl ?_
  refine r_aload_n hC dX1_addLine_21 rfl ?_
  refine z_getR hM dX1_addLine_22 fl_RX1_24 rfl rfl (vld_of (n := 1) rfl (by omega) (by omega)) ?_
  refine r_iconst hC dX1_addLine_25 rfl ?_
  refine r_iload_n hC dX1_addLine_26 rfl ?_
  refine r_aload_n hC dX1_addLine_27 rfl ?_
  refine z_getR hM dX1_addLine_28 fl_RX1_24 rfl rfl (vld_of (n := 1) rfl (by omega) (by omega)) ?_
  refine r_iconst hC dX1_addLine_31 rfl ?_
  refine z_iald hM dX1_addLine_32 rfl (by omega) (by omega) (fun v3 h_v3 o_v3 t_v3 => ?_)
  refine r_imulG hC dX1_addLine_33 (fun v4 h_v4 => ?_)
  refine r_sipush hC dX1_addLine_34 rfl ?_
  refine r_iremG hC dX1_addLine_37 (by omega) (fun v5 h_v5 p_v5 m_v5 => ?_)
  refine z_iastF hM rfl dX1_addLine_38 (by omega) (by omega) (fun ρ6 g_ρ6 => ?_)
  refine r_aload_n hC dX1_addLine_39 rfl ?_
  refine z_getR hM dX1_addLine_40 fl_RX1_24 rfl rfl (vld_of (n := 1) rfl (by omega) (by omega)) ?_
  refine r_iconst hC dX1_addLine_43 rfl ?_
  refine r_iload_n hC dX1_addLine_44 rfl ?_
  refine r_aload_n hC dX1_addLine_45 rfl ?_
  refine z_getR hM dX1_addLine_46 fl_RX1_24 rfl rfl (vld_of (n := 1) rfl (by omega) (by omega)) ?_
  refine r_iconst hC dX1_addLine_49 rfl ?_
  refine z_iald hM dX1_addLine_50 rfl (by omega) (by omega) (fun v7 h_v7 o_v7 t_v7 => ?_)
  refine r_imulG hC dX1_addLine_51 (fun v8 h_v8 => ?_)
  refine r_iload_n hC dX1_addLine_52 rfl ?_
  refine r_iaddG hC dX1_addLine_53 (fun v9 h_v9 => ?_)
  refine r_sipush hC dX1_addLine_54 rfl ?_
  refine r_iremG hC dX1_addLine_57 (by omega) (fun v10 h_v10 p_v10 m_v10 => ?_)
  refine z_iastF hM rfl dX1_addLine_58 (by omega) (by omega) (fun ρ11 g_ρ11 => ?_)
  refine y_vret hK rfl dX1_addLine_59 ?_
  exact k _ (FS.trans (FS.trans (FS.rf) g_ρ6) g_ρ11)
theorem s_addLetter {ea eb : Bool} {d : Nat} {P : Option Vl → Mm → Prop} {σ : Mm} {v : Int} (b_v : -1000 ≤ v ∧ v ≤ 1000)  (k : ∀ ρ : Mm, FS σ ρ → P none ρ) : WT (ea, true, eb) (d + 2) 19 [vR 14 0, vI v] σ P := by
  refine WT_in fun K hK => ?_
  have hK : StpY (ea, true, eb) cX1_addLetter RX1 (none) (WT (ea, true, eb) (d + 1)) P K := hK
  have hM := hK.1
  have hC := hK.1.1
  show K 0 [some (vR 14 0), some (vI v), none, none, none] [] σ
  refine r_aload_n hC dX1_addLetter_0 rfl ?_
  refine z_getR hM dX1_addLetter_1 fl_RX1_15 rfl rfl (vld_of (n := 1) rfl (by omega) (by omega)) ?_
  refine r_iload_n hC dX1_addLetter_4 rfl ?_
  refine r_bipush hC dX1_addLetter_5 rfl ?_
  refine z_ins2 hM dX1_addLetter_7 tl_RX1_93 rfl (Nat.le_of_ble_eq_true rfl) (Nat.le_of_ble_eq_true rfl) ?_
  refine s_floorMod (by omega) (fun v1 h_v1 => ?_)
  refine z_iald hM dX1_addLetter_10 rfl (by omega) (by omega) (fun v2 h_v2 o_v2 t_v2 => ?_)
  refine r_istore_n hC dX1_addLetter_11 rfl ?_
  refine r_iconst hC dX1_addLetter_12 rfl ?_
  refine r_istore_n hC dX1_addLetter_13 rfl ?_
  refine r_iconst hC dX1_addLetter_14 rfl ?_
  refine r_istore hC dX1_addLetter_15 rfl ?_
  have L17 : ∀ (n17 : Nat) (w3 w4 : Int) (ρ5 : Mm), -2147483648 ≤ w3 ∧ w3 ≤ 2147483647 → 0 ≤ w4 ∧ w4 ≤ 4 → 4 - w4 < (n17 : Int) → FS σ ρ5 → K 17 [some (vR 14 0), some (vI v), some (vI v2), some (vI w3), some (vI w4)] [] ρ5 := by
    intro n17
    induction n17 with
    | zero => intro w3 w4 ρ5 f_w3 f_w4  hm g_ρ5; omega
    | succ n17 ih17 =>
      intro w3 w4 ρ5 f_w3 f_w4  hm17 g_ρ5
      refine r_iload hC dX1_addLetter_17 rfl ?_
      refine r_iconst hC dX1_addLetter_19 rfl ?_
      refine r_icmp_ge (tgt := 61) hC dX1_addLetter_20 rfl (fun h6 => ?_) (fun h6 => ?_)
      · refine r_aload_n hC dX1_addLetter_61 rfl ?_
        refine z_getR hM dX1_addLetter_62 fl_RX1_24 rfl rfl (vld_of (n := 1) rfl (by omega) (by omega)) ?_
        refine r_iconst hC dX1_addLetter_65 rfl ?_
        refine r_iload_n hC dX1_addLetter_66 rfl ?_
        refine z_ins1 hM dX1_addLetter_67 tl_RX1_100 rfl (Nat.le_of_ble_eq_true rfl) (Nat.le_of_ble_eq_true rfl) ?_
        refine s_bitCount (fun v7 h_v7 => ?_)
        refine z_iastF hM rfl dX1_addLetter_70 (by omega) (by omega) (fun ρ8 g_ρ8 => ?_)
        refine y_vret hK rfl dX1_addLetter_71 ?_
        exact k _ (FS.trans (g_ρ5) g_ρ8)
      · refine r_aload_n hC dX1_addLetter_23 rfl ?_
        refine z_getR hM dX1_addLetter_24 fl_RX1_24 rfl rfl (vld_of (n := 1) rfl (by omega) (by omega)) ?_
        refine r_iload hC dX1_addLetter_27 rfl ?_
        refine r_iload_n hC dX1_addLetter_29 rfl ?_
        refine r_iconst hC dX1_addLetter_30 rfl ?_
        refine r_aload_n hC dX1_addLetter_31 rfl ?_
        refine z_getR hM dX1_addLetter_32 fl_RX1_24 rfl rfl (vld_of (n := 1) rfl (by omega) (by omega)) ?_
        refine r_iload hC dX1_addLetter_35 rfl ?_
        refine z_iald hM dX1_addLetter_37 rfl (by omega) (by omega) (fun v9 h_v9 o_v9 t_v9 => ?_)
        refine r_imulG hC dX1_addLetter_38 (fun v10 h_v10 => ?_)
        refine r_ishrG hC dX1_addLetter_39 (fun v11 h_v11 => ?_)
        refine r_iconst hC dX1_addLetter_40 rfl ?_
        refine r_iandB hC dX1_addLetter_41 (by omega) (inR_lit rfl) (fun v12 h_v12 => ?_)
        refine z_iastF hM rfl dX1_addLetter_42 (by omega) (by omega) (fun ρ13 g_ρ13 => ?_)
        refine r_iload_n hC dX1_addLetter_43 rfl ?_
        refine r_iconst hC dX1_addLetter_44 rfl ?_
        refine r_aload_n hC dX1_addLetter_45 rfl ?_
        refine z_getR hM dX1_addLetter_46 fl_RX1_24 rfl rfl (vld_of (n := 1) rfl (by omega) (by omega)) ?_
        refine r_iload hC dX1_addLetter_49 rfl ?_
        refine z_iald hM dX1_addLetter_51 rfl (by omega) (by omega) (fun v14 h_v14 o_v14 t_v14 => ?_)
        refine r_ishlG hC dX1_addLetter_52 (fun v15 h_v15 => ?_)
        refine r_iorG hC dX1_addLetter_53 (fun v16 h_v16 => ?_)
        refine r_istore_n hC dX1_addLetter_54 rfl ?_
        refine r_iincE hC ((w4 + 1)) dX1_addLetter_55 rfl rfl (by omega) (by unfold inR; omega) ?_
        refine r_goto (tgt := 17) hC dX1_addLetter_58 rfl ?_
        exact ih17 (v16) ((w4 + 1)) ρ13 (by omega) (by omega)  (by omega) (FS.trans (g_ρ5) g_ρ13)
  exact L17 6 (0) (0) σ (by omega) (by omega)  (by omega) (FS.rf)
theorem s_absb {e : Ev} {d : Nat} {P : Option Vl → Mm → Prop} {σ : Mm} {a : Int} (b_a : -1000 ≤ a ∧ a ≤ 1000)  (k : ∀ r : Int, 0 ≤ r ∧ r ≤ 1000 → P (some (vI r)) σ) : WT e (d + 1) 263 [vI a] σ P := by
  refine WT_in fun K hK => ?_
  have hK : StpY e cJ9_abs_0f7a4 RJ9 (some .int) (WT e (d + 0)) P K := hK
  have hM := hK.1
  have hC := hK.1.1
  show K 0 [some (vI a)] [] σ
  refine r_iload_n hC dJ9_abs_0f7a4_0 rfl ?_
  have J10_2 : ∀ (w2 : Int), 0 ≤ w2 ∧ w2 ≤ 1000 → K 10 [some (vI a)] [vI w2] σ := by
    intro w2  f_w2 
    refine y_iret hK rfl dJ9_abs_0f7a4_10 ?_
    exact k _ (by omega)
  refine r_if_ge (tgt := 9) hC dJ9_abs_0f7a4_1 rfl (fun h1 => ?_) (fun h1 => ?_)
  · refine r_iload_n hC dJ9_abs_0f7a4_9 rfl ?_
    exact J10_2 (a)  (by omega) 
  · refine r_iload_n hC dJ9_abs_0f7a4_4 rfl ?_
    refine r_inegS hC dJ9_abs_0f7a4_5 (by unfold inR; omega) ?_
    refine r_goto (tgt := 10) hC dJ9_abs_0f7a4_6 rfl ?_
    exact J10_2 ((-a))  (by omega) 
theorem s_addShare {ea eb : Bool} {d : Nat} {P : Option Vl → Mm → Prop} {σ : Mm} {v n0 : Int} (b_v : -1000 ≤ v ∧ v ≤ 1000) (b_n0 : 0 ≤ n0) (qg0 : σ 17 0 0 = n0)  (k : ∀ ρ : Mm, Gx (fun c x y => c = 17 ∧ x = 0 ∧ y = 0) σ ρ → 0 ≤ ρ 17 0 0 → P none ρ) : WT (ea, true, eb) (d + 2) 16 [vR 14 0, vI v] σ P := by
  refine WT_in fun K hK => ?_
  have hK : StpY (ea, true, eb) cX1_addShare RX1 (none) (WT (ea, true, eb) (d + 1)) P K := hK
  have hM := hK.1
  have hC := hK.1.1
  show K 0 [some (vR 14 0), some (vI v), none, none, none, none] [] σ
  refine r_aload_n hC dX1_addShare_0 rfl ?_
  refine z_getR hM dX1_addShare_1 fl_RX1_24 rfl rfl (vld_of (n := 1) rfl (by omega) (by omega)) ?_
  refine r_iconst hC dX1_addShare_4 rfl ?_
  refine z_iald hM dX1_addShare_5 rfl (by omega) (by omega) (fun v1 h_v1 o_v1 t_v1 => ?_)
  have e_v1 : n0 = v1 := ((t_v1 (Or.inr (Or.inr (Or.inl ⟨rfl, rfl⟩)))).trans qg0).symm
  subst e_v1
  refine r_istore_n hC dX1_addShare_6 rfl ?_
  refine r_iload_n hC dX1_addShare_7 rfl ?_
  refine z_ins1 hM dX1_addShare_8 tl_RX1_88 rfl (Nat.le_of_ble_eq_true rfl) (Nat.le_of_ble_eq_true rfl) ?_
  refine s_absb (by omega) (fun v2 h_v2 => ?_)
  refine r_istore_n hC dX1_addShare_11 rfl ?_
  refine r_iconst hC dX1_addShare_12 rfl ?_
  refine r_istore hC dX1_addShare_13 rfl ?_
  have L15 : ∀ (n15 : Nat) (w3 w4 w5 : Int) (ρ6 : Mm), 0 ≤ w3 ∧ w3 ≤ 9223372036854775808 → 0 ≤ w4 ∧ w4 ≤ 1000 → 0 ≤ w5 ∧ w5 ≤ 1001 → 1001 - w5 < (n15 : Int) → Gx (fun c x y => c = 17 ∧ x = 0 ∧ y = 0) σ ρ6 → ρ6 17 0 0 = n0 → K 15 [some (vR 14 0), some (vI v), some (vI w3), some (vI w4), some (vI w5), none] [] ρ6 := by
    intro n15
    induction n15 with
    | zero => intro w3 w4 w5 ρ6 f_w3 f_w4 f_w5  hm g_ρ6 q0_ρ6; omega
    | succ n15 ih15 =>
      intro w3 w4 w5 ρ6 f_w3 f_w4 f_w5  hm15 g_ρ6 q0_ρ6
      refine r_iload_n hC dX1_addShare_15 rfl ?_
      have J43_7 : ∀ (ρ9 : Mm), Gx (fun c x y => c = 17 ∧ x = 0 ∧ y = 0) σ ρ9 → ρ9 17 0 0 = n0 → K 43 [some (vR 14 0), some (vI v), some (vI w3), some (vI w4), some (vI w5), none] [] ρ9 := by
        intro  ρ9  g_ρ9 q0_ρ9
        refine r_aload_n hC dX1_addShare_43 rfl ?_
        refine z_getR hM dX1_addShare_44 fl_RX1_24 rfl rfl (vld_of (n := 1) rfl (by omega) (by omega)) ?_
        refine r_iconst hC dX1_addShare_47 rfl ?_
        refine r_iload_n hC dX1_addShare_48 rfl ?_
        refine z_iastG hM dX1_addShare_49 rfl (by omega) (by omega) ⟨Or.inr (by simp [DL]), Or.inl rfl⟩ (by simp [Okv]; try omega) (fun ρ10 a_ρ10 q_ρ10 => ?_)
        refine r_aload_n hC dX1_addShare_50 rfl ?_
        refine z_getR hM dX1_addShare_51 fl_RX1_24 rfl rfl (vld_of (n := 1) rfl (by omega) (by omega)) ?_
        refine r_iconst hC dX1_addShare_54 rfl ?_
        refine r_dup2 hC dX1_addShare_55 rfl rfl ?_
        refine z_iald hM dX1_addShare_56 rfl (by omega) (by omega) (fun v11 h_v11 o_v11 t_v11 => ?_)
        refine r_iload_n hC dX1_addShare_57 rfl ?_
        have J66_13 : ∀ (w13 : Int), ∀ (ρ15 : Mm), 0 ≤ w13 ∧ w13 ≤ 1 → Gx (fun c x y => c = 17 ∧ x = 0 ∧ y = 0) σ ρ15 → ρ15 17 0 0 = w3 → K 66 [some (vR 14 0), some (vI v), some (vI w3), some (vI w4), some (vI w5), none] [vI w13, vI v11, vI 1, vR 17 0] ρ15 := by
          intro w13 ρ15 f_w13 g_ρ15 q0_ρ15
          refine r_iaddG hC dX1_addShare_66 (fun v16 h_v16 => ?_)
          refine z_iastU hM dX1_addShare_67 rfl (by omega) (by omega) (by simp [Un, Tb, DL, DF, DR]; try omega) (by simp [Okv]) ?_
          refine y_vret hK rfl dX1_addShare_68 ?_
          exact k _ (g_ρ15) (by have hq := q0_ρ15; omega)
        refine r_if_eq (tgt := 65) hC dX1_addShare_58 rfl (fun h12 => ?_) (fun h12 => ?_)
        · refine r_iconst hC dX1_addShare_65 rfl ?_
          exact J66_13 (0) ρ10 (by omega) ((g_ρ9).al a_ρ10 (by first | simp | omega)) (by have hq := q_ρ10; omega)
        · refine r_iconst hC dX1_addShare_61 rfl ?_
          refine r_goto (tgt := 66) hC dX1_addShare_62 rfl ?_
          exact J66_13 (1) ρ10 (by omega) ((g_ρ9).al a_ρ10 (by first | simp | omega)) (by have hq := q_ρ10; omega)
      refine r_if_eq (tgt := 43) hC dX1_addShare_16 rfl (fun h7 => ?_) (fun h7 => ?_)
      · exact J43_7  ρ6  (g_ρ6) (by have hq := q0_ρ6; omega)
      · refine r_iload hC dX1_addShare_19 rfl ?_
        refine r_sipush hC dX1_addShare_21 rfl ?_
        refine r_icmp_gt (tgt := 43) hC dX1_addShare_24 rfl (fun h17 => ?_) (fun h17 => ?_)
        · exact J43_7  ρ6  (g_ρ6) (by have hq := q0_ρ6; omega)
        · refine r_iload_n hC dX1_addShare_27 rfl ?_
          refine r_iload_n hC dX1_addShare_28 rfl ?_
          refine r_iremP hC dX1_addShare_29 (by omega) (by omega) (fun v18 h_v18 => ?_)
          refine r_istore hC dX1_addShare_30 rfl ?_
          refine r_iload_n hC dX1_addShare_32 rfl ?_
          refine r_istore_n hC dX1_addShare_33 rfl ?_
          refine r_iload hC dX1_addShare_34 rfl ?_
          refine r_istore_n hC dX1_addShare_36 rfl ?_
          show K _ [_, _, _, _, _, _] _ _
          refine r_iincE hC ((w5 + 1)) dX1_addShare_37 rfl rfl (by omega) (by unfold inR; omega) ?_
          refine r_goto (tgt := 15) hC dX1_addShare_40 rfl ?_
          refine r_forget hC (ls2 := [some (vR 14 0), some (vI v), some (vI w4), some (vI v18), some (vI (w5 + 1)), none]) (lsub_some (lsub_some (lsub_some (lsub_some (lsub_some (lsub_none lsub_nil)))))) ?_
          exact ih15 (w4) (v18) ((w5 + 1)) ρ6 (by omega) (by omega) (by omega)  (by omega) (g_ρ6) (by have hq := q0_ρ6; omega)
  exact L15 1003 (n0) (v2) (0) σ (by omega) (by omega) (by omega)  (by omega) (Gx.rf) (by have hq := qg0; omega)
theorem s_addElement {ea eb : Bool} {d : Nat} {P : Option Vl → Mm → Prop} {σ : Mm} {v n0 : Int} (b_v : -1000 ≤ v ∧ v ≤ 1000) (b_n0 : 0 ≤ n0 ∧ n0 ≤ 3) (qg0 : σ 17 0 0 = n0)  (k : ∀ ρ : Mm, Gx (fun c x y => c = 17 ∧ x = 0 ∧ y = 0) σ ρ → 0 ≤ ρ 17 0 0 ∧ ρ 17 0 0 ≤ 3 → P none ρ) : WT (ea, true, eb) (d + 2) 24 [vR 14 0, vI v] σ P := by
  refine WT_in fun K hK => ?_
  have hK : StpY (ea, true, eb) cX1_addElement RX1 (none) (WT (ea, true, eb) (d + 1)) P K := hK
  have hM := hK.1
  have hC := hK.1.1
  show K 0 [some (vR 14 0), some (vI v), none] [] σ
  refine r_iload_n hC dX1_addElement_0 rfl ?_
  refine r_iconst hC dX1_addElement_1 rfl ?_
  refine z_ins2 hM dX1_addElement_2 tl_RX1_93 rfl (Nat.le_of_ble_eq_true rfl) (Nat.le_of_ble_eq_true rfl) ?_
  refine s_floorMod (by omega) (fun v1 h_v1 => ?_)
  refine r_istore_n hC dX1_addElement_5 rfl ?_
  refine r_aload_n hC dX1_addElement_6 rfl ?_
  refine z_getR hM dX1_addElement_7 fl_RX1_24 rfl rfl (vld_of (n := 1) rfl (by omega) (by omega)) ?_
  refine r_iconst hC dX1_addElement_10 rfl ?_
  refine r_aload_n hC dX1_addElement_11 rfl ?_
  refine z_getI (jz := 6) hM dX1_addElement_12 fl_RX1_34 rfl rfl rfl (fun v2 h_v2 o_v2 t_v2 => ?_)
  have J37_4 : ∀ (w4 : Int), ∀ (ρ6 : Mm), 0 ≤ w4 ∧ w4 ≤ 3 → Gx (fun c x y => c = 17 ∧ x = 0 ∧ y = 0) σ ρ6 → ρ6 17 0 0 = n0 → K 37 [some (vR 14 0), some (vI v), some (vI v1)] [vI w4, vI 0, vR 17 0] ρ6 := by
    intro w4 ρ6 f_w4 g_ρ6 q0_ρ6
    refine z_iastG hM dX1_addElement_37 rfl (by omega) (by omega) ⟨Or.inr (by simp [DL]), Or.inl rfl⟩ (by simp [Okv]; try omega) (fun ρ7 a_ρ7 q_ρ7 => ?_)
    refine y_vret hK rfl dX1_addElement_38 ?_
    exact k _ ((g_ρ6).al a_ρ7 (by first | simp | omega)) (by have hq := q_ρ7; omega)
  refine r_if_ne (tgt := 22) hC dX1_addElement_15 rfl (fun h3 => ?_) (fun h3 => ?_)
  · refine r_aload_n hC dX1_addElement_22 rfl ?_
    refine z_getR hM dX1_addElement_23 fl_RX1_9 rfl rfl (vld_of (n := 1) rfl (by omega) (by omega)) ?_
    refine r_iconst hC dX1_addElement_26 rfl ?_
    refine r_aload_n hC dX1_addElement_27 rfl ?_
    refine z_getR hM dX1_addElement_28 fl_RX1_24 rfl rfl (vld_of (n := 1) rfl (by omega) (by omega)) ?_
    refine r_iconst hC dX1_addElement_31 rfl ?_
    refine z_iald hM dX1_addElement_32 rfl (by omega) (by omega) (fun v8 h_v8 o_v8 t_v8 => ?_)
    have e_v8 : n0 = v8 := ((t_v8 (Or.inr (Or.inr (Or.inl ⟨rfl, rfl⟩)))).trans qg0).symm
    subst e_v8
    refine r_imulE hC ((4 * n0)) dX1_addElement_33 (by omega) (by unfold inR; omega) ?_
    refine r_iload_n hC dX1_addElement_34 rfl ?_
    refine r_iaddE hC (((4 * n0) + v1)) dX1_addElement_35 (by omega) (by unfold inR; omega) ?_
    refine z_iald hM dX1_addElement_36 rfl (by omega) (by omega) (fun v9 h_v9 o_v9 t_v9 => ?_)
    have q_v9 : 0 ≤ v9 ∧ v9 ≤ 3 := o_v9
    exact J37_4 (v9) σ (by omega) (Gx.rf) (by have hq := qg0; omega)
  · refine r_iload_n hC dX1_addElement_18 rfl ?_
    refine r_goto (tgt := 37) hC dX1_addElement_19 rfl ?_
    exact J37_4 (v1) σ (by omega) (Gx.rf) (by have hq := qg0; omega)
theorem s_appendS {ea eb : Bool} {d : Nat} {P : Option Vl → Mm → Prop} {σ : Mm} {v o : Int} (b_v : -1000 ≤ v ∧ v ≤ 1000) (b_o : 0 ≤ o ∧ o ≤ 9) (ho : σ 14 0 5 = o) (hF : InF σ)  (k : ∀ ρ : Mm, FS σ ρ → InF ρ → P none ρ) : WT (ea, true, eb) (d + 3) 14 [vR 14 0, vI v] σ P := by
  refine WT_in fun K hK => ?_
  have hK : StpY (ea, true, eb) cX1_append RX1 (none) (WT (ea, true, eb) (d + 2)) P K := hK
  have hM := hK.1
  have hC := hK.1.1
  show K 0 [some (vR 14 0), some (vI v)] [] σ
  refine r_aload_n hC dX1_append_0 rfl ?_
  refine z_getI (jz := 5) hM dX1_append_1 fl_RX1_30 rfl rfl rfl (fun v1 h_v1 o_v1 t_v1 => ?_)
  rw [(t_v1 (Or.inr (Or.inr (Or.inl ⟨rfl, rfl⟩)))).trans ho]
  rcases (by omega : (o < 0 ∨ 8 < o) ∨ o = 0 ∨ o = 1 ∨ o = 2 ∨ o = 3 ∨ o = 4 ∨ o = 5 ∨ o = 6 ∨ o = 7 ∨ o = 8) with h2 | h2 | h2 | h2 | h2 | h2 | h2 | h2 | h2 | h2
  · refine r_tableOut (tgt := 128) hC dX1_append_4 h2 rfl ?_
    refine r_aload_n hC dX1_append_128 rfl ?_
    refine r_iload_n hC dX1_append_129 rfl ?_
    refine z_inv1 hM dX1_append_130 vl_RX1_85 rfl rfl rfl (Nat.le_of_ble_eq_true rfl) (Nat.le_of_ble_eq_true rfl) ?_
    refine s_addElement (n0 := σ 17 0 0) (by omega) (hF.1 (by omega)) rfl (fun ρ3 g_ρ3 f_ρ3 => ?_)
    refine r_aload_n hC dX1_append_133 rfl ?_
    refine r_dup hC dX1_append_134 rfl ?_
    refine z_getI (jz := 6) hM dX1_append_135 fl_RX1_34 rfl rfl rfl (fun v4 h_v4 o_v4 t_v4 => ?_)
    refine r_iconst hC dX1_append_138 rfl ?_
    refine r_iaddG hC dX1_append_139 (fun v5 h_v5 => ?_)
    refine z_putIU (jz := 6) hM dX1_append_140 fw_RX1_34 rfl rfl rfl (by simp [Un, Tb, DL, DF, DR]) (by simp [Okv]) ?_
    refine y_vret hK rfl dX1_append_143 ?_
    exact k _ (g_ρ3) (⟨fun _ => f_ρ3, fun h => by have := (g_ρ3) 14 0 5 (by simp); omega⟩)
  · refine r_tableIn (tgt := 56) (off := 52) hC dX1_append_4 (by omega) (by omega) (by rw [h2]; rfl) rfl ?_
    refine r_aload_n hC dX1_append_56 rfl ?_
    refine r_iload_n hC dX1_append_57 rfl ?_
    refine z_inv1 hM dX1_append_58 vl_RX1_57 rfl rfl rfl (Nat.le_of_ble_eq_true rfl) (Nat.le_of_ble_eq_true rfl) ?_
    refine s_addGreatest (by omega) (fun ρ6 g_ρ6 => ?_)
    refine r_goto (tgt := 133) hC dX1_append_61 rfl ?_
    refine r_aload_n hC dX1_append_133 rfl ?_
    refine r_dup hC dX1_append_134 rfl ?_
    refine z_getI (jz := 6) hM dX1_append_135 fl_RX1_34 rfl rfl rfl (fun v7 h_v7 o_v7 t_v7 => ?_)
    refine r_iconst hC dX1_append_138 rfl ?_
    refine r_iaddG hC dX1_append_139 (fun v8 h_v8 => ?_)
    refine z_putIU (jz := 6) hM dX1_append_140 fw_RX1_34 rfl rfl rfl (by simp [Un, Tb, DL, DF, DR]) (by simp [Okv]) ?_
    refine y_vret hK rfl dX1_append_143 ?_
    exact k _ (g_ρ6) (⟨fun h => by have := (g_ρ6) 14 0 5 (by simp); omega, fun h => by have := (g_ρ6) 14 0 5 (by simp); omega⟩)
  · refine r_tableIn (tgt := 64) (off := 60) hC dX1_append_4 (by omega) (by omega) (by rw [h2]; rfl) rfl ?_
    refine r_aload_n hC dX1_append_64 rfl ?_
    refine r_iload_n hC dX1_append_65 rfl ?_
    refine z_inv1 hM dX1_append_66 vl_RX1_61 rfl rfl rfl (Nat.le_of_ble_eq_true rfl) (Nat.le_of_ble_eq_true rfl) ?_
    refine s_addShare (n0 := σ 17 0 0) (by omega) (hF.2 (by omega)) rfl (fun ρ9 g_ρ9 f_ρ9 => ?_)
    refine r_goto (tgt := 133) hC dX1_append_69 rfl ?_
    refine r_aload_n hC dX1_append_133 rfl ?_
    refine r_dup hC dX1_append_134 rfl ?_
    refine z_getI (jz := 6) hM dX1_append_135 fl_RX1_34 rfl rfl rfl (fun v10 h_v10 o_v10 t_v10 => ?_)
    refine r_iconst hC dX1_append_138 rfl ?_
    refine r_iaddG hC dX1_append_139 (fun v11 h_v11 => ?_)
    refine z_putIU (jz := 6) hM dX1_append_140 fw_RX1_34 rfl rfl rfl (by simp [Un, Tb, DL, DF, DR]) (by simp [Okv]) ?_
    refine y_vret hK rfl dX1_append_143 ?_
    exact k _ (g_ρ9) (⟨fun h => by have := (g_ρ9) 14 0 5 (by simp); omega, fun _ => f_ρ9⟩)
  · refine r_tableIn (tgt := 72) (off := 68) hC dX1_append_4 (by omega) (by omega) (by rw [h2]; rfl) rfl ?_
    refine r_aload_n hC dX1_append_72 rfl ?_
    refine r_iload_n hC dX1_append_73 rfl ?_
    refine z_inv1 hM dX1_append_74 vl_RX1_64 rfl rfl rfl (Nat.le_of_ble_eq_true rfl) (Nat.le_of_ble_eq_true rfl) ?_
    refine s_addLine (by omega) (fun ρ12 g_ρ12 => ?_)
    refine r_goto (tgt := 133) hC dX1_append_77 rfl ?_
    refine r_aload_n hC dX1_append_133 rfl ?_
    refine r_dup hC dX1_append_134 rfl ?_
    refine z_getI (jz := 6) hM dX1_append_135 fl_RX1_34 rfl rfl rfl (fun v13 h_v13 o_v13 t_v13 => ?_)
    refine r_iconst hC dX1_append_138 rfl ?_
    refine r_iaddG hC dX1_append_139 (fun v14 h_v14 => ?_)
    refine z_putIU (jz := 6) hM dX1_append_140 fw_RX1_34 rfl rfl rfl (by simp [Un, Tb, DL, DF, DR]) (by simp [Okv]) ?_
    refine y_vret hK rfl dX1_append_143 ?_
    exact k _ (g_ρ12) (⟨fun h => by have := (g_ρ12) 14 0 5 (by simp); omega, fun h => by have := (g_ρ12) 14 0 5 (by simp); omega⟩)
  · refine r_tableIn (tgt := 80) (off := 76) hC dX1_append_4 (by omega) (by omega) (by rw [h2]; rfl) rfl ?_
    refine r_aload_n hC dX1_append_80 rfl ?_
    refine r_iload_n hC dX1_append_81 rfl ?_
    refine z_inv1 hM dX1_append_82 vl_RX1_67 rfl rfl rfl (Nat.le_of_ble_eq_true rfl) (Nat.le_of_ble_eq_true rfl) ?_
    refine s_addRun (by omega) (fun ρ15 g_ρ15 => ?_)
    refine r_goto (tgt := 133) hC dX1_append_85 rfl ?_
    refine r_aload_n hC dX1_append_133 rfl ?_
    refine r_dup hC dX1_append_134 rfl ?_
    refine z_getI (jz := 6) hM dX1_append_135 fl_RX1_34 rfl rfl rfl (fun v16 h_v16 o_v16 t_v16 => ?_)
    refine r_iconst hC dX1_append_138 rfl ?_
    refine r_iaddG hC dX1_append_139 (fun v17 h_v17 => ?_)
    refine z_putIU (jz := 6) hM dX1_append_140 fw_RX1_34 rfl rfl rfl (by simp [Un, Tb, DL, DF, DR]) (by simp [Okv]) ?_
    refine y_vret hK rfl dX1_append_143 ?_
    exact k _ (g_ρ15) (⟨fun h => by have := (g_ρ15) 14 0 5 (by simp); omega, fun h => by have := (g_ρ15) 14 0 5 (by simp); omega⟩)
  · refine r_tableIn (tgt := 88) (off := 84) hC dX1_append_4 (by omega) (by omega) (by rw [h2]; rfl) rfl ?_
    refine r_aload_n hC dX1_append_88 rfl ?_
    refine r_iload_n hC dX1_append_89 rfl ?_
    refine z_inv1 hM dX1_append_90 vl_RX1_70 rfl rfl rfl (Nat.le_of_ble_eq_true rfl) (Nat.le_of_ble_eq_true rfl) ?_
    refine s_addLetter (by omega) (fun ρ18 g_ρ18 => ?_)
    refine r_goto (tgt := 133) hC dX1_append_93 rfl ?_
    refine r_aload_n hC dX1_append_133 rfl ?_
    refine r_dup hC dX1_append_134 rfl ?_
    refine z_getI (jz := 6) hM dX1_append_135 fl_RX1_34 rfl rfl rfl (fun v19 h_v19 o_v19 t_v19 => ?_)
    refine r_iconst hC dX1_append_138 rfl ?_
    refine r_iaddG hC dX1_append_139 (fun v20 h_v20 => ?_)
    refine z_putIU (jz := 6) hM dX1_append_140 fw_RX1_34 rfl rfl rfl (by simp [Un, Tb, DL, DF, DR]) (by simp [Okv]) ?_
    refine y_vret hK rfl dX1_append_143 ?_
    exact k _ (g_ρ18) (⟨fun h => by have := (g_ρ18) 14 0 5 (by simp); omega, fun h => by have := (g_ρ18) 14 0 5 (by simp); omega⟩)
  · refine r_tableIn (tgt := 96) (off := 92) hC dX1_append_4 (by omega) (by omega) (by rw [h2]; rfl) rfl ?_
    refine r_aload_n hC dX1_append_96 rfl ?_
    refine r_iload_n hC dX1_append_97 rfl ?_
    refine z_inv1 hM dX1_append_98 vl_RX1_73 rfl rfl rfl (Nat.le_of_ble_eq_true rfl) (Nat.le_of_ble_eq_true rfl) ?_
    refine s_addNest (by omega) (fun ρ21 g_ρ21 => ?_)
    refine r_goto (tgt := 133) hC dX1_append_101 rfl ?_
    refine r_aload_n hC dX1_append_133 rfl ?_
    refine r_dup hC dX1_append_134 rfl ?_
    refine z_getI (jz := 6) hM dX1_append_135 fl_RX1_34 rfl rfl rfl (fun v22 h_v22 o_v22 t_v22 => ?_)
    refine r_iconst hC dX1_append_138 rfl ?_
    refine r_iaddG hC dX1_append_139 (fun v23 h_v23 => ?_)
    refine z_putIU (jz := 6) hM dX1_append_140 fw_RX1_34 rfl rfl rfl (by simp [Un, Tb, DL, DF, DR]) (by simp [Okv]) ?_
    refine y_vret hK rfl dX1_append_143 ?_
    exact k _ (g_ρ21) (⟨fun h => by have := (g_ρ21) 14 0 5 (by simp); omega, fun h => by have := (g_ρ21) 14 0 5 (by simp); omega⟩)
  · refine r_tableIn (tgt := 104) (off := 100) hC dX1_append_4 (by omega) (by omega) (by rw [h2]; rfl) rfl ?_
    refine r_aload_n hC dX1_append_104 rfl ?_
    refine r_iload_n hC dX1_append_105 rfl ?_
    refine z_inv1 hM dX1_append_106 vl_RX1_76 rfl rfl rfl (Nat.le_of_ble_eq_true rfl) (Nat.le_of_ble_eq_true rfl) ?_
    refine s_addLike (by omega) (fun ρ24 g_ρ24 => ?_)
    refine r_goto (tgt := 133) hC dX1_append_109 rfl ?_
    refine r_aload_n hC dX1_append_133 rfl ?_
    refine r_dup hC dX1_append_134 rfl ?_
    refine z_getI (jz := 6) hM dX1_append_135 fl_RX1_34 rfl rfl rfl (fun v25 h_v25 o_v25 t_v25 => ?_)
    refine r_iconst hC dX1_append_138 rfl ?_
    refine r_iaddG hC dX1_append_139 (fun v26 h_v26 => ?_)
    refine z_putIU (jz := 6) hM dX1_append_140 fw_RX1_34 rfl rfl rfl (by simp [Un, Tb, DL, DF, DR]) (by simp [Okv]) ?_
    refine y_vret hK rfl dX1_append_143 ?_
    exact k _ (g_ρ24) (⟨fun h => by have := (g_ρ24) 14 0 5 (by simp); omega, fun h => by have := (g_ρ24) 14 0 5 (by simp); omega⟩)
  · refine r_tableIn (tgt := 112) (off := 108) hC dX1_append_4 (by omega) (by omega) (by rw [h2]; rfl) rfl ?_
    refine r_aload_n hC dX1_append_112 rfl ?_
    refine r_iload_n hC dX1_append_113 rfl ?_
    refine z_inv1 hM dX1_append_114 vl_RX1_79 rfl rfl rfl (Nat.le_of_ble_eq_true rfl) (Nat.le_of_ble_eq_true rfl) ?_
    refine s_addStep (by omega) (fun ρ27 g_ρ27 => ?_)
    refine r_goto (tgt := 133) hC dX1_append_117 rfl ?_
    refine r_aload_n hC dX1_append_133 rfl ?_
    refine r_dup hC dX1_append_134 rfl ?_
    refine z_getI (jz := 6) hM dX1_append_135 fl_RX1_34 rfl rfl rfl (fun v28 h_v28 o_v28 t_v28 => ?_)
    refine r_iconst hC dX1_append_138 rfl ?_
    refine r_iaddG hC dX1_append_139 (fun v29 h_v29 => ?_)
    refine z_putIU (jz := 6) hM dX1_append_140 fw_RX1_34 rfl rfl rfl (by simp [Un, Tb, DL, DF, DR]) (by simp [Okv]) ?_
    refine y_vret hK rfl dX1_append_143 ?_
    exact k _ (g_ρ27) (⟨fun h => by have := (g_ρ27) 14 0 5 (by simp); omega, fun h => by have := (g_ρ27) 14 0 5 (by simp); omega⟩)
  · refine r_tableIn (tgt := 120) (off := 116) hC dX1_append_4 (by omega) (by omega) (by rw [h2]; rfl) rfl ?_
    refine r_aload_n hC dX1_append_120 rfl ?_
    refine r_iload_n hC dX1_append_121 rfl ?_
    refine z_inv1 hM dX1_append_122 vl_RX1_82 rfl rfl rfl (Nat.le_of_ble_eq_true rfl) (Nat.le_of_ble_eq_true rfl) ?_
    refine s_addSpread (by omega) (fun ρ30 g_ρ30 => ?_)
    refine r_goto (tgt := 133) hC dX1_append_125 rfl ?_
    refine r_aload_n hC dX1_append_133 rfl ?_
    refine r_dup hC dX1_append_134 rfl ?_
    refine z_getI (jz := 6) hM dX1_append_135 fl_RX1_34 rfl rfl rfl (fun v31 h_v31 o_v31 t_v31 => ?_)
    refine r_iconst hC dX1_append_138 rfl ?_
    refine r_iaddG hC dX1_append_139 (fun v32 h_v32 => ?_)
    refine z_putIU (jz := 6) hM dX1_append_140 fw_RX1_34 rfl rfl rfl (by simp [Un, Tb, DL, DF, DR]) (by simp [Okv]) ?_
    refine y_vret hK rfl dX1_append_143 ?_
    exact k _ (g_ρ30) (⟨fun h => by have := (g_ρ30) 14 0 5 (by simp); omega, fun h => by have := (g_ρ30) 14 0 5 (by simp); omega⟩)
theorem s_append {ea eb : Bool} {d : Nat} {P : Option Vl → Mm → Prop} {σ : Mm} {v : Int} (b_v : -1000 ≤ v ∧ v ≤ 1000) (k : P none σ) : WT (ea, false, eb) (d + 3) 14 [vR 14 0, vI v] σ P := by
  refine WT_loose (ea, true, eb) (fun h => h) (fun h => by cases h) (fun c j q => ?_) (fun ρ hL hF hT hO => ?_)
  · rcases q with q | q | q | q
    · exact Or.inl q
    · exact Or.inr (Or.inl q)
    · cases q.1
    · exact Or.inr (Or.inr (Or.inr q))
  · refine s_appendS b_v (o := ρ 14 0 5) (hO 14 0 5 rfl) rfl (hF rfl) (fun ρ2 g f => ⟨σ, k, fun q => Or.inl q, fun _ => Or.inr f, fun c i j q => ?_⟩)
    refine (g c i j ?_).trans (hT c i j q)
    rintro ⟨rfl, rfl, rfl⟩
    rcases q with q | q | q | q
    · exact q
    · exact q.2
    · cases q.1
    · exact q.2
theorem s_fillN {ea eb : Bool} {d : Nat} {P : Option Vl → Mm → Prop} {σ : Mm} {v n0 : Int} (qg0 : σ 17 0 0 = n0)  (k : ∀ ρ : Mm, Gx (fun c x y => c = 17 ∧ x = 0 ∧ y = 0) σ ρ → ρ 17 0 0 = v → P none ρ) : WT (ea, true, eb) (d + 1) 266 [vR 17 0, vI v] σ P := by
  refine WT_in fun K hK => ?_
  have hK : StpY (ea, true, eb) cJ7_fill_53178 RJ7 (none) (WT (ea, true, eb) (d + 0)) P K := hK
  have hM := hK.1
  have hC := hK.1.1
  show K 0 [some (vR 17 0), some (vI v), none, none] [] σ
  refine r_rngz hC (fun g0 => ?_)
  have r_v : -2147483648 ≤ v ∧ v ≤ 2147483647 := inR_le (g0 (vI v) (by simp))
  refine r_iconst hC dJ7_fill_53178_0 rfl ?_
  refine r_istore_n hC dJ7_fill_53178_1 rfl ?_
  refine r_aload_n hC dJ7_fill_53178_2 rfl ?_
  refine z_alen (nz := 7) hM dJ7_fill_53178_3 rfl rfl (by decide) ?_
  refine r_istore_n hC dJ7_fill_53178_4 rfl ?_
  refine r_iload_n hC dJ7_fill_53178_5 rfl ?_
  refine r_iload_n hC dJ7_fill_53178_6 rfl ?_
  refine r_icmp_ge (tgt := 20) hC dJ7_fill_53178_7 rfl (fun h1 => by omega) (fun h1 => ?_)
  refine r_aload_n hC dJ7_fill_53178_10 rfl ?_
  refine r_iload_n hC dJ7_fill_53178_11 rfl ?_
  refine r_iload_n hC dJ7_fill_53178_12 rfl ?_
  refine z_iastG hM dJ7_fill_53178_13 rfl (by omega) (by omega) ⟨Or.inr (by simp [DL]), Or.inl rfl⟩ (by simp [Okv]; try omega) (fun ρ2 a_ρ2 q_ρ2 => ?_)
  refine r_iincE hC (1) dJ7_fill_53178_14 rfl rfl (by omega) (by unfold inR; omega) ?_
  show K _ [_, _, _, _] _ _
  refine r_goto (tgt := 5) hC dJ7_fill_53178_17 rfl ?_
  have L5 : ∀ (n5 : Nat) (w3 : Int) (ρ4 : Mm), 1 ≤ w3 ∧ w3 ≤ 7 → 7 - w3 < (n5 : Int) → Gx (fun c x y => c = 17 ∧ x = 0 ∧ y = 0) σ ρ4 → ρ4 17 0 0 = v → K 5 [some (vR 17 0), some (vI v), some (vI w3), some (vI 7)] [] ρ4 := by
    intro n5
    induction n5 with
    | zero => intro w3 ρ4 f_w3  hm g_ρ4 q0_ρ4; omega
    | succ n5 ih5 =>
      intro w3 ρ4 f_w3  hm5 g_ρ4 q0_ρ4
      refine r_iload_n hC dJ7_fill_53178_5 rfl ?_
      refine r_iload_n hC dJ7_fill_53178_6 rfl ?_
      refine r_icmp_ge (tgt := 20) hC dJ7_fill_53178_7 rfl (fun h5 => ?_) (fun h5 => ?_)
      · refine y_vret hK rfl dJ7_fill_53178_20 ?_
        exact k _ (g_ρ4) (by have hq := q0_ρ4; omega)
      · refine r_aload_n hC dJ7_fill_53178_10 rfl ?_
        refine r_iload_n hC dJ7_fill_53178_11 rfl ?_
        refine r_iload_n hC dJ7_fill_53178_12 rfl ?_
        refine z_iastU hM dJ7_fill_53178_13 rfl (by omega) (by omega) (by simp [Un, Tb, DL, DF, DR]; try omega) (by simp [Okv]) ?_
        refine r_iincE hC ((w3 + 1)) dJ7_fill_53178_14 rfl rfl (by omega) (by unfold inR; omega) ?_
        refine r_goto (tgt := 5) hC dJ7_fill_53178_17 rfl ?_
        exact ih5 ((w3 + 1)) ρ4 (by omega)  (by omega) (g_ρ4) (by have hq := q0_ρ4; omega)
  exact L5 8 (1) ρ2 (by omega)  (by omega) ((Gx.rf).al a_ρ2 (by first | simp | omega)) (by have hq := q_ρ2; omega)
theorem s_beginS {ea eb : Bool} {d : Nat} {P : Option Vl → Mm → Prop} {σ : Mm} {o o0 n0 : Int} (b_o : 0 ≤ o ∧ o ≤ 9) (b_o0 : 0 ≤ o0 ∧ o0 ≤ 9) (qg0 : σ 14 0 5 = o0) (qg1 : σ 17 0 0 = n0)  (k : ∀ ρ : Mm, Gx (fun c x y => c = 14 ∧ x = 0 ∧ y = 5 ∨ c = 17 ∧ x = 0 ∧ y = 0) σ ρ → InF ρ → P none ρ) : WT (ea, true, eb) (d + 2) 9 [vR 14 0, vI o] σ P := by
  refine WT_in fun K hK => ?_
  have hK : StpY (ea, true, eb) cX1_begin RX1 (none) (WT (ea, true, eb) (d + 1)) P K := hK
  have hM := hK.1
  have hC := hK.1.1
  show K 0 [some (vR 14 0), some (vI o), none] [] σ
  refine r_aload_n hC dX1_begin_0 rfl ?_
  refine r_iload_n hC dX1_begin_1 rfl ?_
  refine z_putIG (jz := 5) hM dX1_begin_2 fw_RX1_30 rfl rfl rfl ⟨Or.inr (by simp [DL]), Or.inl rfl⟩ (by simp [Okv]; try omega) (fun ρ1 a_ρ1 q_ρ1 => ?_)
  refine r_aload_n hC dX1_begin_5 rfl ?_
  refine r_iconst hC dX1_begin_6 rfl ?_
  refine z_putIU (jz := 6) hM dX1_begin_7 fw_RX1_34 rfl rfl rfl (by simp [Un, Tb, DL, DF, DR]) (by simp [Okv]) ?_
  refine r_aload_n hC dX1_begin_10 rfl ?_
  refine r_iconst hC dX1_begin_11 rfl ?_
  refine z_putIU (jz := 7) hM dX1_begin_12 fw_RX1_37 rfl rfl rfl (by simp [Un, Tb, DL, DF, DR]) (by simp [Okv]) ?_
  refine r_aload_n hC dX1_begin_15 rfl ?_
  refine z_getR hM dX1_begin_16 fl_RX1_24 rfl rfl (vld_of (n := 1) rfl (by omega) (by omega)) ?_
  refine r_iconst hC dX1_begin_19 rfl ?_
  refine z_ins2 hM dX1_begin_20 tl_RX1_18 rfl (Nat.le_of_ble_eq_true rfl) (Nat.le_of_ble_eq_true rfl) ?_
  refine s_fillN (n0 := n0) ((a_ρ1 _ _ _ (by omega)).trans qg1) (fun ρ2 a_ρ2 q_ρ2 => ?_)
  refine r_iload_n hC dX1_begin_23 rfl ?_
  refine r_iconst hC dX1_begin_24 rfl ?_
  refine r_icmp_ne (tgt := 38) hC dX1_begin_25 rfl (fun h3 => ?_) (fun h3 => ?_)
  · refine r_iload_n hC dX1_begin_38 rfl ?_
    refine r_iconst hC dX1_begin_39 rfl ?_
    refine r_icmp_ne (tgt := 66) hC dX1_begin_40 rfl (fun h4 => ?_) (fun h4 => ?_)
    · refine r_iload_n hC dX1_begin_66 rfl ?_
      refine r_bipush hC dX1_begin_67 rfl ?_
      refine r_icmp_ne (tgt := 88) hC dX1_begin_69 rfl (fun h5 => ?_) (fun h5 => ?_)
      · refine y_vret hK rfl dX1_begin_88 ?_
        exact k _ (((Gx.rf).al a_ρ1 (by first | simp | omega)).al a_ρ2 (by first | simp | omega)) ⟨fun h => by have hq := ((a_ρ2 _ _ _ (by omega)).trans q_ρ1); have hr := q_ρ2; omega, fun h => by have hq := ((a_ρ2 _ _ _ (by omega)).trans q_ρ1); have hr := q_ρ2; omega⟩
      · refine r_aload_n hC dX1_begin_72 rfl ?_
        refine z_getR hM dX1_begin_73 fl_RX1_24 rfl rfl (vld_of (n := 1) rfl (by omega) (by omega)) ?_
        refine r_iconst hC dX1_begin_76 rfl ?_
        refine r_ldc hC dX1_begin_77 co_RX1_40 rfl ?_
        refine z_iastG hM dX1_begin_79 rfl (by omega) (by omega) ⟨Or.inr (by simp [DL]), Or.inl rfl⟩ (by simp [Okv]; try omega) (fun ρ6 a_ρ6 q_ρ6 => ?_)
        refine r_aload_n hC dX1_begin_80 rfl ?_
        refine z_getR hM dX1_begin_81 fl_RX1_24 rfl rfl (vld_of (n := 1) rfl (by omega) (by omega)) ?_
        refine r_iconst hC dX1_begin_84 rfl ?_
        refine r_ldc hC dX1_begin_85 co_RX1_40 rfl ?_
        refine z_iastU hM dX1_begin_87 rfl (by omega) (by omega) (by simp [Un, Tb, DL, DF, DR]; try omega) (by simp [Okv]) ?_
        refine y_vret hK rfl dX1_begin_88 ?_
        exact k _ ((((Gx.rf).al a_ρ1 (by first | simp | omega)).al a_ρ2 (by first | simp | omega)).al a_ρ6 (by first | simp | omega)) ⟨fun h => by have hq := ((a_ρ6 _ _ _ (by omega)).trans ((a_ρ2 _ _ _ (by omega)).trans q_ρ1)); have hr := q_ρ6; omega, fun h => by have hq := ((a_ρ6 _ _ _ (by omega)).trans ((a_ρ2 _ _ _ (by omega)).trans q_ρ1)); have hr := q_ρ6; omega⟩
    · refine r_iconst hC dX1_begin_43 rfl ?_
      refine r_istore_n hC dX1_begin_44 rfl ?_
      refine r_iload_n hC dX1_begin_45 rfl ?_
      refine r_iconst hC dX1_begin_46 rfl ?_
      refine r_icmp_ge (tgt := 63) hC dX1_begin_47 rfl (fun h7 => by omega) (fun h7 => ?_)
      refine r_aload_n hC dX1_begin_50 rfl ?_
      refine z_getR hM dX1_begin_51 fl_RX1_24 rfl rfl (vld_of (n := 1) rfl (by omega) (by omega)) ?_
      refine r_iload_n hC dX1_begin_54 rfl ?_
      refine r_iload_n hC dX1_begin_55 rfl ?_
      refine z_iastG hM dX1_begin_56 rfl (by omega) (by omega) ⟨Or.inr (by simp [DL]), Or.inl rfl⟩ (by simp [Okv]; try omega) (fun ρ8 a_ρ8 q_ρ8 => ?_)
      refine r_iincE hC (1) dX1_begin_57 rfl rfl (by omega) (by unfold inR; omega) ?_
      refine r_goto (tgt := 45) hC dX1_begin_60 rfl ?_
      refine r_iload_n hC dX1_begin_45 rfl ?_
      refine r_iconst hC dX1_begin_46 rfl ?_
      refine r_icmp_ge (tgt := 63) hC dX1_begin_47 rfl (fun h9 => by omega) (fun h9 => ?_)
      refine r_aload_n hC dX1_begin_50 rfl ?_
      refine z_getR hM dX1_begin_51 fl_RX1_24 rfl rfl (vld_of (n := 1) rfl (by omega) (by omega)) ?_
      refine r_iload_n hC dX1_begin_54 rfl ?_
      refine r_iload_n hC dX1_begin_55 rfl ?_
      refine z_iastU hM dX1_begin_56 rfl (by omega) (by omega) (by simp [Un, Tb, DL, DF, DR]; try omega) (by simp [Okv]) ?_
      refine r_iincE hC (2) dX1_begin_57 rfl rfl (by omega) (by unfold inR; omega) ?_
      show K _ [_, _, _] _ _
      refine r_goto (tgt := 45) hC dX1_begin_60 rfl ?_
      refine r_iload_n hC dX1_begin_45 rfl ?_
      refine r_iconst hC dX1_begin_46 rfl ?_
      refine r_icmp_ge (tgt := 63) hC dX1_begin_47 rfl (fun h10 => by omega) (fun h10 => ?_)
      refine r_aload_n hC dX1_begin_50 rfl ?_
      refine z_getR hM dX1_begin_51 fl_RX1_24 rfl rfl (vld_of (n := 1) rfl (by omega) (by omega)) ?_
      refine r_iload_n hC dX1_begin_54 rfl ?_
      refine r_iload_n hC dX1_begin_55 rfl ?_
      refine z_iastU hM dX1_begin_56 rfl (by omega) (by omega) (by simp [Un, Tb, DL, DF, DR]; try omega) (by simp [Okv]) ?_
      refine r_iincE hC (3) dX1_begin_57 rfl rfl (by omega) (by unfold inR; omega) ?_
      refine r_goto (tgt := 45) hC dX1_begin_60 rfl ?_
      refine r_iload_n hC dX1_begin_45 rfl ?_
      refine r_iconst hC dX1_begin_46 rfl ?_
      refine r_icmp_ge (tgt := 63) hC dX1_begin_47 rfl (fun h11 => by omega) (fun h11 => ?_)
      refine r_aload_n hC dX1_begin_50 rfl ?_
      refine z_getR hM dX1_begin_51 fl_RX1_24 rfl rfl (vld_of (n := 1) rfl (by omega) (by omega)) ?_
      refine r_iload_n hC dX1_begin_54 rfl ?_
      refine r_iload_n hC dX1_begin_55 rfl ?_
      refine z_iastU hM dX1_begin_56 rfl (by omega) (by omega) (by simp [Un, Tb, DL, DF, DR]; try omega) (by simp [Okv]) ?_
      refine r_iincE hC (4) dX1_begin_57 rfl rfl (by omega) (by unfold inR; omega) ?_
      refine r_goto (tgt := 45) hC dX1_begin_60 rfl ?_
      refine r_iload_n hC dX1_begin_45 rfl ?_
      refine r_iconst hC dX1_begin_46 rfl ?_
      refine r_icmp_ge (tgt := 63) hC dX1_begin_47 rfl (fun h12 => ?_) (fun h12 => by omega)
      refine r_goto (tgt := 88) hC dX1_begin_63 rfl ?_
      refine y_vret hK rfl dX1_begin_88 ?_
      exact k _ ((((Gx.rf).al a_ρ1 (by first | simp | omega)).al a_ρ2 (by first | simp | omega)).al a_ρ8 (by first | simp | omega)) ⟨fun h => by have hq := ((a_ρ8 _ _ _ (by omega)).trans ((a_ρ2 _ _ _ (by omega)).trans q_ρ1)); have hr := q_ρ8; omega, fun h => by have hq := ((a_ρ8 _ _ _ (by omega)).trans ((a_ρ2 _ _ _ (by omega)).trans q_ρ1)); have hr := q_ρ8; omega⟩
  · refine r_aload_n hC dX1_begin_28 rfl ?_
    refine z_getR hM dX1_begin_29 fl_RX1_24 rfl rfl (vld_of (n := 1) rfl (by omega) (by omega)) ?_
    refine r_iconst hC dX1_begin_32 rfl ?_
    refine r_iconst hC dX1_begin_33 rfl ?_
    refine z_iastG hM dX1_begin_34 rfl (by omega) (by omega) ⟨Or.inr (by simp [DL]), Or.inl rfl⟩ (by simp [Okv]; try omega) (fun ρ13 a_ρ13 q_ρ13 => ?_)
    refine r_goto (tgt := 88) hC dX1_begin_35 rfl ?_
    refine y_vret hK rfl dX1_begin_88 ?_
    exact k _ ((((Gx.rf).al a_ρ1 (by first | simp | omega)).al a_ρ2 (by first | simp | omega)).al a_ρ13 (by first | simp | omega)) ⟨fun h => by have hq := ((a_ρ13 _ _ _ (by omega)).trans ((a_ρ2 _ _ _ (by omega)).trans q_ρ1)); have hr := q_ρ13; omega, fun h => by have hq := ((a_ρ13 _ _ _ (by omega)).trans ((a_ρ2 _ _ _ (by omega)).trans q_ρ1)); have hr := q_ρ13; omega⟩
theorem s_begin {ea eb : Bool} {d : Nat} {P : Option Vl → Mm → Prop} {σ : Mm} {o : Int} (b_o : 0 ≤ o ∧ o ≤ 9) (k : P none σ) : WT (ea, false, eb) (d + 2) 9 [vR 14 0, vI o] σ P := by
  refine WT_loose (ea, true, eb) (fun h => h) (fun h => by cases h) (fun c j q => ?_) (fun ρ hL hF hT hO => ?_)
  · rcases q with q | q | q | q
    · exact Or.inl q
    · exact Or.inr (Or.inl q)
    · cases q.1
    · exact Or.inr (Or.inr (Or.inr q))
  · refine s_beginS b_o (o0 := ρ 14 0 5) (hO 14 0 5 rfl) rfl (n0 := ρ 17 0 0) rfl (fun ρ2 g f => ⟨σ, k, fun q => Or.inl q, fun _ => Or.inr f, fun c i j q => ?_⟩)
    refine (g c i j ?_).trans (hT c i j q)
    rintro (⟨rfl, rfl, rfl⟩ | ⟨rfl, rfl, rfl⟩)
    all_goals
      rcases q with q | q | q | q
      · exact q
      · exact q.2
      · cases q.1
      · exact q.2
-- safety: what folds
theorem s_foldPart {ea eb : Bool} {d : Nat} {P : Option Vl → Mm → Prop} {σ : Mm} {i f z : Int} (b_i : 0 ≤ i ∧ i ≤ 6) (b_f : 0 ≤ f ∧ f ≤ 121) (b_z : -2147483648 ≤ z ∧ z ≤ 121)  (k : P none σ) : WT (ea, false, eb) (d + 4) 134 [vR 2 0, vR 7 i, vI f, vI z] σ P := by
  refine WT_in fun K hK => ?_
  have hK : StpY (ea, false, eb) cX5_foldPart RX5 (none) (WT (ea, false, eb) (d + 3)) P K := hK
  have hM := hK.1
  have hC := hK.1.1
  show K 0 [some (vR 2 0), some (vR 7 i), some (vI f), some (vI z), none] [] σ
  refine r_aload_n hC dX5_foldPart_0 rfl ?_
  refine z_getR hM dX5_foldPart_1 fl_RX5_40 rfl rfl (vld_of (n := 1) rfl (by omega) (by omega)) ?_
  refine r_aload_n hC dX5_foldPart_4 rfl ?_
  refine z_getI (jz := 2) hM dX5_foldPart_5 fl_RX5_98 rfl rfl rfl (fun v1 h_v1 o_v1 t_v1 => ?_)
  have q_v1 : 0 ≤ v1 ∧ v1 ≤ 9 := o_v1.2.2 rfl
  refine z_inv1 hM dX5_foldPart_8 vl_RX5_251 rfl rfl rfl (Nat.le_of_ble_eq_true rfl) (Nat.le_of_ble_eq_true rfl) ?_
  refine s_begin (by omega) ?_
  refine r_iload_n hC dX5_foldPart_11 rfl ?_
  refine r_istore hC dX5_foldPart_12 rfl ?_
  have L14 : ∀ (n14 : Nat) (w2 : Int), 0 ≤ w2 ∧ w2 ≤ 121 → 121 - w2 < (n14 : Int) → K 14 [some (vR 2 0), some (vR 7 i), some (vI f), some (vI z), some (vI w2)] [] σ := by
    intro n14
    induction n14 with
    | zero => intro w2  f_w2  hm ; omega
    | succ n14 ih14 =>
      intro w2  f_w2  hm14 
      refine r_iload hC dX5_foldPart_14 rfl ?_
      refine r_iload_n hC dX5_foldPart_16 rfl ?_
      refine r_icmp_ge (tgt := 40) hC dX5_foldPart_17 rfl (fun h3 => ?_) (fun h3 => ?_)
      · refine y_vret hK rfl dX5_foldPart_40 ?_
        exact k
      · refine r_aload_n hC dX5_foldPart_20 rfl ?_
        refine z_getR hM dX5_foldPart_21 fl_RX5_40 rfl rfl (vld_of (n := 1) rfl (by omega) (by omega)) ?_
        refine r_aload_n hC dX5_foldPart_24 rfl ?_
        refine z_getR hM dX5_foldPart_25 fl_RX5_176 rfl rfl (vld_of (n := 7) rfl (by omega) (by omega)) ?_
        refine r_iload hC dX5_foldPart_28 rfl ?_
        refine z_iald hM dX5_foldPart_30 rfl (by omega) (by omega) (fun v4 h_v4 o_v4 t_v4 => ?_)
        have q_v4 : -1000 ≤ v4 ∧ v4 ≤ 1000 := o_v4
        refine z_inv1 hM dX5_foldPart_31 vl_RX5_253 rfl rfl rfl (Nat.le_of_ble_eq_true rfl) (Nat.le_of_ble_eq_true rfl) ?_
        refine s_append (by omega) ?_
        refine r_iincE hC ((w2 + 1)) dX5_foldPart_34 rfl rfl (by omega) (by unfold inR; omega) ?_
        refine r_goto (tgt := 14) hC dX5_foldPart_37 rfl ?_
        exact ih14 ((w2 + 1))  (by omega)  (by omega) 
  exact L14 123 (f)  (by omega)  (by omega) 
theorem s_comesTo {ea eb : Bool} {d : Nat} {P : Option Vl → Mm → Prop} {σ : Mm} {i f z w : Int} (b_i : 0 ≤ i ∧ i ≤ 6) (b_f : 0 ≤ f ∧ f ≤ 121) (b_z : -2147483648 ≤ z ∧ z ≤ 121)  (k : ∀ r : Int, -2147483648 ≤ r ∧ r ≤ 2147483647 → P (some (vI r)) σ) : WT (ea, false, eb) (d + 5) 132 [vR 2 0, vR 7 i, vI f, vI z, vI w] σ P := by
  refine WT_in fun K hK => ?_
  have hK : StpY (ea, false, eb) cX5_comesTo RX5 (some .int) (WT (ea, false, eb) (d + 4)) P K := hK
  have hM := hK.1
  have hC := hK.1.1
  show K 0 [some (vR 2 0), some (vR 7 i), some (vI f), some (vI z), some (vI w)] [] σ
  refine r_rngz hC (fun g0 => ?_)
  have r_w : -2147483648 ≤ w ∧ w ≤ 2147483647 := inR_le (g0 (vI w) (by simp))
  refine r_aload_n hC dX5_comesTo_0 rfl ?_
  refine r_aload_n hC dX5_comesTo_1 rfl ?_
  refine r_iload_n hC dX5_comesTo_2 rfl ?_
  refine r_iload_n hC dX5_comesTo_3 rfl ?_
  refine z_inv3 hM dX5_comesTo_4 vl_RX5_259 rfl rfl rfl (Nat.le_of_ble_eq_true rfl) (Nat.le_of_ble_eq_true rfl) ?_
  refine s_foldPart (by omega) (by omega) (by omega) ?_
  refine r_aload_n hC dX5_comesTo_7 rfl ?_
  refine z_getR hM dX5_comesTo_8 fl_RX5_40 rfl rfl (vld_of (n := 1) rfl (by omega) (by omega)) ?_
  refine r_iload hC dX5_comesTo_11 rfl ?_
  refine z_inv1 hM dX5_comesTo_13 vl_RX5_273 rfl rfl rfl (Nat.le_of_ble_eq_true rfl) (Nat.le_of_ble_eq_true rfl) ?_
  refine s_number (fun v1 h_v1 => ?_)
  refine y_iret hK rfl dX5_comesTo_16 ?_
  exact k _ (by omega)
theorem s_comesToWithout {ea eb : Bool} {d : Nat} {P : Option Vl → Mm → Prop} {σ : Mm} {i x w : Int} (b_i : 0 ≤ i ∧ i ≤ 6) (b_x : 0 ≤ x ∧ x ≤ 120)  (k : ∀ r : Int, -2147483648 ≤ r ∧ r ≤ 2147483647 → P (some (vI r)) σ) : WT (ea, false, eb) (d + 5) 133 [vR 2 0, vR 7 i, vI x, vI w] σ P := by
  refine WT_in fun K hK => ?_
  have hK : StpY (ea, false, eb) cX5_comesToWithout RX5 (some .int) (WT (ea, false, eb) (d + 4)) P K := hK
  have hM := hK.1
  have hC := hK.1.1
  show K 0 [some (vR 2 0), some (vR 7 i), some (vI x), some (vI w), none] [] σ
  refine r_rngz hC (fun g0 => ?_)
  have r_w : -2147483648 ≤ w ∧ w ≤ 2147483647 := inR_le (g0 (vI w) (by simp))
  refine r_aload_n hC dX5_comesToWithout_0 rfl ?_
  refine r_aload_n hC dX5_comesToWithout_1 rfl ?_
  refine r_iconst hC dX5_comesToWithout_2 rfl ?_
  refine r_iload_n hC dX5_comesToWithout_3 rfl ?_
  refine z_inv3 hM dX5_comesToWithout_4 vl_RX5_259 rfl rfl rfl (Nat.le_of_ble_eq_true rfl) (Nat.le_of_ble_eq_true rfl) ?_
  refine s_foldPart (by omega) (by omega) (by omega) ?_
  refine r_iload_n hC dX5_comesToWithout_7 rfl ?_
  refine r_iconst hC dX5_comesToWithout_8 rfl ?_
  refine r_iaddE hC ((x + 1)) dX5_comesToWithout_9 (by omega) (by unfold inR; omega) ?_
  refine r_istore hC dX5_comesToWithout_10 rfl ?_
  have L12 : ∀ (n12 : Nat) (w1 : Int), 1 ≤ w1 ∧ w1 ≤ 121 → 121 - w1 < (n12 : Int) → K 12 [some (vR 2 0), some (vR 7 i), some (vI x), some (vI w), some (vI w1)] [] σ := by
    intro n12
    induction n12 with
    | zero => intro w1  f_w1  hm ; omega
    | succ n12 ih12 =>
      intro w1  f_w1  hm12 
      refine r_iload hC dX5_comesToWithout_12 rfl ?_
      refine r_aload_n hC dX5_comesToWithout_14 rfl ?_
      refine z_getI (jz := 6) hM dX5_comesToWithout_15 fl_RX5_154 rfl rfl rfl (fun v2 h_v2 o_v2 t_v2 => ?_)
      have q_v2 : 0 ≤ v2 ∧ v2 ≤ 121 := o_v2.1 rfl
      refine r_icmp_ge (tgt := 41) hC dX5_comesToWithout_18 rfl (fun h3 => ?_) (fun h3 => ?_)
      · refine r_aload_n hC dX5_comesToWithout_41 rfl ?_
        refine z_getR hM dX5_comesToWithout_42 fl_RX5_40 rfl rfl (vld_of (n := 1) rfl (by omega) (by omega)) ?_
        refine r_iload_n hC dX5_comesToWithout_45 rfl ?_
        refine z_inv1 hM dX5_comesToWithout_46 vl_RX5_273 rfl rfl rfl (Nat.le_of_ble_eq_true rfl) (Nat.le_of_ble_eq_true rfl) ?_
        refine s_number (fun v4 h_v4 => ?_)
        refine y_iret hK rfl dX5_comesToWithout_49 ?_
        exact k _ (by omega)
      · refine r_aload_n hC dX5_comesToWithout_21 rfl ?_
        refine z_getR hM dX5_comesToWithout_22 fl_RX5_40 rfl rfl (vld_of (n := 1) rfl (by omega) (by omega)) ?_
        refine r_aload_n hC dX5_comesToWithout_25 rfl ?_
        refine z_getR hM dX5_comesToWithout_26 fl_RX5_176 rfl rfl (vld_of (n := 7) rfl (by omega) (by omega)) ?_
        refine r_iload hC dX5_comesToWithout_29 rfl ?_
        refine z_iald hM dX5_comesToWithout_31 rfl (by omega) (by omega) (fun v5 h_v5 o_v5 t_v5 => ?_)
        have q_v5 : -1000 ≤ v5 ∧ v5 ≤ 1000 := o_v5
        refine z_inv1 hM dX5_comesToWithout_32 vl_RX5_253 rfl rfl rfl (Nat.le_of_ble_eq_true rfl) (Nat.le_of_ble_eq_true rfl) ?_
        refine s_append (by omega) ?_
        refine r_iincE hC ((w1 + 1)) dX5_comesToWithout_35 rfl rfl (by omega) (by unfold inR; omega) ?_
        refine r_goto (tgt := 12) hC dX5_comesToWithout_38 rfl ?_
        exact ih12 ((w1 + 1))  (by omega)  (by omega) 
  exact L12 122 ((x + 1))  (by omega)  (by omega) 
theorem s_total {ea eb : Bool} {d : Nat} {P : Option Vl → Mm → Prop} {σ : Mm} {l w : Int}   (k : ∀ r : Int, -2147483648 ≤ r ∧ r ≤ 2147483647 → P (some (vI r)) σ) : WT (ea, false, eb) (d + 6) 73 [vR 2 0, vI l, vI w] σ P := by
  refine WT_in fun K hK => ?_
  have hK : StpY (ea, false, eb) cX5_total RX5 (some .int) (WT (ea, false, eb) (d + 5)) P K := hK
  have hM := hK.1
  have hC := hK.1.1
  show K 0 [some (vR 2 0), some (vI l), some (vI w), none] [] σ
  refine r_rngz hC (fun g0 => ?_)
  have r_l : -2147483648 ≤ l ∧ l ≤ 2147483647 := inR_le (g0 (vI l) (by simp))
  have r_w : -2147483648 ≤ w ∧ w ≤ 2147483647 := inR_le (g0 (vI w) (by simp))
  refine r_aload_n hC dX5_total_0 rfl ?_
  refine r_iload_n hC dX5_total_1 rfl ?_
  refine r_iload_n hC dX5_total_2 rfl ?_
  refine z_inv2 hM dX5_total_3 vl_RX5_248 rfl rfl rfl (Nat.le_of_ble_eq_true rfl) (Nat.le_of_ble_eq_true rfl) ?_
  refine s_laneWith ?_ (fun h1 => ?_)
  · refine r_astoreN_n hC dX5_total_6 rfl ?_
    refine r_aloadN_n hC dX5_total_7 rfl ?_
    refine r_ifnonnullN hC dX5_total_8 ?_
    refine r_ldc hC dX5_total_11 co_RX5_175 rfl ?_
    refine r_goto (tgt := 27) hC dX5_total_13 rfl ?_
    refine y_iret hK rfl dX5_total_27 ?_
    exact k _ (by omega)
  · refine r_astore_n hC dX5_total_6 rfl ?_
    refine r_aload_n hC dX5_total_7 rfl ?_
    refine r_ifnonnullR (tgt := 16) hC dX5_total_8 rfl ?_
    refine r_aload_n hC dX5_total_16 rfl ?_
    refine r_aload_n hC dX5_total_17 rfl ?_
    refine r_iconst hC dX5_total_18 rfl ?_
    refine r_aload_n hC dX5_total_19 rfl ?_
    refine z_getI (jz := 6) hM dX5_total_20 fl_RX5_154 rfl rfl rfl (fun v2 h_v2 o_v2 t_v2 => ?_)
    have q_v2 : 0 ≤ v2 ∧ v2 ≤ 121 := o_v2.1 rfl
    refine r_iload_n hC dX5_total_23 rfl ?_
    refine z_inv4 hM dX5_total_24 vl_RX5_227 rfl rfl rfl (Nat.le_of_ble_eq_true rfl) (Nat.le_of_ble_eq_true rfl) ?_
    refine s_comesTo (by omega) (by omega) (by omega) (fun v3 h_v3 => ?_)
    refine y_iret hK rfl dX5_total_27 ?_
    exact k _ (by omega)
theorem s_part {ea eb : Bool} {d : Nat} {P : Option Vl → Mm → Prop} {σ : Mm} {l f z w : Int}   (k : ∀ r : Int, -2147483648 ≤ r ∧ r ≤ 2147483647 → P (some (vI r)) σ) : WT (ea, false, eb) (d + 6) 74 [vR 2 0, vI l, vI f, vI z, vI w] σ P := by
  refine WT_in fun K hK => ?_
  have hK : StpY (ea, false, eb) cX5_part RX5 (some .int) (WT (ea, false, eb) (d + 5)) P K := hK
  have hM := hK.1
  have hC := hK.1.1
  show K 0 [some (vR 2 0), some (vI l), some (vI f), some (vI z), some (vI w), none] [] σ
  refine r_rngz hC (fun g0 => ?_)
  have r_l : -2147483648 ≤ l ∧ l ≤ 2147483647 := inR_le (g0 (vI l) (by simp))
  have r_f : -2147483648 ≤ f ∧ f ≤ 2147483647 := inR_le (g0 (vI f) (by simp))
  have r_z : -2147483648 ≤ z ∧ z ≤ 2147483647 := inR_le (g0 (vI z) (by simp))
  have r_w : -2147483648 ≤ w ∧ w ≤ 2147483647 := inR_le (g0 (vI w) (by simp))
  refine r_aload_n hC dX5_part_0 rfl ?_
  refine r_iload_n hC dX5_part_1 rfl ?_
  refine r_iload hC dX5_part_2 rfl ?_
  refine z_inv2 hM dX5_part_4 vl_RX5_248 rfl rfl rfl (Nat.le_of_ble_eq_true rfl) (Nat.le_of_ble_eq_true rfl) ?_
  refine s_laneWith ?_ (fun h1 => ?_)
  · refine r_astoreN hC dX5_part_7 rfl ?_
    refine r_aloadN hC dX5_part_9 rfl ?_
    refine r_ifnullN (tgt := 32) hC dX5_part_11 rfl ?_
    refine r_ldc hC dX5_part_32 co_RX5_175 rfl ?_
    refine y_iret hK rfl dX5_part_34 ?_
    exact k _ (by omega)
  · refine r_astore hC dX5_part_7 rfl ?_
    refine r_aload hC dX5_part_9 rfl ?_
    refine r_ifnullR hC dX5_part_11 ?_
    refine r_iload_n hC dX5_part_14 rfl ?_
    refine r_if_lt (tgt := 32) hC dX5_part_15 rfl (fun h2 => ?_) (fun h2 => ?_)
    · refine r_ldc hC dX5_part_32 co_RX5_175 rfl ?_
      refine y_iret hK rfl dX5_part_34 ?_
      exact k _ (by omega)
    · refine r_iload_n hC dX5_part_18 rfl ?_
      refine r_iload_n hC dX5_part_19 rfl ?_
      refine r_icmp_lt (tgt := 32) hC dX5_part_20 rfl (fun h3 => ?_) (fun h3 => ?_)
      · refine r_ldc hC dX5_part_32 co_RX5_175 rfl ?_
        refine y_iret hK rfl dX5_part_34 ?_
        exact k _ (by omega)
      · refine r_iload_n hC dX5_part_23 rfl ?_
        refine r_aload hC dX5_part_24 rfl ?_
        refine z_getI (jz := 6) hM dX5_part_26 fl_RX5_154 rfl rfl rfl (fun v4 h_v4 o_v4 t_v4 => ?_)
        have q_v4 : 0 ≤ v4 ∧ v4 ≤ 121 := o_v4.1 rfl
        refine r_icmp_lt (tgt := 35) hC dX5_part_29 rfl (fun h5 => ?_) (fun h5 => ?_)
        · refine r_aload_n hC dX5_part_35 rfl ?_
          refine r_aload hC dX5_part_36 rfl ?_
          refine r_iload_n hC dX5_part_38 rfl ?_
          refine r_iload_n hC dX5_part_39 rfl ?_
          refine r_iconst hC dX5_part_40 rfl ?_
          refine r_iaddE hC ((z + 1)) dX5_part_41 (by omega) (by unfold inR; omega) ?_
          refine r_iload hC dX5_part_42 rfl ?_
          refine z_inv4 hM dX5_part_44 vl_RX5_227 rfl rfl rfl (Nat.le_of_ble_eq_true rfl) (Nat.le_of_ble_eq_true rfl) ?_
          refine s_comesTo (by omega) (by omega) (by omega) (fun v6 h_v6 => ?_)
          refine y_iret hK rfl dX5_part_47 ?_
          exact k _ (by omega)
        · refine r_ldc hC dX5_part_32 co_RX5_175 rfl ?_
          refine y_iret hK rfl dX5_part_34 ?_
          exact k _ (by omega)
theorem s_during {ea eb : Bool} {d : Nat} {P : Option Vl → Mm → Prop} {σ : Mm} {l f z w : Int}   (k : ∀ r : Int, -2147483648 ≤ r ∧ r ≤ 2147483647 → P (some (vI r)) σ) : WT (ea, false, eb) (d + 6) 75 [vR 2 0, vI l, vI f, vI z, vI w] σ P := by
  refine WT_in fun K hK => ?_
  have hK : StpY (ea, false, eb) cX5_during RX5 (some .int) (WT (ea, false, eb) (d + 5)) P K := hK
  have hM := hK.1
  have hC := hK.1.1
  show K 0 [some (vR 2 0), some (vI l), some (vI f), some (vI z), some (vI w), none] [] σ
  refine r_rngz hC (fun g0 => ?_)
  have r_l : -2147483648 ≤ l ∧ l ≤ 2147483647 := inR_le (g0 (vI l) (by simp))
  have r_f : -2147483648 ≤ f ∧ f ≤ 2147483647 := inR_le (g0 (vI f) (by simp))
  have r_z : -2147483648 ≤ z ∧ z ≤ 2147483647 := inR_le (g0 (vI z) (by simp))
  have r_w : -2147483648 ≤ w ∧ w ≤ 2147483647 := inR_le (g0 (vI w) (by simp))
  refine r_aload_n hC dX5_during_0 rfl ?_
  refine r_iload_n hC dX5_during_1 rfl ?_
  refine r_iload hC dX5_during_2 rfl ?_
  refine z_inv2 hM dX5_during_4 vl_RX5_248 rfl rfl rfl (Nat.le_of_ble_eq_true rfl) (Nat.le_of_ble_eq_true rfl) ?_
  refine s_laneWith ?_ (fun h1 => ?_)
  · refine r_astoreN hC dX5_during_7 rfl ?_
    refine r_aloadN hC dX5_during_9 rfl ?_
    refine r_ifnonnullN hC dX5_during_11 ?_
    refine r_ldc hC dX5_during_14 co_RX5_175 rfl ?_
    refine r_goto (tgt := 43) hC dX5_during_16 rfl ?_
    refine y_iret hK rfl dX5_during_43 ?_
    exact k _ (by omega)
  · refine r_astore hC dX5_during_7 rfl ?_
    refine r_aload hC dX5_during_9 rfl ?_
    refine r_ifnonnullR (tgt := 19) hC dX5_during_11 rfl ?_
    refine r_aload_n hC dX5_during_19 rfl ?_
    refine r_aload hC dX5_during_20 rfl ?_
    refine r_aload hC dX5_during_22 rfl ?_
    refine r_iload_n hC dX5_during_24 rfl ?_
    refine r_i2l hC dX5_during_25 ?_
    refine r_lconst hC dX5_during_26 (a := 1) rfl ?_
    refine r_lsub hC dX5_during_27 ?_
    refine z_inv1 hM dX5_during_28 vl_RX5_167 rfl rfl rfl (Nat.le_of_ble_eq_true rfl) (Nat.le_of_ble_eq_true rfl) ?_
    refine s_heldUntil (by omega) (fun v2 h_v2 => ?_)
    refine r_aload hC dX5_during_31 rfl ?_
    refine r_iload_n hC dX5_during_33 rfl ?_
    refine r_i2l hC dX5_during_34 ?_
    refine z_inv1 hM dX5_during_35 vl_RX5_167 rfl rfl rfl (Nat.le_of_ble_eq_true rfl) (Nat.le_of_ble_eq_true rfl) ?_
    refine s_heldUntil (by omega) (fun v3 h_v3 => ?_)
    refine r_iload hC dX5_during_38 rfl ?_
    refine z_inv4 hM dX5_during_40 vl_RX5_227 rfl rfl rfl (Nat.le_of_ble_eq_true rfl) (Nat.le_of_ble_eq_true rfl) ?_
    refine s_comesTo (by omega) (by omega) (by omega) (fun v4 h_v4 => ?_)
    refine y_iret hK rfl dX5_during_43 ?_
    exact k _ (by omega)
theorem s_reach {ea eb : Bool} {d : Nat} {P : Option Vl → Mm → Prop} {σ : Mm} {l w b : Int}   (k : ∀ r : Int, -1 ≤ r ∧ r ≤ 121 → P (some (vI r)) σ) : WT (ea, false, eb) (d + 5) 77 [vR 2 0, vI l, vI w, vI b] σ P := by
  refine WT_in fun K hK => ?_
  have hK : StpY (ea, false, eb) cX5_reach RX5 (some .int) (WT (ea, false, eb) (d + 4)) P K := hK
  have hM := hK.1
  have hC := hK.1.1
  show K 0 [some (vR 2 0), some (vI l), some (vI w), some (vI b), none, none] [] σ
  refine r_rngz hC (fun g0 => ?_)
  have r_l : -2147483648 ≤ l ∧ l ≤ 2147483647 := inR_le (g0 (vI l) (by simp))
  have r_w : -2147483648 ≤ w ∧ w ≤ 2147483647 := inR_le (g0 (vI w) (by simp))
  have r_b : -2147483648 ≤ b ∧ b ≤ 2147483647 := inR_le (g0 (vI b) (by simp))
  refine r_aload_n hC dX5_reach_0 rfl ?_
  refine r_iload_n hC dX5_reach_1 rfl ?_
  refine r_iload_n hC dX5_reach_2 rfl ?_
  refine z_inv2 hM dX5_reach_3 vl_RX5_248 rfl rfl rfl (Nat.le_of_ble_eq_true rfl) (Nat.le_of_ble_eq_true rfl) ?_
  refine s_laneWith ?_ (fun h1 => ?_)
  · refine r_astoreN hC dX5_reach_6 rfl ?_
    refine r_aloadN hC dX5_reach_8 rfl ?_
    refine r_ifnonnullN hC dX5_reach_10 ?_
    refine r_iconst hC dX5_reach_13 rfl ?_
    refine y_iret hK rfl dX5_reach_14 ?_
    exact k _ (by omega)
  · refine r_astore hC dX5_reach_6 rfl ?_
    refine r_aload hC dX5_reach_8 rfl ?_
    refine r_ifnonnullR (tgt := 15) hC dX5_reach_10 rfl ?_
    refine r_aload_n hC dX5_reach_15 rfl ?_
    refine z_getR hM dX5_reach_16 fl_RX5_40 rfl rfl (vld_of (n := 1) rfl (by omega) (by omega)) ?_
    refine r_aload hC dX5_reach_19 rfl ?_
    refine z_getI (jz := 2) hM dX5_reach_21 fl_RX5_98 rfl rfl rfl (fun v2 h_v2 o_v2 t_v2 => ?_)
    have q_v2 : 0 ≤ v2 ∧ v2 ≤ 9 := o_v2.2.2 rfl
    refine z_inv1 hM dX5_reach_24 vl_RX5_251 rfl rfl rfl (Nat.le_of_ble_eq_true rfl) (Nat.le_of_ble_eq_true rfl) ?_
    refine s_begin (by omega) ?_
    refine r_iconst hC dX5_reach_27 rfl ?_
    refine r_istore hC dX5_reach_28 rfl ?_
    have L30 : ∀ (n30 : Nat) (w3 : Int), 0 ≤ w3 ∧ w3 ≤ 121 → 121 - w3 < (n30 : Int) → K 30 [some (vR 2 0), some (vI l), some (vI w), some (vI b), some (vR 7 l), some (vI w3)] [] σ := by
      intro n30
      induction n30 with
      | zero => intro w3  f_w3  hm ; omega
      | succ n30 ih30 =>
        intro w3  f_w3  hm30 
        refine r_iload hC dX5_reach_30 rfl ?_
        refine r_aload hC dX5_reach_32 rfl ?_
        refine z_getI (jz := 6) hM dX5_reach_34 fl_RX5_154 rfl rfl rfl (fun v4 h_v4 o_v4 t_v4 => ?_)
        have q_v4 : 0 ≤ v4 ∧ v4 ≤ 121 := o_v4.1 rfl
        refine r_icmp_ge (tgt := 78) hC dX5_reach_37 rfl (fun h5 => ?_) (fun h5 => ?_)
        · refine r_iconst hC dX5_reach_78 rfl ?_
          refine y_iret hK rfl dX5_reach_79 ?_
          exact k _ (by omega)
        · refine r_aload_n hC dX5_reach_40 rfl ?_
          refine z_getR hM dX5_reach_41 fl_RX5_40 rfl rfl (vld_of (n := 1) rfl (by omega) (by omega)) ?_
          refine r_aload hC dX5_reach_44 rfl ?_
          refine z_getR hM dX5_reach_46 fl_RX5_176 rfl rfl (vld_of (n := 7) rfl (by omega) (by omega)) ?_
          refine r_iload hC dX5_reach_49 rfl ?_
          refine z_iald hM dX5_reach_51 rfl (by omega) (by omega) (fun v6 h_v6 o_v6 t_v6 => ?_)
          have q_v6 : -1000 ≤ v6 ∧ v6 ≤ 1000 := o_v6
          refine z_inv1 hM dX5_reach_52 vl_RX5_253 rfl rfl rfl (Nat.le_of_ble_eq_true rfl) (Nat.le_of_ble_eq_true rfl) ?_
          refine s_append (by omega) ?_
          refine r_aload_n hC dX5_reach_55 rfl ?_
          refine z_getR hM dX5_reach_56 fl_RX5_40 rfl rfl (vld_of (n := 1) rfl (by omega) (by omega)) ?_
          refine r_iload_n hC dX5_reach_59 rfl ?_
          refine r_iload_n hC dX5_reach_60 rfl ?_
          refine z_inv2 hM dX5_reach_61 vl_RX5_256 rfl rfl rfl (Nat.le_of_ble_eq_true rfl) (Nat.le_of_ble_eq_true rfl) ?_
          refine s_reaches (fun v7 h_v7 => ?_)
          refine r_if_eq (tgt := 72) hC dX5_reach_64 rfl (fun h8 => ?_) (fun h8 => ?_)
          · refine r_iincE hC ((w3 + 1)) dX5_reach_72 rfl rfl (by omega) (by unfold inR; omega) ?_
            refine r_goto (tgt := 30) hC dX5_reach_75 rfl ?_
            exact ih30 ((w3 + 1))  (by omega)  (by omega) 
          · refine r_iload hC dX5_reach_67 rfl ?_
            refine r_iconst hC dX5_reach_69 rfl ?_
            refine r_iaddE hC ((w3 + 1)) dX5_reach_70 (by omega) (by unfold inR; omega) ?_
            refine y_iret hK rfl dX5_reach_71 ?_
            exact k _ (by omega)
    exact L30 123 (0)  (by omega)  (by omega) 
theorem s_peakAt {ea eb : Bool} {d : Nat} {P : Option Vl → Mm → Prop} {σ : Mm} {l m w : Int}   (k0 : P (some (vI (-1))) σ) (k1 : ∀ r : Int, 0 ≤ l ∧ l ≤ 3 ∧ 1 ≤ m ∧ 0 ≤ r ∧ r + m ≤ 121 → P (some (vI r)) σ) : WT (ea, false, eb) (d + 6) 80 [vR 2 0, vI l, vI m, vI w] σ P := by
  refine WT_in fun K hK => ?_
  have hK : StpY (ea, false, eb) cX5_peakAt RX5 (some .int) (WT (ea, false, eb) (d + 5)) P K := hK
  have hM := hK.1
  have hC := hK.1.1
  show K 0 [some (vR 2 0), some (vI l), some (vI m), some (vI w), none, none, none, none, none] [] σ
  refine r_rngz hC (fun g0 => ?_)
  have r_l : -2147483648 ≤ l ∧ l ≤ 2147483647 := inR_le (g0 (vI l) (by simp))
  have r_m : -2147483648 ≤ m ∧ m ≤ 2147483647 := inR_le (g0 (vI m) (by simp))
  have r_w : -2147483648 ≤ w ∧ w ≤ 2147483647 := inR_le (g0 (vI w) (by simp))
  refine r_aload_n hC dX5_peakAt_0 rfl ?_
  refine r_iload_n hC dX5_peakAt_1 rfl ?_
  refine r_iload_n hC dX5_peakAt_2 rfl ?_
  refine z_inv2 hM dX5_peakAt_3 vl_RX5_248 rfl rfl rfl (Nat.le_of_ble_eq_true rfl) (Nat.le_of_ble_eq_true rfl) ?_
  refine s_laneWith ?_ (fun h1 => ?_)
  · refine r_astoreN hC dX5_peakAt_6 rfl ?_
    refine r_aloadN hC dX5_peakAt_8 rfl ?_
    refine r_ifnullN (tgt := 26) hC dX5_peakAt_10 rfl ?_
    refine r_iconst hC dX5_peakAt_26 rfl ?_
    refine y_iret hK rfl dX5_peakAt_27 ?_
    exact k0
  · refine r_astore hC dX5_peakAt_6 rfl ?_
    refine r_aload hC dX5_peakAt_8 rfl ?_
    refine r_ifnullR hC dX5_peakAt_10 ?_
    refine r_iload_n hC dX5_peakAt_13 rfl ?_
    refine r_iconst hC dX5_peakAt_14 rfl ?_
    refine r_aload hC dX5_peakAt_15 rfl ?_
    refine z_getI (jz := 6) hM dX5_peakAt_17 fl_RX5_154 rfl rfl rfl (fun v2 h_v2 o_v2 t_v2 => ?_)
    have q_v2 : 0 ≤ v2 ∧ v2 ≤ 121 := o_v2.1 rfl
    refine z_ins3 hM dX5_peakAt_20 tl_RX5_59 rfl (Nat.le_of_ble_eq_true rfl) (Nat.le_of_ble_eq_true rfl) ?_
    refine s_within (fun h4 => ?_) (fun h4 => ?_)
    · refine r_if_ne (tgt := 28) hC dX5_peakAt_23 rfl (fun h5 => ?_) (fun h5 => by omega)
      refine r_iconst hC dX5_peakAt_28 rfl ?_
      refine r_istore hC dX5_peakAt_29 rfl ?_
      refine r_ldc hC dX5_peakAt_31 co_RX5_175 rfl ?_
      refine r_istore hC dX5_peakAt_33 rfl ?_
      refine r_iconst hC dX5_peakAt_35 rfl ?_
      refine r_istore hC dX5_peakAt_36 rfl ?_
      have L38 : ∀ (n38 : Nat) (w6 w7 w8 : Int), 0 ≤ w6 ∧ w6 ≤ 121 → -2147483648 ≤ w7 ∧ w7 ≤ 2147483647 → 0 ≤ w8 ∧ w8 ≤ 120 → ((w8) + m ≤ 121) → 121 - w6 < (n38 : Int) → K 38 [some (vR 2 0), some (vI l), some (vI m), some (vI w), some (vR 7 l), some (vI w8), some (vI w7), some (vI w6), none] [] σ := by
        intro n38
        induction n38 with
        | zero => intro w6 w7 w8  f_w6 f_w7 f_w8 i0_38 hm ; omega
        | succ n38 ih38 =>
          intro w6 w7 w8  f_w6 f_w7 f_w8 i0_38 hm38 
          refine r_iload hC dX5_peakAt_38 rfl ?_
          refine r_iload_n hC dX5_peakAt_40 rfl ?_
          refine r_iaddE hC ((w6 + m)) dX5_peakAt_41 (by omega) (by unfold inR; omega) ?_
          refine r_aload hC dX5_peakAt_42 rfl ?_
          refine z_getI (jz := 6) hM dX5_peakAt_44 fl_RX5_154 rfl rfl rfl (fun v9 h_v9 o_v9 t_v9 => ?_)
          have q_v9 : 0 ≤ v9 ∧ v9 ≤ 121 := o_v9.1 rfl
          refine r_icmp_gt (tgt := 86) hC dX5_peakAt_47 rfl (fun h10 => ?_) (fun h10 => ?_)
          · refine r_iload hC dX5_peakAt_86 rfl ?_
            refine y_iret hK rfl dX5_peakAt_88 ?_
            exact k1 _ (by omega)
          · refine r_aload_n hC dX5_peakAt_50 rfl ?_
            refine r_aload hC dX5_peakAt_51 rfl ?_
            refine r_iload hC dX5_peakAt_53 rfl ?_
            refine r_iload hC dX5_peakAt_55 rfl ?_
            refine r_iload_n hC dX5_peakAt_57 rfl ?_
            refine r_iaddE hC ((w6 + m)) dX5_peakAt_58 (by omega) (by unfold inR; omega) ?_
            refine r_iload_n hC dX5_peakAt_59 rfl ?_
            refine z_inv4 hM dX5_peakAt_60 vl_RX5_227 rfl rfl rfl (Nat.le_of_ble_eq_true rfl) (Nat.le_of_ble_eq_true rfl) ?_
            refine s_comesTo (by omega) (by omega) (by omega) (fun v11 h_v11 => ?_)
            refine r_istore hC dX5_peakAt_63 rfl ?_
            refine r_iload hC dX5_peakAt_65 rfl ?_
            refine r_iload hC dX5_peakAt_67 rfl ?_
            refine r_icmp_le (tgt := 80) hC dX5_peakAt_69 rfl (fun h12 => ?_) (fun h12 => ?_)
            · refine r_iincE hC ((w6 + 1)) dX5_peakAt_80 rfl rfl (by omega) (by unfold inR; omega) ?_
              refine r_goto (tgt := 38) hC dX5_peakAt_83 rfl ?_
              refine r_forget hC (ls2 := [some (vR 2 0), some (vI l), some (vI m), some (vI w), some (vR 7 l), some (vI w8), some (vI w7), some (vI (w6 + 1)), none]) (lsub_some (lsub_some (lsub_some (lsub_some (lsub_some (lsub_some (lsub_some (lsub_some (lsub_none lsub_nil))))))))) ?_
              exact ih38 ((w6 + 1)) (w7) (w8)  (by omega) (by omega) (by omega) (by omega) (by omega) 
            · refine r_iload hC dX5_peakAt_72 rfl ?_
              refine r_istore hC dX5_peakAt_74 rfl ?_
              refine r_iload hC dX5_peakAt_76 rfl ?_
              refine r_istore hC dX5_peakAt_78 rfl ?_
              refine r_iincE hC ((w6 + 1)) dX5_peakAt_80 rfl rfl (by omega) (by unfold inR; omega) ?_
              show K _ [_, _, _, _, _, _, _, _, _] _ _
              refine r_goto (tgt := 38) hC dX5_peakAt_83 rfl ?_
              refine r_forget hC (ls2 := [some (vR 2 0), some (vI l), some (vI m), some (vI w), some (vR 7 l), some (vI w6), some (vI v11), some (vI (w6 + 1)), none]) (lsub_some (lsub_some (lsub_some (lsub_some (lsub_some (lsub_some (lsub_some (lsub_some (lsub_none lsub_nil))))))))) ?_
              exact ih38 ((w6 + 1)) (v11) (w6)  (by omega) (by omega) (by omega) (by omega) (by omega) 
      exact L38 123 (0) ((-2147483648)) (0)  (by omega) (by omega) (by omega) (by omega) (by omega) 
    · refine r_if_ne (tgt := 28) hC dX5_peakAt_23 rfl (fun h13 => by omega) (fun h13 => ?_)
      refine r_iconst hC dX5_peakAt_26 rfl ?_
      refine y_iret hK rfl dX5_peakAt_27 ?_
      exact k0
theorem s_peak {ea eb : Bool} {d : Nat} {P : Option Vl → Mm → Prop} {σ : Mm} {l m w : Int}   (k : ∀ r : Int, -2147483648 ≤ r ∧ r ≤ 2147483647 → P (some (vI r)) σ) : WT (ea, false, eb) (d + 7) 79 [vR 2 0, vI l, vI m, vI w] σ P := by
  refine WT_in fun K hK => ?_
  have hK : StpY (ea, false, eb) cX5_peak RX5 (some .int) (WT (ea, false, eb) (d + 6)) P K := hK
  have hM := hK.1
  have hC := hK.1.1
  show K 0 [some (vR 2 0), some (vI l), some (vI m), some (vI w), none] [] σ
  refine r_rngz hC (fun g0 => ?_)
  have r_l : -2147483648 ≤ l ∧ l ≤ 2147483647 := inR_le (g0 (vI l) (by simp))
  have r_m : -2147483648 ≤ m ∧ m ≤ 2147483647 := inR_le (g0 (vI m) (by simp))
  have r_w : -2147483648 ≤ w ∧ w ≤ 2147483647 := inR_le (g0 (vI w) (by simp))
  refine r_aload_n hC dX5_peak_0 rfl ?_
  refine r_iload_n hC dX5_peak_1 rfl ?_
  refine r_iload_n hC dX5_peak_2 rfl ?_
  refine r_iload_n hC dX5_peak_3 rfl ?_
  refine z_inv3 hM dX5_peak_4 vl_RX5_262 rfl rfl rfl (Nat.le_of_ble_eq_true rfl) (Nat.le_of_ble_eq_true rfl) ?_
  refine s_peakAt ?_ (fun v1 h_v1 => ?_)
  · refine r_istore hC dX5_peak_7 rfl ?_
    refine r_iload hC dX5_peak_9 rfl ?_
    refine r_iconst hC dX5_peak_11 rfl ?_
    refine r_icmp_ne (tgt := 20) hC dX5_peak_12 rfl (fun h2 => by omega) (fun h2 => ?_)
    refine r_ldc hC dX5_peak_15 co_RX5_175 rfl ?_
    refine r_goto (tgt := 37) hC dX5_peak_17 rfl ?_
    refine y_iret hK rfl dX5_peak_37 ?_
    exact k _ (by omega)
  · refine r_istore hC dX5_peak_7 rfl ?_
    refine r_iload hC dX5_peak_9 rfl ?_
    refine r_iconst hC dX5_peak_11 rfl ?_
    refine r_icmp_ne (tgt := 20) hC dX5_peak_12 rfl (fun h3 => ?_) (fun h3 => by omega)
    refine r_aload_n hC dX5_peak_20 rfl ?_
    refine r_aload_n hC dX5_peak_21 rfl ?_
    refine z_getR hM dX5_peak_22 fl_RX5_13 rfl rfl (vld_of (n := 1) rfl (by omega) (by omega)) ?_
    refine r_iload_n hC dX5_peak_25 rfl ?_
    refine z_aald hM dX5_peak_26 rfl (by decide) (by omega) (by omega) (vld_of (n := 7) rfl (by omega) (by omega)) ?_
    refine r_iload hC dX5_peak_27 rfl ?_
    refine r_iload hC dX5_peak_29 rfl ?_
    refine r_iload_n hC dX5_peak_31 rfl ?_
    refine r_iaddE hC ((v1 + m)) dX5_peak_32 (by omega) (by unfold inR; omega) ?_
    refine r_iload_n hC dX5_peak_33 rfl ?_
    refine z_inv4 hM dX5_peak_34 vl_RX5_227 rfl rfl rfl (Nat.le_of_ble_eq_true rfl) (Nat.le_of_ble_eq_true rfl) ?_
    refine s_comesTo (by omega) (by omega) (by omega) (fun v4 h_v4 => ?_)
    refine y_iret hK rfl dX5_peak_37 ?_
    exact k _ (by omega)
theorem s_peakAtR {ea eb : Bool} {d : Nat} {P : Option Vl → Mm → Prop} {σ : Mm} {l m w : Int}   (k : ∀ r : Int, -1 ≤ r ∧ r ≤ 120 → P (some (vI r)) σ) : WT (ea, false, eb) (d + 6) 80 [vR 2 0, vI l, vI m, vI w] σ P := by
  refine WT_in fun K hK => ?_
  have hK : StpY (ea, false, eb) cX5_peakAt RX5 (some .int) (WT (ea, false, eb) (d + 5)) P K := hK
  have hM := hK.1
  have hC := hK.1.1
  show K 0 [some (vR 2 0), some (vI l), some (vI m), some (vI w), none, none, none, none, none] [] σ
  refine r_rngz hC (fun g0 => ?_)
  have r_l : -2147483648 ≤ l ∧ l ≤ 2147483647 := inR_le (g0 (vI l) (by simp))
  have r_m : -2147483648 ≤ m ∧ m ≤ 2147483647 := inR_le (g0 (vI m) (by simp))
  have r_w : -2147483648 ≤ w ∧ w ≤ 2147483647 := inR_le (g0 (vI w) (by simp))
  refine r_aload_n hC dX5_peakAt_0 rfl ?_
  refine r_iload_n hC dX5_peakAt_1 rfl ?_
  refine r_iload_n hC dX5_peakAt_2 rfl ?_
  refine z_inv2 hM dX5_peakAt_3 vl_RX5_248 rfl rfl rfl (Nat.le_of_ble_eq_true rfl) (Nat.le_of_ble_eq_true rfl) ?_
  refine s_laneWith ?_ (fun h1 => ?_)
  · refine r_astoreN hC dX5_peakAt_6 rfl ?_
    refine r_aloadN hC dX5_peakAt_8 rfl ?_
    refine r_ifnullN (tgt := 26) hC dX5_peakAt_10 rfl ?_
    refine r_iconst hC dX5_peakAt_26 rfl ?_
    refine y_iret hK rfl dX5_peakAt_27 ?_
    exact k _ (by omega)
  · refine r_astore hC dX5_peakAt_6 rfl ?_
    refine r_aload hC dX5_peakAt_8 rfl ?_
    refine r_ifnullR hC dX5_peakAt_10 ?_
    refine r_iload_n hC dX5_peakAt_13 rfl ?_
    refine r_iconst hC dX5_peakAt_14 rfl ?_
    refine r_aload hC dX5_peakAt_15 rfl ?_
    refine z_getI (jz := 6) hM dX5_peakAt_17 fl_RX5_154 rfl rfl rfl (fun v2 h_v2 o_v2 t_v2 => ?_)
    have q_v2 : 0 ≤ v2 ∧ v2 ≤ 121 := o_v2.1 rfl
    refine z_ins3 hM dX5_peakAt_20 tl_RX5_59 rfl (Nat.le_of_ble_eq_true rfl) (Nat.le_of_ble_eq_true rfl) ?_
    refine s_within (fun h4 => ?_) (fun h4 => ?_)
    · refine r_if_ne (tgt := 28) hC dX5_peakAt_23 rfl (fun h5 => ?_) (fun h5 => by omega)
      refine r_iconst hC dX5_peakAt_28 rfl ?_
      refine r_istore hC dX5_peakAt_29 rfl ?_
      refine r_ldc hC dX5_peakAt_31 co_RX5_175 rfl ?_
      refine r_istore hC dX5_peakAt_33 rfl ?_
      refine r_iconst hC dX5_peakAt_35 rfl ?_
      refine r_istore hC dX5_peakAt_36 rfl ?_
      have L38 : ∀ (n38 : Nat) (w6 w7 w8 : Int), 0 ≤ w6 ∧ w6 ≤ 121 → -2147483648 ≤ w7 ∧ w7 ≤ 2147483647 → 0 ≤ w8 ∧ w8 ≤ 120 → ((w8) + m ≤ 121) → 121 - w6 < (n38 : Int) → K 38 [some (vR 2 0), some (vI l), some (vI m), some (vI w), some (vR 7 l), some (vI w8), some (vI w7), some (vI w6), none] [] σ := by
        intro n38
        induction n38 with
        | zero => intro w6 w7 w8  f_w6 f_w7 f_w8 i0_38 hm ; omega
        | succ n38 ih38 =>
          intro w6 w7 w8  f_w6 f_w7 f_w8 i0_38 hm38 
          refine r_iload hC dX5_peakAt_38 rfl ?_
          refine r_iload_n hC dX5_peakAt_40 rfl ?_
          refine r_iaddE hC ((w6 + m)) dX5_peakAt_41 (by omega) (by unfold inR; omega) ?_
          refine r_aload hC dX5_peakAt_42 rfl ?_
          refine z_getI (jz := 6) hM dX5_peakAt_44 fl_RX5_154 rfl rfl rfl (fun v9 h_v9 o_v9 t_v9 => ?_)
          have q_v9 : 0 ≤ v9 ∧ v9 ≤ 121 := o_v9.1 rfl
          refine r_icmp_gt (tgt := 86) hC dX5_peakAt_47 rfl (fun h10 => ?_) (fun h10 => ?_)
          · refine r_iload hC dX5_peakAt_86 rfl ?_
            refine y_iret hK rfl dX5_peakAt_88 ?_
            exact k _ (by omega)
          · refine r_aload_n hC dX5_peakAt_50 rfl ?_
            refine r_aload hC dX5_peakAt_51 rfl ?_
            refine r_iload hC dX5_peakAt_53 rfl ?_
            refine r_iload hC dX5_peakAt_55 rfl ?_
            refine r_iload_n hC dX5_peakAt_57 rfl ?_
            refine r_iaddE hC ((w6 + m)) dX5_peakAt_58 (by omega) (by unfold inR; omega) ?_
            refine r_iload_n hC dX5_peakAt_59 rfl ?_
            refine z_inv4 hM dX5_peakAt_60 vl_RX5_227 rfl rfl rfl (Nat.le_of_ble_eq_true rfl) (Nat.le_of_ble_eq_true rfl) ?_
            refine s_comesTo (by omega) (by omega) (by omega) (fun v11 h_v11 => ?_)
            refine r_istore hC dX5_peakAt_63 rfl ?_
            refine r_iload hC dX5_peakAt_65 rfl ?_
            refine r_iload hC dX5_peakAt_67 rfl ?_
            refine r_icmp_le (tgt := 80) hC dX5_peakAt_69 rfl (fun h12 => ?_) (fun h12 => ?_)
            · refine r_iincE hC ((w6 + 1)) dX5_peakAt_80 rfl rfl (by omega) (by unfold inR; omega) ?_
              refine r_goto (tgt := 38) hC dX5_peakAt_83 rfl ?_
              refine r_forget hC (ls2 := [some (vR 2 0), some (vI l), some (vI m), some (vI w), some (vR 7 l), some (vI w8), some (vI w7), some (vI (w6 + 1)), none]) (lsub_some (lsub_some (lsub_some (lsub_some (lsub_some (lsub_some (lsub_some (lsub_some (lsub_none lsub_nil))))))))) ?_
              exact ih38 ((w6 + 1)) (w7) (w8)  (by omega) (by omega) (by omega) (by omega) (by omega) 
            · refine r_iload hC dX5_peakAt_72 rfl ?_
              refine r_istore hC dX5_peakAt_74 rfl ?_
              refine r_iload hC dX5_peakAt_76 rfl ?_
              refine r_istore hC dX5_peakAt_78 rfl ?_
              refine r_iincE hC ((w6 + 1)) dX5_peakAt_80 rfl rfl (by omega) (by unfold inR; omega) ?_
              show K _ [_, _, _, _, _, _, _, _, _] _ _
              refine r_goto (tgt := 38) hC dX5_peakAt_83 rfl ?_
              refine r_forget hC (ls2 := [some (vR 2 0), some (vI l), some (vI m), some (vI w), some (vR 7 l), some (vI w6), some (vI v11), some (vI (w6 + 1)), none]) (lsub_some (lsub_some (lsub_some (lsub_some (lsub_some (lsub_some (lsub_some (lsub_some (lsub_none lsub_nil))))))))) ?_
              exact ih38 ((w6 + 1)) (v11) (w6)  (by omega) (by omega) (by omega) (by omega) (by omega) 
      exact L38 123 (0) ((-2147483648)) (0)  (by omega) (by omega) (by omega) (by omega) (by omega) 
    · refine r_if_ne (tgt := 28) hC dX5_peakAt_23 rfl (fun h13 => by omega) (fun h13 => ?_)
      refine r_iconst hC dX5_peakAt_26 rfl ?_
      refine y_iret hK rfl dX5_peakAt_27 ?_
      exact k _ (by omega)
theorem s_without {ea eb : Bool} {d : Nat} {P : Option Vl → Mm → Prop} {σ : Mm} {l x w : Int}   (k : ∀ r : Int, -2147483648 ≤ r ∧ r ≤ 2147483647 → P (some (vI r)) σ) : WT (ea, false, eb) (d + 6) 81 [vR 2 0, vI l, vI x, vI w] σ P := by
  refine WT_in fun K hK => ?_
  have hK : StpY (ea, false, eb) cX5_without RX5 (some .int) (WT (ea, false, eb) (d + 5)) P K := hK
  have hM := hK.1
  have hC := hK.1.1
  show K 0 [some (vR 2 0), some (vI l), some (vI x), some (vI w), none] [] σ
  refine r_rngz hC (fun g0 => ?_)
  have r_l : -2147483648 ≤ l ∧ l ≤ 2147483647 := inR_le (g0 (vI l) (by simp))
  have r_x : -2147483648 ≤ x ∧ x ≤ 2147483647 := inR_le (g0 (vI x) (by simp))
  have r_w : -2147483648 ≤ w ∧ w ≤ 2147483647 := inR_le (g0 (vI w) (by simp))
  refine r_aload_n hC dX5_without_0 rfl ?_
  refine r_iload_n hC dX5_without_1 rfl ?_
  refine r_iload_n hC dX5_without_2 rfl ?_
  refine z_inv2 hM dX5_without_3 vl_RX5_171 rfl rfl rfl (Nat.le_of_ble_eq_true rfl) (Nat.le_of_ble_eq_true rfl) ?_
  refine s_laneHolding ?_ (fun h1 x_h1 => ?_)
  · refine r_astoreN hC dX5_without_6 rfl ?_
    refine r_aloadN hC dX5_without_8 rfl ?_
    refine r_ifnullN (tgt := 22) hC dX5_without_10 rfl ?_
    refine r_ldc hC dX5_without_22 co_RX5_175 rfl ?_
    refine r_goto (tgt := 35) hC dX5_without_24 rfl ?_
    refine y_iret hK rfl dX5_without_35 ?_
    exact k _ (by omega)
  · refine r_astore hC dX5_without_6 rfl ?_
    refine r_aload hC dX5_without_8 rfl ?_
    refine r_ifnullR hC dX5_without_10 ?_
    refine r_aload hC dX5_without_13 rfl ?_
    refine r_iload_n hC dX5_without_15 rfl ?_
    refine z_inv1 hM dX5_without_16 vl_RX5_266 rfl rfl rfl (Nat.le_of_ble_eq_true rfl) (Nat.le_of_ble_eq_true rfl) ?_
    refine s_hasNumber (by omega) (fun v2 h_v2 => ?_)
    have J35_4 : ∀ (w4 : Int), -2147483648 ≤ w4 ∧ w4 ≤ 2147483647 → K 35 [some (vR 2 0), some (vI l), some (vI x), some (vI w), some (vR 7 l)] [vI w4] σ := by
      intro w4  f_w4 
      refine y_iret hK rfl dX5_without_35 ?_
      exact k _ (by omega)
    refine r_if_ne (tgt := 27) hC dX5_without_19 rfl (fun h3 => ?_) (fun h3 => ?_)
    · refine r_aload_n hC dX5_without_27 rfl ?_
      refine r_aload hC dX5_without_28 rfl ?_
      refine r_iload_n hC dX5_without_30 rfl ?_
      refine r_iload_n hC dX5_without_31 rfl ?_
      refine z_inv3 hM dX5_without_32 vl_RX5_269 rfl rfl rfl (Nat.le_of_ble_eq_true rfl) (Nat.le_of_ble_eq_true rfl) ?_
      refine s_comesToWithout (by omega) (by omega) (fun v6 h_v6 => ?_)
      exact J35_4 (v6)  (by omega) 
    · refine r_ldc hC dX5_without_22 co_RX5_175 rfl ?_
      refine r_goto (tgt := 35) hC dX5_without_24 rfl ?_
      exact J35_4 ((-2147483648))  (by omega) 
theorem s_spare {ea eb : Bool} {d : Nat} {P : Option Vl → Mm → Prop} {σ : Mm} {l w : Int}   (k : ∀ r : Int, -1 ≤ r ∧ r ≤ 120 → P (some (vI r)) σ) : WT (ea, false, eb) (d + 6) 82 [vR 2 0, vI l, vI w] σ P := by
  refine WT_in fun K hK => ?_
  have hK : StpY (ea, false, eb) cX5_spare RX5 (some .int) (WT (ea, false, eb) (d + 5)) P K := hK
  have hM := hK.1
  have hC := hK.1.1
  show K 0 [some (vR 2 0), some (vI l), some (vI w), none, none, none, none, none] [] σ
  refine r_rngz hC (fun g0 => ?_)
  have r_l : -2147483648 ≤ l ∧ l ≤ 2147483647 := inR_le (g0 (vI l) (by simp))
  have r_w : -2147483648 ≤ w ∧ w ≤ 2147483647 := inR_le (g0 (vI w) (by simp))
  refine r_aload_n hC dX5_spare_0 rfl ?_
  refine r_iload_n hC dX5_spare_1 rfl ?_
  refine r_iload_n hC dX5_spare_2 rfl ?_
  refine z_inv2 hM dX5_spare_3 vl_RX5_248 rfl rfl rfl (Nat.le_of_ble_eq_true rfl) (Nat.le_of_ble_eq_true rfl) ?_
  refine s_laneWith ?_ (fun h1 => ?_)
  · refine r_astoreN_n hC dX5_spare_6 rfl ?_
    refine r_aloadN_n hC dX5_spare_7 rfl ?_
    refine r_ifnullN (tgt := 19) hC dX5_spare_8 rfl ?_
    refine r_iconst hC dX5_spare_19 rfl ?_
    refine y_iret hK rfl dX5_spare_20 ?_
    exact k _ (by omega)
  · refine r_astore_n hC dX5_spare_6 rfl ?_
    refine r_aload_n hC dX5_spare_7 rfl ?_
    refine r_ifnullR hC dX5_spare_8 ?_
    refine r_aload_n hC dX5_spare_11 rfl ?_
    refine z_getI (jz := 6) hM dX5_spare_12 fl_RX5_154 rfl rfl rfl (fun v2 h_v2 o_v2 t_v2 => ?_)
    have q_v2 : 0 ≤ v2 ∧ v2 ≤ 121 := o_v2.1 rfl
    refine r_iconst hC dX5_spare_15 rfl ?_
    refine r_icmp_ge (tgt := 21) hC dX5_spare_16 rfl (fun h3 => ?_) (fun h3 => ?_)
    · refine r_iconst hC dX5_spare_21 rfl ?_
      refine r_istore hC dX5_spare_22 rfl ?_
      refine r_ldc hC dX5_spare_24 co_RX5_175 rfl ?_
      refine r_istore hC dX5_spare_26 rfl ?_
      refine r_iconst hC dX5_spare_28 rfl ?_
      refine r_istore hC dX5_spare_29 rfl ?_
      have L31 : ∀ (n31 : Nat) (w4 w5 w6 : Int), -2147483648 ≤ w4 ∧ w4 ≤ 2147483647 → 0 ≤ w5 ∧ w5 ≤ 121 → 0 ≤ w6 ∧ w6 ≤ 120 → 121 - w5 < (n31 : Int) → K 31 [some (vR 2 0), some (vI l), some (vI w), some (vR 7 l), some (vI w6), some (vI w4), some (vI w5), none] [] σ := by
        intro n31
        induction n31 with
        | zero => intro w4 w5 w6  f_w4 f_w5 f_w6  hm ; omega
        | succ n31 ih31 =>
          intro w4 w5 w6  f_w4 f_w5 f_w6  hm31 
          refine r_iload hC dX5_spare_31 rfl ?_
          refine r_aload_n hC dX5_spare_33 rfl ?_
          refine z_getI (jz := 6) hM dX5_spare_34 fl_RX5_154 rfl rfl rfl (fun v7 h_v7 o_v7 t_v7 => ?_)
          have q_v7 : 0 ≤ v7 ∧ v7 ≤ 121 := o_v7.1 rfl
          refine r_icmp_ge (tgt := 71) hC dX5_spare_37 rfl (fun h8 => ?_) (fun h8 => ?_)
          · refine r_iload hC dX5_spare_71 rfl ?_
            refine y_iret hK rfl dX5_spare_73 ?_
            exact k _ (by omega)
          · refine r_aload_n hC dX5_spare_40 rfl ?_
            refine r_aload_n hC dX5_spare_41 rfl ?_
            refine r_iload hC dX5_spare_42 rfl ?_
            refine r_iload_n hC dX5_spare_44 rfl ?_
            refine z_inv3 hM dX5_spare_45 vl_RX5_269 rfl rfl rfl (Nat.le_of_ble_eq_true rfl) (Nat.le_of_ble_eq_true rfl) ?_
            refine s_comesToWithout (by omega) (by omega) (fun v9 h_v9 => ?_)
            refine r_istore hC dX5_spare_48 rfl ?_
            refine r_iload hC dX5_spare_50 rfl ?_
            refine r_iload hC dX5_spare_52 rfl ?_
            have J65_12 : ∀ (w11 w12 : Int), 0 ≤ w11 ∧ w11 ≤ 120 → -2147483648 ≤ w12 ∧ w12 ≤ 2147483647 → K 65 [some (vR 2 0), some (vI l), some (vI w), some (vR 7 l), some (vI w11), some (vI w12), some (vI w5), some (vI v9)] [] σ := by
              intro w11 w12  f_w11 f_w12 
              refine r_iincE hC ((w5 + 1)) dX5_spare_65 rfl rfl (by omega) (by unfold inR; omega) ?_
              refine r_goto (tgt := 31) hC dX5_spare_68 rfl ?_
              refine r_forget hC (ls2 := [some (vR 2 0), some (vI l), some (vI w), some (vR 7 l), some (vI w11), some (vI w12), some (vI (w5 + 1)), none]) (lsub_some (lsub_some (lsub_some (lsub_some (lsub_some (lsub_some (lsub_some (lsub_none lsub_nil)))))))) ?_
              exact ih31 (w12) ((w5 + 1)) (w11)  (by omega) (by omega) (by omega)  (by omega) 
            refine r_icmp_le (tgt := 65) hC dX5_spare_54 rfl (fun h10 => ?_) (fun h10 => ?_)
            · exact J65_12 (w6) (w4)  (by omega) (by omega)
            · refine r_iload hC dX5_spare_57 rfl ?_
              refine r_istore hC dX5_spare_59 rfl ?_
              refine r_iload hC dX5_spare_61 rfl ?_
              refine r_istore hC dX5_spare_63 rfl ?_
              exact J65_12 (w5) (v9)  (by omega) (by omega) 
      exact L31 123 ((-2147483648)) (0) (0)  (by omega) (by omega) (by omega)  (by omega) 
    · refine r_iconst hC dX5_spare_19 rfl ?_
      refine y_iret hK rfl dX5_spare_20 ?_
      exact k _ (by omega)
theorem s_turned {ea eb : Bool} {d : Nat} {P : Option Vl → Mm → Prop} {σ : Mm} {l w : Int}   (k : ∀ r : Int, -2147483648 ≤ r ∧ r ≤ 2147483647 → P (some (vI r)) σ) : WT (ea, false, eb) (d + 5) 83 [vR 2 0, vI l, vI w] σ P := by
  refine WT_in fun K hK => ?_
  have hK : StpY (ea, false, eb) cX5_turned RX5 (some .int) (WT (ea, false, eb) (d + 4)) P K := hK
  have hM := hK.1
  have hC := hK.1.1
  show K 0 [some (vR 2 0), some (vI l), some (vI w), none, none] [] σ
  refine r_rngz hC (fun g0 => ?_)
  have r_l : -2147483648 ≤ l ∧ l ≤ 2147483647 := inR_le (g0 (vI l) (by simp))
  have r_w : -2147483648 ≤ w ∧ w ≤ 2147483647 := inR_le (g0 (vI w) (by simp))
  refine r_aload_n hC dX5_turned_0 rfl ?_
  refine r_iload_n hC dX5_turned_1 rfl ?_
  refine r_iload_n hC dX5_turned_2 rfl ?_
  refine z_inv2 hM dX5_turned_3 vl_RX5_248 rfl rfl rfl (Nat.le_of_ble_eq_true rfl) (Nat.le_of_ble_eq_true rfl) ?_
  refine s_laneWith ?_ (fun h1 => ?_)
  · refine r_astoreN_n hC dX5_turned_6 rfl ?_
    refine r_aloadN_n hC dX5_turned_7 rfl ?_
    refine r_ifnonnullN hC dX5_turned_8 ?_
    refine r_ldc hC dX5_turned_11 co_RX5_175 rfl ?_
    refine y_iret hK rfl dX5_turned_13 ?_
    exact k _ (by omega)
  · refine r_astore_n hC dX5_turned_6 rfl ?_
    refine r_aload_n hC dX5_turned_7 rfl ?_
    refine r_ifnonnullR (tgt := 14) hC dX5_turned_8 rfl ?_
    refine r_aload_n hC dX5_turned_14 rfl ?_
    refine z_getR hM dX5_turned_15 fl_RX5_40 rfl rfl (vld_of (n := 1) rfl (by omega) (by omega)) ?_
    refine r_aload_n hC dX5_turned_18 rfl ?_
    refine z_getI (jz := 2) hM dX5_turned_19 fl_RX5_98 rfl rfl rfl (fun v2 h_v2 o_v2 t_v2 => ?_)
    have q_v2 : 0 ≤ v2 ∧ v2 ≤ 9 := o_v2.2.2 rfl
    refine z_inv1 hM dX5_turned_22 vl_RX5_251 rfl rfl rfl (Nat.le_of_ble_eq_true rfl) (Nat.le_of_ble_eq_true rfl) ?_
    refine s_begin (by omega) ?_
    refine r_aload_n hC dX5_turned_25 rfl ?_
    refine z_getI (jz := 6) hM dX5_turned_26 fl_RX5_154 rfl rfl rfl (fun v3 h_v3 o_v3 t_v3 => ?_)
    have q_v3 : 0 ≤ v3 ∧ v3 ≤ 121 := o_v3.1 rfl
    refine r_iconst hC dX5_turned_29 rfl ?_
    refine r_isubE hC ((v3 - 1)) dX5_turned_30 (by omega) (by unfold inR; omega) ?_
    refine r_istore hC dX5_turned_31 rfl ?_
    have L33 : ∀ (n33 : Nat) (w4 : Int), -1 ≤ w4 ∧ w4 ≤ 120 → w4 + 1 < (n33 : Int) → K 33 [some (vR 2 0), some (vI l), some (vI w), some (vR 7 l), some (vI w4)] [] σ := by
      intro n33
      induction n33 with
      | zero => intro w4  f_w4  hm ; omega
      | succ n33 ih33 =>
        intro w4  f_w4  hm33 
        refine r_iload hC dX5_turned_33 rfl ?_
        refine r_if_lt (tgt := 58) hC dX5_turned_35 rfl (fun h5 => ?_) (fun h5 => ?_)
        · refine r_aload_n hC dX5_turned_58 rfl ?_
          refine z_getR hM dX5_turned_59 fl_RX5_40 rfl rfl (vld_of (n := 1) rfl (by omega) (by omega)) ?_
          refine r_iload_n hC dX5_turned_62 rfl ?_
          refine z_inv1 hM dX5_turned_63 vl_RX5_273 rfl rfl rfl (Nat.le_of_ble_eq_true rfl) (Nat.le_of_ble_eq_true rfl) ?_
          refine s_number (fun v6 h_v6 => ?_)
          refine y_iret hK rfl dX5_turned_66 ?_
          exact k _ (by omega)
        · refine r_aload_n hC dX5_turned_38 rfl ?_
          refine z_getR hM dX5_turned_39 fl_RX5_40 rfl rfl (vld_of (n := 1) rfl (by omega) (by omega)) ?_
          refine r_aload_n hC dX5_turned_42 rfl ?_
          refine z_getR hM dX5_turned_43 fl_RX5_176 rfl rfl (vld_of (n := 7) rfl (by omega) (by omega)) ?_
          refine r_iload hC dX5_turned_46 rfl ?_
          refine z_iald hM dX5_turned_48 rfl (by omega) (by omega) (fun v7 h_v7 o_v7 t_v7 => ?_)
          have q_v7 : -1000 ≤ v7 ∧ v7 ≤ 1000 := o_v7
          refine z_inv1 hM dX5_turned_49 vl_RX5_253 rfl rfl rfl (Nat.le_of_ble_eq_true rfl) (Nat.le_of_ble_eq_true rfl) ?_
          refine s_append (by omega) ?_
          refine r_iincE hC ((w4 - 1)) dX5_turned_52 rfl rfl (by omega) (by unfold inR; omega) ?_
          refine r_goto (tgt := 33) hC dX5_turned_55 rfl ?_
          exact ih33 ((w4 - 1))  (by omega)  (by omega) 
    exact L33 123 ((v3 - 1))  (by omega)  (by omega) 
theorem s_law {ea eb : Bool} {d : Nat} {P : Option Vl → Mm → Prop} {σ : Mm} {l h w : Int}   (k : ∀ r : Int, -2147483648 ≤ r ∧ r ≤ 2147483647 → P (some (vI r)) σ) : WT (ea, false, eb) (d + 7) 85 [vR 2 0, vI l, vI h, vI w] σ P := by
  refine WT_in fun K hK => ?_
  have hK : StpY (ea, false, eb) cX5_law RX5 (some .int) (WT (ea, false, eb) (d + 6)) P K := hK
  have hM := hK.1
  have hC := hK.1.1
  show K 0 [some (vR 2 0), some (vI l), some (vI h), some (vI w)] [] σ
  refine r_rngz hC (fun g0 => ?_)
  have r_l : -2147483648 ≤ l ∧ l ≤ 2147483647 := inR_le (g0 (vI l) (by simp))
  have r_h : -2147483648 ≤ h ∧ h ≤ 2147483647 := inR_le (g0 (vI h) (by simp))
  have r_w : -2147483648 ≤ w ∧ w ≤ 2147483647 := inR_le (g0 (vI w) (by simp))
  refine r_iload_n hC dX5_law_0 rfl ?_
  refine r_iconst hC dX5_law_1 rfl ?_
  refine r_iconst hC dX5_law_2 rfl ?_
  refine z_ins3 hM dX5_law_3 tl_RX5_59 rfl (Nat.le_of_ble_eq_true rfl) (Nat.le_of_ble_eq_true rfl) ?_
  refine s_within (fun h2 => ?_) (fun h2 => ?_)
  · refine r_if_eq (tgt := 18) hC dX5_law_6 rfl (fun h3 => by omega) (fun h3 => ?_)
    refine r_aload_n hC dX5_law_9 rfl ?_
    refine r_iload_n hC dX5_law_10 rfl ?_
    refine r_iload_n hC dX5_law_11 rfl ?_
    refine z_inv2 hM dX5_law_12 vl_RX5_281 rfl rfl rfl (Nat.le_of_ble_eq_true rfl) (Nat.le_of_ble_eq_true rfl) ?_
    refine s_total (fun v4 h_v4 => ?_)
    refine r_goto (tgt := 20) hC dX5_law_15 rfl ?_
    refine y_iret hK rfl dX5_law_20 ?_
    exact k _ (by omega)
  · refine r_if_eq (tgt := 18) hC dX5_law_6 rfl (fun h5 => ?_) (fun h5 => by omega)
    refine r_ldc hC dX5_law_18 co_RX5_175 rfl ?_
    refine y_iret hK rfl dX5_law_20 ?_
    exact k _ (by omega)
theorem s_joined {ea eb : Bool} {d : Nat} {P : Option Vl → Mm → Prop} {σ : Mm} {l o w : Int}   (k : ∀ r : Int, -2147483648 ≤ r ∧ r ≤ 2147483647 → P (some (vI r)) σ) : WT (ea, false, eb) (d + 5) 86 [vR 2 0, vI l, vI o, vI w] σ P := by
  refine WT_in fun K hK => ?_
  have hK : StpY (ea, false, eb) cX5_joined RX5 (some .int) (WT (ea, false, eb) (d + 4)) P K := hK
  have hM := hK.1
  have hC := hK.1.1
  show K 0 [some (vR 2 0), some (vI l), some (vI o), some (vI w), none, none, none] [] σ
  refine r_rngz hC (fun g0 => ?_)
  have r_l : -2147483648 ≤ l ∧ l ≤ 2147483647 := inR_le (g0 (vI l) (by simp))
  have r_o : -2147483648 ≤ o ∧ o ≤ 2147483647 := inR_le (g0 (vI o) (by simp))
  have r_w : -2147483648 ≤ w ∧ w ≤ 2147483647 := inR_le (g0 (vI w) (by simp))
  refine r_aload_n hC dX5_joined_0 rfl ?_
  refine r_iload_n hC dX5_joined_1 rfl ?_
  refine r_iload_n hC dX5_joined_2 rfl ?_
  refine z_inv2 hM dX5_joined_3 vl_RX5_248 rfl rfl rfl (Nat.le_of_ble_eq_true rfl) (Nat.le_of_ble_eq_true rfl) ?_
  refine s_laneWith ?_ (fun h1 => ?_)
  · refine r_astoreN hC dX5_joined_6 rfl ?_
    refine r_aload_n hC dX5_joined_8 rfl ?_
    refine r_iload_n hC dX5_joined_9 rfl ?_
    refine z_inv1 hM dX5_joined_10 vl_RX5_123 rfl rfl rfl (Nat.le_of_ble_eq_true rfl) (Nat.le_of_ble_eq_true rfl) ?_
    refine s_openLane ?_ (fun h2 => ?_)
    · refine r_astoreN hC dX5_joined_13 rfl ?_
      refine r_aloadN hC dX5_joined_15 rfl ?_
      refine r_ifnullN (tgt := 38) hC dX5_joined_17 rfl ?_
      refine r_ldc hC dX5_joined_38 co_RX5_175 rfl ?_
      refine y_iret hK rfl dX5_joined_40 ?_
      exact k _ (by omega)
    · refine r_astore hC dX5_joined_13 rfl ?_
      refine r_aloadN hC dX5_joined_15 rfl ?_
      refine r_ifnullN (tgt := 38) hC dX5_joined_17 rfl ?_
      refine r_ldc hC dX5_joined_38 co_RX5_175 rfl ?_
      refine y_iret hK rfl dX5_joined_40 ?_
      exact k _ (by omega)
  · refine r_astore hC dX5_joined_6 rfl ?_
    refine r_aload_n hC dX5_joined_8 rfl ?_
    refine r_iload_n hC dX5_joined_9 rfl ?_
    refine z_inv1 hM dX5_joined_10 vl_RX5_123 rfl rfl rfl (Nat.le_of_ble_eq_true rfl) (Nat.le_of_ble_eq_true rfl) ?_
    refine s_openLane ?_ (fun h3 => ?_)
    · refine r_astoreN hC dX5_joined_13 rfl ?_
      refine r_aload hC dX5_joined_15 rfl ?_
      refine r_ifnullR hC dX5_joined_17 ?_
      refine r_aloadN hC dX5_joined_20 rfl ?_
      refine r_ifnullN (tgt := 38) hC dX5_joined_22 rfl ?_
      refine r_ldc hC dX5_joined_38 co_RX5_175 rfl ?_
      refine y_iret hK rfl dX5_joined_40 ?_
      exact k _ (by omega)
    · refine r_astore hC dX5_joined_13 rfl ?_
      refine r_aload hC dX5_joined_15 rfl ?_
      refine r_ifnullR hC dX5_joined_17 ?_
      refine r_aload hC dX5_joined_20 rfl ?_
      refine r_ifnullR hC dX5_joined_22 ?_
      refine r_aload hC dX5_joined_25 rfl ?_
      refine z_getI (jz := 2) hM dX5_joined_27 fl_RX5_98 rfl rfl rfl (fun v4 h_v4 o_v4 t_v4 => ?_)
      have q_v4 : 0 ≤ v4 ∧ v4 ≤ 9 := o_v4.2.2 rfl
      refine r_aload hC dX5_joined_30 rfl ?_
      refine z_getI (jz := 2) hM dX5_joined_32 fl_RX5_98 rfl rfl rfl (fun v5 h_v5 o_v5 t_v5 => ?_)
      have q_v5 : 0 ≤ v5 ∧ v5 ≤ 9 := o_v5.2.2 rfl
      refine r_icmp_eq (tgt := 41) hC dX5_joined_35 rfl (fun h6 => ?_) (fun h6 => ?_)
      · refine r_aload_n hC dX5_joined_41 rfl ?_
        refine r_aload hC dX5_joined_42 rfl ?_
        refine r_iconst hC dX5_joined_44 rfl ?_
        refine r_aload hC dX5_joined_45 rfl ?_
        refine z_getI (jz := 6) hM dX5_joined_47 fl_RX5_154 rfl rfl rfl (fun v7 h_v7 o_v7 t_v7 => ?_)
        have q_v7 : 0 ≤ v7 ∧ v7 ≤ 121 := o_v7.1 rfl
        refine z_inv3 hM dX5_joined_50 vl_RX5_259 rfl rfl rfl (Nat.le_of_ble_eq_true rfl) (Nat.le_of_ble_eq_true rfl) ?_
        refine s_foldPart (by omega) (by omega) (by omega) ?_
        refine r_iconst hC dX5_joined_53 rfl ?_
        refine r_istore hC dX5_joined_54 rfl ?_
        have L56 : ∀ (n56 : Nat) (w8 : Int), 0 ≤ w8 ∧ w8 ≤ 121 → 121 - w8 < (n56 : Int) → K 56 [some (vR 2 0), some (vI l), some (vI o), some (vI w), some (vR 7 l), some (vR 7 o), some (vI w8)] [] σ := by
          intro n56
          induction n56 with
          | zero => intro w8  f_w8  hm ; omega
          | succ n56 ih56 =>
            intro w8  f_w8  hm56 
            refine r_iload hC dX5_joined_56 rfl ?_
            refine r_aload hC dX5_joined_58 rfl ?_
            refine z_getI (jz := 6) hM dX5_joined_60 fl_RX5_154 rfl rfl rfl (fun v9 h_v9 o_v9 t_v9 => ?_)
            have q_v9 : 0 ≤ v9 ∧ v9 ≤ 121 := o_v9.1 rfl
            refine r_icmp_ge (tgt := 87) hC dX5_joined_63 rfl (fun h10 => ?_) (fun h10 => ?_)
            · refine r_aload_n hC dX5_joined_87 rfl ?_
              refine z_getR hM dX5_joined_88 fl_RX5_40 rfl rfl (vld_of (n := 1) rfl (by omega) (by omega)) ?_
              refine r_iload_n hC dX5_joined_91 rfl ?_
              refine z_inv1 hM dX5_joined_92 vl_RX5_273 rfl rfl rfl (Nat.le_of_ble_eq_true rfl) (Nat.le_of_ble_eq_true rfl) ?_
              refine s_number (fun v11 h_v11 => ?_)
              refine y_iret hK rfl dX5_joined_95 ?_
              exact k _ (by omega)
            · refine r_aload_n hC dX5_joined_66 rfl ?_
              refine z_getR hM dX5_joined_67 fl_RX5_40 rfl rfl (vld_of (n := 1) rfl (by omega) (by omega)) ?_
              refine r_aload hC dX5_joined_70 rfl ?_
              refine z_getR hM dX5_joined_72 fl_RX5_176 rfl rfl (vld_of (n := 7) rfl (by omega) (by omega)) ?_
              refine r_iload hC dX5_joined_75 rfl ?_
              refine z_iald hM dX5_joined_77 rfl (by omega) (by omega) (fun v12 h_v12 o_v12 t_v12 => ?_)
              have q_v12 : -1000 ≤ v12 ∧ v12 ≤ 1000 := o_v12
              refine z_inv1 hM dX5_joined_78 vl_RX5_253 rfl rfl rfl (Nat.le_of_ble_eq_true rfl) (Nat.le_of_ble_eq_true rfl) ?_
              refine s_append (by omega) ?_
              refine r_iincE hC ((w8 + 1)) dX5_joined_81 rfl rfl (by omega) (by unfold inR; omega) ?_
              refine r_goto (tgt := 56) hC dX5_joined_84 rfl ?_
              exact ih56 ((w8 + 1))  (by omega)  (by omega) 
        exact L56 123 (0)  (by omega)  (by omega) 
      · refine r_ldc hC dX5_joined_38 co_RX5_175 rfl ?_
        refine y_iret hK rfl dX5_joined_40 ?_
        exact k _ (by omega)
theorem s_same {ea eb : Bool} {d : Nat} {P : Option Vl → Mm → Prop} {σ : Mm} {l o : Int}   (k : ∀ r : Int, -1 ≤ r ∧ r ≤ 1 → P (some (vI r)) σ) : WT (ea, false, eb) (d + 5) 88 [vR 2 0, vI l, vI o] σ P := by
  refine WT_in fun K hK => ?_
  have hK : StpY (ea, false, eb) cX5_same RX5 (some .int) (WT (ea, false, eb) (d + 4)) P K := hK
  have hM := hK.1
  have hC := hK.1.1
  show K 0 [some (vR 2 0), some (vI l), some (vI o), none, none] [] σ
  refine r_rngz hC (fun g0 => ?_)
  have r_l : -2147483648 ≤ l ∧ l ≤ 2147483647 := inR_le (g0 (vI l) (by simp))
  have r_o : -2147483648 ≤ o ∧ o ≤ 2147483647 := inR_le (g0 (vI o) (by simp))
  refine r_aload_n hC dX5_same_0 rfl ?_
  refine r_iload_n hC dX5_same_1 rfl ?_
  refine z_inv1 hM dX5_same_2 vl_RX5_123 rfl rfl rfl (Nat.le_of_ble_eq_true rfl) (Nat.le_of_ble_eq_true rfl) ?_
  refine s_openLane ?_ (fun h1 => ?_)
  · refine r_astoreN_n hC dX5_same_5 rfl ?_
    refine r_aload_n hC dX5_same_6 rfl ?_
    refine r_iload_n hC dX5_same_7 rfl ?_
    refine z_inv1 hM dX5_same_8 vl_RX5_123 rfl rfl rfl (Nat.le_of_ble_eq_true rfl) (Nat.le_of_ble_eq_true rfl) ?_
    refine s_openLane ?_ (fun h2 => ?_)
    · refine r_astoreN hC dX5_same_11 rfl ?_
      refine r_aloadN_n hC dX5_same_13 rfl ?_
      refine r_ifnullN (tgt := 34) hC dX5_same_14 rfl ?_
      refine r_iconst hC dX5_same_34 rfl ?_
      refine y_iret hK rfl dX5_same_35 ?_
      exact k _ (by omega)
    · refine r_astore hC dX5_same_11 rfl ?_
      refine r_aloadN_n hC dX5_same_13 rfl ?_
      refine r_ifnullN (tgt := 34) hC dX5_same_14 rfl ?_
      refine r_iconst hC dX5_same_34 rfl ?_
      refine y_iret hK rfl dX5_same_35 ?_
      exact k _ (by omega)
  · refine r_astore_n hC dX5_same_5 rfl ?_
    refine r_aload_n hC dX5_same_6 rfl ?_
    refine r_iload_n hC dX5_same_7 rfl ?_
    refine z_inv1 hM dX5_same_8 vl_RX5_123 rfl rfl rfl (Nat.le_of_ble_eq_true rfl) (Nat.le_of_ble_eq_true rfl) ?_
    refine s_openLane ?_ (fun h3 => ?_)
    · refine r_astoreN hC dX5_same_11 rfl ?_
      refine r_aload_n hC dX5_same_13 rfl ?_
      refine r_ifnullR hC dX5_same_14 ?_
      refine r_aloadN hC dX5_same_17 rfl ?_
      refine r_ifnullN (tgt := 34) hC dX5_same_19 rfl ?_
      refine r_iconst hC dX5_same_34 rfl ?_
      refine y_iret hK rfl dX5_same_35 ?_
      exact k _ (by omega)
    · refine r_astore hC dX5_same_11 rfl ?_
      refine r_aload_n hC dX5_same_13 rfl ?_
      refine r_ifnullR hC dX5_same_14 ?_
      refine r_aload hC dX5_same_17 rfl ?_
      refine r_ifnullR hC dX5_same_19 ?_
      refine r_aload_n hC dX5_same_22 rfl ?_
      refine z_getI (jz := 2) hM dX5_same_23 fl_RX5_98 rfl rfl rfl (fun v4 h_v4 o_v4 t_v4 => ?_)
      have q_v4 : 0 ≤ v4 ∧ v4 ≤ 9 := o_v4.2.2 rfl
      refine r_aload hC dX5_same_26 rfl ?_
      refine z_getI (jz := 2) hM dX5_same_28 fl_RX5_98 rfl rfl rfl (fun v5 h_v5 o_v5 t_v5 => ?_)
      have q_v5 : 0 ≤ v5 ∧ v5 ≤ 9 := o_v5.2.2 rfl
      refine r_icmp_eq (tgt := 36) hC dX5_same_31 rfl (fun h6 => ?_) (fun h6 => ?_)
      · refine r_aload_n hC dX5_same_36 rfl ?_
        refine r_aload_n hC dX5_same_37 rfl ?_
        refine r_iconst hC dX5_same_38 rfl ?_
        refine r_aload_n hC dX5_same_39 rfl ?_
        refine z_getI (jz := 6) hM dX5_same_40 fl_RX5_154 rfl rfl rfl (fun v7 h_v7 o_v7 t_v7 => ?_)
        have q_v7 : 0 ≤ v7 ∧ v7 ≤ 121 := o_v7.1 rfl
        refine z_inv3 hM dX5_same_43 vl_RX5_259 rfl rfl rfl (Nat.le_of_ble_eq_true rfl) (Nat.le_of_ble_eq_true rfl) ?_
        refine s_foldPart (by omega) (by omega) (by omega) ?_
        refine r_aload_n hC dX5_same_46 rfl ?_
        refine z_getR hM dX5_same_47 fl_RX5_40 rfl rfl (vld_of (n := 1) rfl (by omega) (by omega)) ?_
        refine z_inv0 hM dX5_same_50 vl_RX5_275 rfl rfl rfl (Nat.le_of_ble_eq_true rfl) (Nat.le_of_ble_eq_true rfl) ?_
        refine s_noteNumbers ?_
        refine r_aload_n hC dX5_same_53 rfl ?_
        refine r_aload hC dX5_same_54 rfl ?_
        refine r_iconst hC dX5_same_56 rfl ?_
        refine r_aload hC dX5_same_57 rfl ?_
        refine z_getI (jz := 6) hM dX5_same_59 fl_RX5_154 rfl rfl rfl (fun v8 h_v8 o_v8 t_v8 => ?_)
        have q_v8 : 0 ≤ v8 ∧ v8 ≤ 121 := o_v8.1 rfl
        refine z_inv3 hM dX5_same_62 vl_RX5_259 rfl rfl rfl (Nat.le_of_ble_eq_true rfl) (Nat.le_of_ble_eq_true rfl) ?_
        refine s_foldPart (by omega) (by omega) (by omega) ?_
        refine r_aload_n hC dX5_same_65 rfl ?_
        refine z_getR hM dX5_same_66 fl_RX5_40 rfl rfl (vld_of (n := 1) rfl (by omega) (by omega)) ?_
        refine z_inv0 hM dX5_same_69 vl_RX5_278 rfl rfl rfl (Nat.le_of_ble_eq_true rfl) (Nat.le_of_ble_eq_true rfl) ?_
        refine s_isAsNoted (fun v9 h_v9 => ?_)
        have J80_11 : ∀ (w11 : Int), 0 ≤ w11 ∧ w11 ≤ 1 → K 80 [some (vR 2 0), some (vI l), some (vI o), some (vR 7 l), some (vR 7 o)] [vI w11] σ := by
          intro w11  f_w11 
          refine y_iret hK rfl dX5_same_80 ?_
          exact k _ (by omega)
        refine r_if_eq (tgt := 79) hC dX5_same_72 rfl (fun h10 => ?_) (fun h10 => ?_)
        · refine r_iconst hC dX5_same_79 rfl ?_
          exact J80_11 (0)  (by omega) 
        · refine r_iconst hC dX5_same_75 rfl ?_
          refine r_goto (tgt := 80) hC dX5_same_76 rfl ?_
          exact J80_11 (1)  (by omega) 
      · refine r_iconst hC dX5_same_34 rfl ?_
        refine y_iret hK rfl dX5_same_35 ?_
        exact k _ (by omega)
theorem s_session {ea eb : Bool} {d : Nat} {P : Option Vl → Mm → Prop} {σ : Mm} {l z x w : Int}   (k : ∀ r : Int, -2147483648 ≤ r ∧ r ≤ 2147483647 → P (some (vI r)) σ) : WT (ea, false, eb) (d + 5) 92 [vR 2 0, vI l, vI z, vI x, vI w] σ P := by
  refine WT_in fun K hK => ?_
  have hK : StpY (ea, false, eb) cX5_session RX5 (some .int) (WT (ea, false, eb) (d + 4)) P K := hK
  have hM := hK.1
  have hC := hK.1.1
  show K 0 [some (vR 2 0), some (vI l), some (vI z), some (vI x), some (vI w), none, none, none] [] σ
  refine r_rngz hC (fun g0 => ?_)
  have r_l : -2147483648 ≤ l ∧ l ≤ 2147483647 := inR_le (g0 (vI l) (by simp))
  have r_z : -2147483648 ≤ z ∧ z ≤ 2147483647 := inR_le (g0 (vI z) (by simp))
  have r_x : -2147483648 ≤ x ∧ x ≤ 2147483647 := inR_le (g0 (vI x) (by simp))
  have r_w : -2147483648 ≤ w ∧ w ≤ 2147483647 := inR_le (g0 (vI w) (by simp))
  refine r_aload_n hC dX5_session_0 rfl ?_
  refine r_iload_n hC dX5_session_1 rfl ?_
  refine r_iload hC dX5_session_2 rfl ?_
  refine z_inv2 hM dX5_session_4 vl_RX5_248 rfl rfl rfl (Nat.le_of_ble_eq_true rfl) (Nat.le_of_ble_eq_true rfl) ?_
  refine s_laneWith ?_ (fun h1 => ?_)
  · refine r_astoreN hC dX5_session_7 rfl ?_
    refine r_aloadN hC dX5_session_9 rfl ?_
    refine r_ifnullN (tgt := 25) hC dX5_session_11 rfl ?_
    refine r_ldc hC dX5_session_25 co_RX5_175 rfl ?_
    refine y_iret hK rfl dX5_session_27 ?_
    exact k _ (by omega)
  · refine r_astore hC dX5_session_7 rfl ?_
    refine r_aload hC dX5_session_9 rfl ?_
    refine r_ifnullR hC dX5_session_11 ?_
    refine r_iload_n hC dX5_session_14 rfl ?_
    refine z_ins1 hM dX5_session_15 tl_RX5_285 rfl (Nat.le_of_ble_eq_true rfl) (Nat.le_of_ble_eq_true rfl) ?_
    refine s_isGap (fun h3 => ?_) (fun h3 => ?_)
    · refine r_if_eq (tgt := 25) hC dX5_session_18 rfl (fun h4 => by omega) (fun h4 => ?_)
      refine r_iload_n hC dX5_session_21 rfl ?_
      refine r_if_ge (tgt := 28) hC dX5_session_22 rfl (fun h5 => ?_) (fun h5 => ?_)
      · refine r_aload_n hC dX5_session_28 rfl ?_
        refine z_getR hM dX5_session_29 fl_RX5_40 rfl rfl (vld_of (n := 1) rfl (by omega) (by omega)) ?_
        refine r_aload hC dX5_session_32 rfl ?_
        refine z_getI (jz := 2) hM dX5_session_34 fl_RX5_98 rfl rfl rfl (fun v6 h_v6 o_v6 t_v6 => ?_)
        have q_v6 : 0 ≤ v6 ∧ v6 ≤ 9 := o_v6.2.2 rfl
        refine z_inv1 hM dX5_session_37 vl_RX5_251 rfl rfl rfl (Nat.le_of_ble_eq_true rfl) (Nat.le_of_ble_eq_true rfl) ?_
        refine s_begin (by omega) ?_
        refine r_iconst hC dX5_session_40 rfl ?_
        refine r_istore hC dX5_session_41 rfl ?_
        refine r_iconst hC dX5_session_43 rfl ?_
        refine r_istore hC dX5_session_44 rfl ?_
        have L46 : ∀ (n46 : Nat) (w7 w8 : Int), -2147483648 ≤ w7 ∧ w7 ≤ 2147483647 → 0 ≤ w8 ∧ w8 ≤ 121 → 121 - w8 < (n46 : Int) → K 46 [some (vR 2 0), some (vI l), some (vI z), some (vI x), some (vI w), some (vR 7 l), some (vI w7), some (vI w8)] [] σ := by
          intro n46
          induction n46 with
          | zero => intro w7 w8  f_w7 f_w8  hm ; omega
          | succ n46 ih46 =>
            intro w7 w8  f_w7 f_w8  hm46 
            refine r_iload hC dX5_session_46 rfl ?_
            refine r_aload hC dX5_session_48 rfl ?_
            refine z_getI (jz := 6) hM dX5_session_50 fl_RX5_154 rfl rfl rfl (fun v9 h_v9 o_v9 t_v9 => ?_)
            have q_v9 : 0 ≤ v9 ∧ v9 ≤ 121 := o_v9.1 rfl
            refine r_icmp_ge (tgt := 104) hC dX5_session_53 rfl (fun h10 => ?_) (fun h10 => ?_)
            · refine r_aload_n hC dX5_session_104 rfl ?_
              refine z_getR hM dX5_session_105 fl_RX5_40 rfl rfl (vld_of (n := 1) rfl (by omega) (by omega)) ?_
              refine r_iload hC dX5_session_108 rfl ?_
              refine z_inv1 hM dX5_session_110 vl_RX5_273 rfl rfl rfl (Nat.le_of_ble_eq_true rfl) (Nat.le_of_ble_eq_true rfl) ?_
              refine s_number (fun v11 h_v11 => ?_)
              refine y_iret hK rfl dX5_session_113 ?_
              exact k _ (by omega)
            · refine r_iload hC dX5_session_56 rfl ?_
              refine r_aload hC dX5_session_58 rfl ?_
              refine r_iload hC dX5_session_60 rfl ?_
              refine r_iload_n hC dX5_session_62 rfl ?_
              refine z_inv2 hM dX5_session_63 vl_RX5_221 rfl rfl rfl (Nat.le_of_ble_eq_true rfl) (Nat.le_of_ble_eq_true rfl) ?_
              refine s_startsSession (by omega) (by omega) (fun v12 h_v12 => ?_)
              have J74_14 : ∀ (w14 : Int), 0 ≤ w14 ∧ w14 ≤ 1 → K 74 [some (vR 2 0), some (vI l), some (vI z), some (vI x), some (vI w), some (vR 7 l), some (vI w7), some (vI w8)] [vI w14, vI w7] σ := by
                intro w14  f_w14 
                refine r_iaddG hC dX5_session_74 (fun v16 h_v16 => ?_)
                refine r_istore hC dX5_session_75 rfl ?_
                refine r_iload hC dX5_session_77 rfl ?_
                refine r_iload_n hC dX5_session_79 rfl ?_
                have J98_17 : K 98 [some (vR 2 0), some (vI l), some (vI z), some (vI x), some (vI w), some (vR 7 l), some (vI v16), some (vI w8)] [] σ := by
                  refine r_iincE hC ((w8 + 1)) dX5_session_98 rfl rfl (by omega) (by unfold inR; omega) ?_
                  refine r_goto (tgt := 46) hC dX5_session_101 rfl ?_
                  exact ih46 (v16) ((w8 + 1))  (by omega) (by omega)  (by omega) 
                refine r_icmp_ne (tgt := 98) hC dX5_session_80 rfl (fun h17 => ?_) (fun h17 => ?_)
                · exact J98_17
                · refine r_aload_n hC dX5_session_83 rfl ?_
                  refine z_getR hM dX5_session_84 fl_RX5_40 rfl rfl (vld_of (n := 1) rfl (by omega) (by omega)) ?_
                  refine r_aload hC dX5_session_87 rfl ?_
                  refine z_getR hM dX5_session_89 fl_RX5_176 rfl rfl (vld_of (n := 7) rfl (by omega) (by omega)) ?_
                  refine r_iload hC dX5_session_92 rfl ?_
                  refine z_iald hM dX5_session_94 rfl (by omega) (by omega) (fun v19 h_v19 o_v19 t_v19 => ?_)
                  have q_v19 : -1000 ≤ v19 ∧ v19 ≤ 1000 := o_v19
                  refine z_inv1 hM dX5_session_95 vl_RX5_253 rfl rfl rfl (Nat.le_of_ble_eq_true rfl) (Nat.le_of_ble_eq_true rfl) ?_
                  refine s_append (by omega) ?_
                  exact J98_17    
              refine r_if_eq (tgt := 73) hC dX5_session_66 rfl (fun h13 => ?_) (fun h13 => ?_)
              · refine r_iconst hC dX5_session_73 rfl ?_
                exact J74_14 (0)  (by omega) 
              · refine r_iconst hC dX5_session_69 rfl ?_
                refine r_goto (tgt := 74) hC dX5_session_70 rfl ?_
                exact J74_14 (1)  (by omega) 
        exact L46 123 ((-1)) (0)  (by omega) (by omega)  (by omega) 
      · refine r_ldc hC dX5_session_25 co_RX5_175 rfl ?_
        refine y_iret hK rfl dX5_session_27 ?_
        exact k _ (by omega)
    · refine r_if_eq (tgt := 25) hC dX5_session_18 rfl (fun h20 => ?_) (fun h20 => by omega)
      refine r_ldc hC dX5_session_25 co_RX5_175 rfl ?_
      refine y_iret hK rfl dX5_session_27 ?_
      exact k _ (by omega)
theorem s_watch {ea eb : Bool} {d : Nat} {P : Option Vl → Mm → Prop} {σ : Mm} {v l w b : Int}   (k : ∀ r : Int, -1 ≤ r ∧ r ≤ 1 → P (some (vI r)) σ) : WT (ea, false, eb) (d + 5) 98 [vR 2 0, vI v, vI l, vI w, vI b] σ P := by
  refine WT_in fun K hK => ?_
  have hK : StpY (ea, false, eb) cX5_watch RX5 (some .int) (WT (ea, false, eb) (d + 4)) P K := hK
  have hM := hK.1
  have hC := hK.1.1
  show K 0 [some (vR 2 0), some (vI v), some (vI l), some (vI w), some (vI b), none, none] [] σ
  refine r_rngz hC (fun g0 => ?_)
  have r_v : -2147483648 ≤ v ∧ v ≤ 2147483647 := inR_le (g0 (vI v) (by simp))
  have r_l : -2147483648 ≤ l ∧ l ≤ 2147483647 := inR_le (g0 (vI l) (by simp))
  have r_w : -2147483648 ≤ w ∧ w ≤ 2147483647 := inR_le (g0 (vI w) (by simp))
  have r_b : -2147483648 ≤ b ∧ b ≤ 2147483647 := inR_le (g0 (vI b) (by simp))
  refine r_aload_n hC dX5_watch_0 rfl ?_
  refine r_iload_n hC dX5_watch_1 rfl ?_
  refine r_iload_n hC dX5_watch_2 rfl ?_
  refine z_inv2 hM dX5_watch_3 vl_RX5_248 rfl rfl rfl (Nat.le_of_ble_eq_true rfl) (Nat.le_of_ble_eq_true rfl) ?_
  refine s_laneWith ?_ (fun h1 => ?_)
  · refine r_astoreN hC dX5_watch_6 rfl ?_
    refine r_aloadN hC dX5_watch_8 rfl ?_
    refine r_ifnullN (tgt := 23) hC dX5_watch_10 rfl ?_
    refine r_iconst hC dX5_watch_23 rfl ?_
    refine y_iret hK rfl dX5_watch_24 ?_
    exact k _ (by omega)
  · refine r_astore hC dX5_watch_6 rfl ?_
    refine r_aload hC dX5_watch_8 rfl ?_
    refine r_ifnullR hC dX5_watch_10 ?_
    refine r_iload_n hC dX5_watch_13 rfl ?_
    refine r_iconst hC dX5_watch_14 rfl ?_
    refine r_bipush hC dX5_watch_15 rfl ?_
    refine z_ins3 hM dX5_watch_17 tl_RX5_59 rfl (Nat.le_of_ble_eq_true rfl) (Nat.le_of_ble_eq_true rfl) ?_
    refine s_within (fun h3 => ?_) (fun h3 => ?_)
    · refine r_if_ne (tgt := 25) hC dX5_watch_20 rfl (fun h4 => ?_) (fun h4 => by omega)
      refine r_aload_n hC dX5_watch_25 rfl ?_
      refine r_aload hC dX5_watch_26 rfl ?_
      refine r_iconst hC dX5_watch_28 rfl ?_
      refine r_aload hC dX5_watch_29 rfl ?_
      refine z_getI (jz := 6) hM dX5_watch_31 fl_RX5_154 rfl rfl rfl (fun v5 h_v5 o_v5 t_v5 => ?_)
      have q_v5 : 0 ≤ v5 ∧ v5 ≤ 121 := o_v5.1 rfl
      refine z_inv3 hM dX5_watch_34 vl_RX5_259 rfl rfl rfl (Nat.le_of_ble_eq_true rfl) (Nat.le_of_ble_eq_true rfl) ?_
      refine s_foldPart (by omega) (by omega) (by omega) ?_
      refine r_aload_n hC dX5_watch_37 rfl ?_
      refine z_getR hM dX5_watch_38 fl_RX5_40 rfl rfl (vld_of (n := 1) rfl (by omega) (by omega)) ?_
      refine r_iload_n hC dX5_watch_41 rfl ?_
      refine r_iload hC dX5_watch_42 rfl ?_
      refine z_inv2 hM dX5_watch_44 vl_RX5_256 rfl rfl rfl (Nat.le_of_ble_eq_true rfl) (Nat.le_of_ble_eq_true rfl) ?_
      refine s_reaches (fun v6 h_v6 => ?_)
      refine r_istore hC dX5_watch_47 rfl ?_
      refine r_aload_n hC dX5_watch_49 rfl ?_
      refine z_getR hM dX5_watch_50 fl_RX5_32 rfl rfl (vld_of (n := 1) rfl (by omega) (by omega)) ?_
      refine r_iload_n hC dX5_watch_53 rfl ?_
      refine z_aald hM dX5_watch_54 rfl (by decide) (by omega) (by omega) (vld_of (n := 8) rfl (by omega) (by omega)) ?_
      refine r_iload_n hC dX5_watch_55 rfl ?_
      refine r_iload_n hC dX5_watch_56 rfl ?_
      refine r_iload hC dX5_watch_57 rfl ?_
      refine r_iload hC dX5_watch_59 rfl ?_
      refine z_inv4 hM dX5_watch_61 vl_RX5_309 rfl rfl rfl (Nat.le_of_ble_eq_true rfl) (Nat.le_of_ble_eq_true rfl) ?_
      refine s_Watch_begin (by omega) (by omega) ?_
      refine r_iload hC dX5_watch_64 rfl ?_
      have J74_8 : ∀ (w8 : Int), 0 ≤ w8 ∧ w8 ≤ 1 → K 74 [some (vR 2 0), some (vI v), some (vI l), some (vI w), some (vI b), some (vR 7 l), some (vI v6)] [vI w8] σ := by
        intro w8  f_w8 
        refine y_iret hK rfl dX5_watch_74 ?_
        exact k _ (by omega)
      refine r_if_eq (tgt := 73) hC dX5_watch_66 rfl (fun h7 => ?_) (fun h7 => ?_)
      · refine r_iconst hC dX5_watch_73 rfl ?_
        exact J74_8 (0)  (by omega) 
      · refine r_iconst hC dX5_watch_69 rfl ?_
        refine r_goto (tgt := 74) hC dX5_watch_70 rfl ?_
        exact J74_8 (1)  (by omega) 
    · refine r_if_ne (tgt := 25) hC dX5_watch_20 rfl (fun h10 => by omega) (fun h10 => ?_)
      refine r_iconst hC dX5_watch_23 rfl ?_
      refine y_iret hK rfl dX5_watch_24 ?_
      exact k _ (by omega)
theorem s_shortest {ea eb : Bool} {d : Nat} {P : Option Vl → Mm → Prop} {σ : Mm} {l w b z : Int}   (k : ∀ r : Int, -1000 ≤ r ∧ r ≤ 122 → P (some (vI r)) σ) : WT (ea, false, eb) (d + 5) 109 [vR 2 0, vI l, vI w, vI b, vI z] σ P := by
  refine WT_in fun K hK => ?_
  have hK : StpY (ea, false, eb) cX5_shortest RX5 (some .int) (WT (ea, false, eb) (d + 4)) P K := hK
  have hM := hK.1
  have hC := hK.1.1
  show K 0 [some (vR 2 0), some (vI l), some (vI w), some (vI b), some (vI z), none, none, none, none, none] [] σ
  refine r_rngz hC (fun g0 => ?_)
  have r_l : -2147483648 ≤ l ∧ l ≤ 2147483647 := inR_le (g0 (vI l) (by simp))
  have r_w : -2147483648 ≤ w ∧ w ≤ 2147483647 := inR_le (g0 (vI w) (by simp))
  have r_b : -2147483648 ≤ b ∧ b ≤ 2147483647 := inR_le (g0 (vI b) (by simp))
  have r_z : -2147483648 ≤ z ∧ z ≤ 2147483647 := inR_le (g0 (vI z) (by simp))
  refine r_aload_n hC dX5_shortest_0 rfl ?_
  refine r_iload_n hC dX5_shortest_1 rfl ?_
  refine r_iload_n hC dX5_shortest_2 rfl ?_
  refine z_inv2 hM dX5_shortest_3 vl_RX5_248 rfl rfl rfl (Nat.le_of_ble_eq_true rfl) (Nat.le_of_ble_eq_true rfl) ?_
  refine s_laneWith ?_ (fun h1 => ?_)
  · refine r_astoreN hC dX5_shortest_6 rfl ?_
    refine r_aloadN hC dX5_shortest_8 rfl ?_
    refine r_ifnullN (tgt := 23) hC dX5_shortest_10 rfl ?_
    refine r_iconst hC dX5_shortest_23 rfl ?_
    refine y_iret hK rfl dX5_shortest_24 ?_
    exact k _ (by omega)
  · refine r_astore hC dX5_shortest_6 rfl ?_
    refine r_aload hC dX5_shortest_8 rfl ?_
    refine r_ifnullR hC dX5_shortest_10 ?_
    refine r_iload hC dX5_shortest_13 rfl ?_
    refine r_iconst hC dX5_shortest_15 rfl ?_
    refine r_iconst hC dX5_shortest_16 rfl ?_
    refine z_ins3 hM dX5_shortest_17 tl_RX5_59 rfl (Nat.le_of_ble_eq_true rfl) (Nat.le_of_ble_eq_true rfl) ?_
    refine s_within (fun h3 => ?_) (fun h3 => ?_)
    · refine r_if_ne (tgt := 25) hC dX5_shortest_20 rfl (fun h4 => ?_) (fun h4 => by omega)
      refine r_aload hC dX5_shortest_25 rfl ?_
      refine z_getI (jz := 6) hM dX5_shortest_27 fl_RX5_154 rfl rfl rfl (fun v5 h_v5 o_v5 t_v5 => ?_)
      have q_v5 : 0 ≤ v5 ∧ v5 ≤ 121 := o_v5.1 rfl
      refine r_iconst hC dX5_shortest_30 rfl ?_
      refine r_iaddE hC ((v5 + 1)) dX5_shortest_31 (by omega) (by unfold inR; omega) ?_
      refine r_istore hC dX5_shortest_32 rfl ?_
      refine r_iconst hC dX5_shortest_34 rfl ?_
      refine r_istore hC dX5_shortest_35 rfl ?_
      refine r_iconst hC dX5_shortest_37 rfl ?_
      refine r_istore hC dX5_shortest_38 rfl ?_
      have L40 : ∀ (n40 : Nat) (w6 w7 w8 : Int), -1000 ≤ w6 ∧ w6 ≤ 122 → -1 ≤ w7 ∧ w7 ≤ 120 → 0 ≤ w8 ∧ w8 ≤ 121 → 121 - w8 < (n40 : Int) → K 40 [some (vR 2 0), some (vI l), some (vI w), some (vI b), some (vI z), some (vR 7 l), some (vI w6), some (vI w7), some (vI w8), none] [] σ := by
        intro n40
        induction n40 with
        | zero => intro w6 w7 w8  f_w6 f_w7 f_w8  hm ; omega
        | succ n40 ih40 =>
          intro w6 w7 w8  f_w6 f_w7 f_w8  hm40 
          refine r_iload hC dX5_shortest_40 rfl ?_
          refine r_aload hC dX5_shortest_42 rfl ?_
          refine z_getI (jz := 6) hM dX5_shortest_44 fl_RX5_154 rfl rfl rfl (fun v9 h_v9 o_v9 t_v9 => ?_)
          have q_v9 : 0 ≤ v9 ∧ v9 ≤ 121 := o_v9.1 rfl
          refine r_icmp_ge (tgt := 140) hC dX5_shortest_47 rfl (fun h10 => ?_) (fun h10 => ?_)
          · refine r_iload hC dX5_shortest_140 rfl ?_
            refine r_iconst hC dX5_shortest_142 rfl ?_
            have J162_12 : ∀ (w12 : Int), -1000 ≤ w12 ∧ w12 ≤ 122 → K 162 [some (vR 2 0), some (vI l), some (vI w), some (vI b), some (vI z), some (vR 7 l), some (vI w6), some (vI w7), some (vI w8), none] [vI w12] σ := by
              intro w12  f_w12 
              refine y_iret hK rfl dX5_shortest_162 ?_
              exact k _ (by omega)
            refine r_icmp_ne (tgt := 150) hC dX5_shortest_143 rfl (fun h11 => ?_) (fun h11 => ?_)
            · refine r_iload hC dX5_shortest_150 rfl ?_
              refine r_if_ne (tgt := 160) hC dX5_shortest_152 rfl (fun h14 => ?_) (fun h14 => ?_)
              · refine r_iload hC dX5_shortest_160 rfl ?_
                exact J162_12 (w7)  (by omega) 
              · refine r_iload hC dX5_shortest_155 rfl ?_
                refine r_goto (tgt := 162) hC dX5_shortest_157 rfl ?_
                exact J162_12 (w6)  (by omega) 
            · refine r_iconst hC dX5_shortest_146 rfl ?_
              refine r_goto (tgt := 162) hC dX5_shortest_147 rfl ?_
              exact J162_12 ((-1))  (by omega) 
          · refine r_aload_n hC dX5_shortest_50 rfl ?_
            refine z_getR hM dX5_shortest_51 fl_RX5_40 rfl rfl (vld_of (n := 1) rfl (by omega) (by omega)) ?_
            refine r_aload hC dX5_shortest_54 rfl ?_
            refine z_getI (jz := 2) hM dX5_shortest_56 fl_RX5_98 rfl rfl rfl (fun v15 h_v15 o_v15 t_v15 => ?_)
            have q_v15 : 0 ≤ v15 ∧ v15 ≤ 9 := o_v15.2.2 rfl
            refine z_inv1 hM dX5_shortest_59 vl_RX5_251 rfl rfl rfl (Nat.le_of_ble_eq_true rfl) (Nat.le_of_ble_eq_true rfl) ?_
            refine s_begin (by omega) ?_
            refine r_iload hC dX5_shortest_62 rfl ?_
            refine r_istore hC dX5_shortest_64 rfl ?_
            have L66 : ∀ (n66 : Nat) (w16 w17 w18 : Int), -1000 ≤ w16 ∧ w16 ≤ 122 → -1 ≤ w17 ∧ w17 ≤ 120 → 0 ≤ w18 ∧ w18 ≤ 121 → 121 - w18 < (n66 : Int) → K 66 [some (vR 2 0), some (vI l), some (vI w), some (vI b), some (vI z), some (vR 7 l), some (vI w16), some (vI w17), some (vI w8), some (vI w18)] [] σ := by
              intro n66
              induction n66 with
              | zero => intro w16 w17 w18  f_w16 f_w17 f_w18  hm ; omega
              | succ n66 ih66 =>
                intro w16 w17 w18  f_w16 f_w17 f_w18  hm66 
                refine r_iload hC dX5_shortest_66 rfl ?_
                refine r_aload hC dX5_shortest_68 rfl ?_
                refine z_getI (jz := 6) hM dX5_shortest_70 fl_RX5_154 rfl rfl rfl (fun v19 h_v19 o_v19 t_v19 => ?_)
                have q_v19 : 0 ≤ v19 ∧ v19 ≤ 121 := o_v19.1 rfl
                have J134_20 : K 134 [some (vR 2 0), some (vI l), some (vI w), some (vI b), some (vI z), some (vR 7 l), some (vI w16), some (vI w17), some (vI w8), some (vI w18)] [] σ := by
                  refine r_iincE hC ((w8 + 1)) dX5_shortest_134 rfl rfl (by omega) (by unfold inR; omega) ?_
                  refine r_goto (tgt := 40) hC dX5_shortest_137 rfl ?_
                  refine r_forget hC (ls2 := [some (vR 2 0), some (vI l), some (vI w), some (vI b), some (vI z), some (vR 7 l), some (vI w16), some (vI w17), some (vI (w8 + 1)), none]) (lsub_some (lsub_some (lsub_some (lsub_some (lsub_some (lsub_some (lsub_some (lsub_some (lsub_some (lsub_none lsub_nil)))))))))) ?_
                  exact ih40 (w16) (w17) ((w8 + 1))  (by omega) (by omega) (by omega)  (by omega) 
                refine r_icmp_ge (tgt := 134) hC dX5_shortest_73 rfl (fun h20 => ?_) (fun h20 => ?_)
                · exact J134_20
                · refine r_iload hC dX5_shortest_76 rfl ?_
                  refine r_iload hC dX5_shortest_78 rfl ?_
                  refine r_isubE hC ((w18 - w8)) dX5_shortest_80 (by omega) (by unfold inR; omega) ?_
                  refine r_iconst hC dX5_shortest_81 rfl ?_
                  refine r_iaddE hC (((w18 - w8) + 1)) dX5_shortest_82 (by omega) (by unfold inR; omega) ?_
                  refine r_iload hC dX5_shortest_83 rfl ?_
                  refine r_icmp_ge (tgt := 134) hC dX5_shortest_85 rfl (fun h22 => ?_) (fun h22 => ?_)
                  · exact J134_20
                  · refine r_aload_n hC dX5_shortest_88 rfl ?_
                    refine z_getR hM dX5_shortest_89 fl_RX5_40 rfl rfl (vld_of (n := 1) rfl (by omega) (by omega)) ?_
                    refine r_aload hC dX5_shortest_92 rfl ?_
                    refine z_getR hM dX5_shortest_94 fl_RX5_176 rfl rfl (vld_of (n := 7) rfl (by omega) (by omega)) ?_
                    refine r_iload hC dX5_shortest_97 rfl ?_
                    refine z_iald hM dX5_shortest_99 rfl (by omega) (by omega) (fun v23 h_v23 o_v23 t_v23 => ?_)
                    have q_v23 : -1000 ≤ v23 ∧ v23 ≤ 1000 := o_v23
                    refine z_inv1 hM dX5_shortest_100 vl_RX5_253 rfl rfl rfl (Nat.le_of_ble_eq_true rfl) (Nat.le_of_ble_eq_true rfl) ?_
                    refine s_append (by omega) ?_
                    refine r_aload_n hC dX5_shortest_103 rfl ?_
                    refine z_getR hM dX5_shortest_104 fl_RX5_40 rfl rfl (vld_of (n := 1) rfl (by omega) (by omega)) ?_
                    refine r_iload_n hC dX5_shortest_107 rfl ?_
                    refine r_iload_n hC dX5_shortest_108 rfl ?_
                    refine z_inv2 hM dX5_shortest_109 vl_RX5_256 rfl rfl rfl (Nat.le_of_ble_eq_true rfl) (Nat.le_of_ble_eq_true rfl) ?_
                    refine s_reaches (fun v24 h_v24 => ?_)
                    have J128_27 : ∀ (w26 w27 : Int), -119 ≤ w26 ∧ w26 ≤ 122 → -1 ≤ w27 ∧ w27 ≤ 120 → K 128 [some (vR 2 0), some (vI l), some (vI w), some (vI b), some (vI z), some (vR 7 l), some (vI w26), some (vI w27), some (vI w8), some (vI w18)] [] σ := by
                      intro w26 w27  f_w26 f_w27 
                      refine r_iincE hC ((w18 + 1)) dX5_shortest_128 rfl rfl (by omega) (by unfold inR; omega) ?_
                      refine r_goto (tgt := 66) hC dX5_shortest_131 rfl ?_
                      exact ih66 (w26) (w27) ((w18 + 1))  (by omega) (by omega) (by omega)  (by omega) 
                    refine r_if_eq (tgt := 128) hC dX5_shortest_112 rfl (fun h25 => ?_) (fun h25 => ?_)
                    · exact J128_27 (w16) (w17)  (by omega) (by omega)
                    · refine r_iload hC dX5_shortest_115 rfl ?_
                      refine r_iload hC dX5_shortest_117 rfl ?_
                      refine r_isubE hC ((w18 - w8)) dX5_shortest_119 (by omega) (by unfold inR; omega) ?_
                      refine r_iconst hC dX5_shortest_120 rfl ?_
                      refine r_iaddE hC (((w18 - w8) + 1)) dX5_shortest_121 (by omega) (by unfold inR; omega) ?_
                      refine r_istore hC dX5_shortest_122 rfl ?_
                      refine r_iload hC dX5_shortest_124 rfl ?_
                      refine r_istore hC dX5_shortest_126 rfl ?_
                      exact J128_27 (((w18 - w8) + 1)) (w8)  (by omega) (by omega) 
            exact L66 123 (w6) (w7) (w8)  (by omega) (by omega) (by omega)  (by omega) 
      exact L40 123 ((v5 + 1)) ((-1)) (0)  (by omega) (by omega) (by omega)  (by omega) 
    · refine r_if_ne (tgt := 25) hC dX5_shortest_20 rfl (fun h29 => by omega) (fun h29 => ?_)
      refine r_iconst hC dX5_shortest_23 rfl ?_
      refine y_iret hK rfl dX5_shortest_24 ?_
      exact k _ (by omega)
theorem s_windows {ea eb : Bool} {d : Nat} {P : Option Vl → Mm → Prop} {σ : Mm} {l w x y : Int}   (k : ∀ r : Int, -2147483648 ≤ r ∧ r ≤ 2147483647 → P (some (vI r)) σ) : WT (ea, false, eb) (d + 5) 110 [vR 2 0, vI l, vI w, vI x, vI y] σ P := by
  refine WT_in fun K hK => ?_
  have hK : StpY (ea, false, eb) cX5_windows RX5 (some .int) (WT (ea, false, eb) (d + 4)) P K := hK
  have hM := hK.1
  have hC := hK.1.1
  show K 0 [some (vR 2 0), some (vI l), some (vI w), some (vI x), some (vI y), none, none, none, none, none] [] σ
  refine r_rngz hC (fun g0 => ?_)
  have r_l : -2147483648 ≤ l ∧ l ≤ 2147483647 := inR_le (g0 (vI l) (by simp))
  have r_w : -2147483648 ≤ w ∧ w ≤ 2147483647 := inR_le (g0 (vI w) (by simp))
  have r_x : -2147483648 ≤ x ∧ x ≤ 2147483647 := inR_le (g0 (vI x) (by simp))
  have r_y : -2147483648 ≤ y ∧ y ≤ 2147483647 := inR_le (g0 (vI y) (by simp))
  refine r_aload_n hC dX5_windows_0 rfl ?_
  refine r_iload_n hC dX5_windows_1 rfl ?_
  refine r_iload_n hC dX5_windows_2 rfl ?_
  refine z_inv2 hM dX5_windows_3 vl_RX5_248 rfl rfl rfl (Nat.le_of_ble_eq_true rfl) (Nat.le_of_ble_eq_true rfl) ?_
  refine s_laneWith ?_ (fun h1 => ?_)
  · refine r_astoreN hC dX5_windows_6 rfl ?_
    refine r_aloadN hC dX5_windows_8 rfl ?_
    refine r_ifnonnullN hC dX5_windows_10 ?_
    refine r_iconst hC dX5_windows_13 rfl ?_
    refine y_iret hK rfl dX5_windows_14 ?_
    exact k _ (by omega)
  · refine r_astore hC dX5_windows_6 rfl ?_
    refine r_aload hC dX5_windows_8 rfl ?_
    refine r_ifnonnullR (tgt := 15) hC dX5_windows_10 rfl ?_
    refine r_iconst hC dX5_windows_15 rfl ?_
    refine r_istore hC dX5_windows_16 rfl ?_
    refine r_iconst hC dX5_windows_18 rfl ?_
    refine r_istore hC dX5_windows_19 rfl ?_
    have L21 : ∀ (n21 : Nat) (w2 w3 : Int), -2147483648 ≤ w2 ∧ w2 ≤ 2147483647 → 0 ≤ w3 ∧ w3 ≤ 121 → 121 - w3 < (n21 : Int) → K 21 [some (vR 2 0), some (vI l), some (vI w), some (vI x), some (vI y), some (vR 7 l), some (vI w2), some (vI w3), none, none] [] σ := by
      intro n21
      induction n21 with
      | zero => intro w2 w3  f_w2 f_w3  hm ; omega
      | succ n21 ih21 =>
        intro w2 w3  f_w2 f_w3  hm21 
        refine r_iload hC dX5_windows_21 rfl ?_
        refine r_aload hC dX5_windows_23 rfl ?_
        refine z_getI (jz := 6) hM dX5_windows_25 fl_RX5_154 rfl rfl rfl (fun v4 h_v4 o_v4 t_v4 => ?_)
        have q_v4 : 0 ≤ v4 ∧ v4 ≤ 121 := o_v4.1 rfl
        refine r_icmp_ge (tgt := 122) hC dX5_windows_28 rfl (fun h5 => ?_) (fun h5 => ?_)
        · refine r_iload hC dX5_windows_122 rfl ?_
          refine y_iret hK rfl dX5_windows_124 ?_
          exact k _ (by omega)
        · refine r_aload_n hC dX5_windows_31 rfl ?_
          refine z_getR hM dX5_windows_32 fl_RX5_40 rfl rfl (vld_of (n := 1) rfl (by omega) (by omega)) ?_
          refine r_aload hC dX5_windows_35 rfl ?_
          refine z_getI (jz := 2) hM dX5_windows_37 fl_RX5_98 rfl rfl rfl (fun v6 h_v6 o_v6 t_v6 => ?_)
          have q_v6 : 0 ≤ v6 ∧ v6 ≤ 9 := o_v6.2.2 rfl
          refine z_inv1 hM dX5_windows_40 vl_RX5_251 rfl rfl rfl (Nat.le_of_ble_eq_true rfl) (Nat.le_of_ble_eq_true rfl) ?_
          refine s_begin (by omega) ?_
          refine r_iload hC dX5_windows_43 rfl ?_
          refine r_istore hC dX5_windows_45 rfl ?_
          have L47 : ∀ (n47 : Nat) (w7 w8 : Int), -2147483648 ≤ w7 ∧ w7 ≤ 2147483647 → 0 ≤ w8 ∧ w8 ≤ 121 → 121 - w8 < (n47 : Int) → K 47 [some (vR 2 0), some (vI l), some (vI w), some (vI x), some (vI y), some (vR 7 l), some (vI w7), some (vI w3), some (vI w8), none] [] σ := by
            intro n47
            induction n47 with
            | zero => intro w7 w8  f_w7 f_w8  hm ; omega
            | succ n47 ih47 =>
              intro w7 w8  f_w7 f_w8  hm47 
              refine r_iload hC dX5_windows_47 rfl ?_
              refine r_aload hC dX5_windows_49 rfl ?_
              refine z_getI (jz := 6) hM dX5_windows_51 fl_RX5_154 rfl rfl rfl (fun v9 h_v9 o_v9 t_v9 => ?_)
              have q_v9 : 0 ≤ v9 ∧ v9 ≤ 121 := o_v9.1 rfl
              refine r_icmp_ge (tgt := 116) hC dX5_windows_54 rfl (fun h10 => ?_) (fun h10 => ?_)
              · refine r_iincE hC ((w3 + 1)) dX5_windows_116 rfl rfl (by omega) (by unfold inR; omega) ?_
                refine r_goto (tgt := 21) hC dX5_windows_119 rfl ?_
                refine r_forget hC (ls2 := [some (vR 2 0), some (vI l), some (vI w), some (vI x), some (vI y), some (vR 7 l), some (vI w7), some (vI (w3 + 1)), none, none]) (lsub_some (lsub_some (lsub_some (lsub_some (lsub_some (lsub_some (lsub_some (lsub_some (lsub_none (lsub_none lsub_nil)))))))))) ?_
                exact ih21 (w7) ((w3 + 1))  (by omega) (by omega)  (by omega) 
              · refine r_aload_n hC dX5_windows_57 rfl ?_
                refine z_getR hM dX5_windows_58 fl_RX5_40 rfl rfl (vld_of (n := 1) rfl (by omega) (by omega)) ?_
                refine r_aload hC dX5_windows_61 rfl ?_
                refine z_getR hM dX5_windows_63 fl_RX5_176 rfl rfl (vld_of (n := 7) rfl (by omega) (by omega)) ?_
                refine r_iload hC dX5_windows_66 rfl ?_
                refine z_iald hM dX5_windows_68 rfl (by omega) (by omega) (fun v11 h_v11 o_v11 t_v11 => ?_)
                have q_v11 : -1000 ≤ v11 ∧ v11 ≤ 1000 := o_v11
                refine z_inv1 hM dX5_windows_69 vl_RX5_253 rfl rfl rfl (Nat.le_of_ble_eq_true rfl) (Nat.le_of_ble_eq_true rfl) ?_
                refine s_append (by omega) ?_
                refine r_aload_n hC dX5_windows_72 rfl ?_
                refine z_getR hM dX5_windows_73 fl_RX5_40 rfl rfl (vld_of (n := 1) rfl (by omega) (by omega)) ?_
                refine r_iload_n hC dX5_windows_76 rfl ?_
                refine z_inv1 hM dX5_windows_77 vl_RX5_273 rfl rfl rfl (Nat.le_of_ble_eq_true rfl) (Nat.le_of_ble_eq_true rfl) ?_
                refine s_number (fun v12 h_v12 => ?_)
                refine r_istore hC dX5_windows_80 rfl ?_
                refine r_iload hC dX5_windows_82 rfl ?_
                refine r_iload hC dX5_windows_84 rfl ?_
                refine r_ldc hC dX5_windows_86 co_RX5_175 rfl ?_
                have J107_14 : ∀ (w14 : Int), 0 ≤ w14 ∧ w14 ≤ 1 → K 107 [some (vR 2 0), some (vI l), some (vI w), some (vI x), some (vI y), some (vR 7 l), some (vI w7), some (vI w3), some (vI w8), some (vI v12)] [vI w14, vI w7] σ := by
                  intro w14  f_w14 
                  refine r_iaddG hC dX5_windows_107 (fun v16 h_v16 => ?_)
                  refine r_istore hC dX5_windows_108 rfl ?_
                  refine r_iincE hC ((w8 + 1)) dX5_windows_110 rfl rfl (by omega) (by unfold inR; omega) ?_
                  refine r_goto (tgt := 47) hC dX5_windows_113 rfl ?_
                  refine r_forget hC (ls2 := [some (vR 2 0), some (vI l), some (vI w), some (vI x), some (vI y), some (vR 7 l), some (vI v16), some (vI w3), some (vI (w8 + 1)), none]) (lsub_some (lsub_some (lsub_some (lsub_some (lsub_some (lsub_some (lsub_some (lsub_some (lsub_some (lsub_none lsub_nil)))))))))) ?_
                  exact ih47 (v16) ((w8 + 1))  (by omega) (by omega)  (by omega) 
                refine r_icmp_eq (tgt := 106) hC dX5_windows_88 rfl (fun h13 => ?_) (fun h13 => ?_)
                · refine r_iconst hC dX5_windows_106 rfl ?_
                  exact J107_14 (0)  (by omega) 
                · refine r_iload hC dX5_windows_91 rfl ?_
                  refine r_iload_n hC dX5_windows_93 rfl ?_
                  refine r_iload hC dX5_windows_94 rfl ?_
                  refine z_ins3 hM dX5_windows_96 tl_RX5_59 rfl (Nat.le_of_ble_eq_true rfl) (Nat.le_of_ble_eq_true rfl) ?_
                  refine s_within (fun h18 => ?_) (fun h18 => ?_)
                  · refine r_if_eq (tgt := 106) hC dX5_windows_99 rfl (fun h19 => by omega) (fun h19 => ?_)
                    refine r_iconst hC dX5_windows_102 rfl ?_
                    refine r_goto (tgt := 107) hC dX5_windows_103 rfl ?_
                    exact J107_14 (1)  (by omega) 
                  · refine r_if_eq (tgt := 106) hC dX5_windows_99 rfl (fun h20 => ?_) (fun h20 => by omega)
                    refine r_iconst hC dX5_windows_106 rfl ?_
                    exact J107_14 (0)  (by omega) 
          exact L47 123 (w2) (w3)  (by omega) (by omega)  (by omega) 
    exact L21 123 (0) (0)  (by omega) (by omega)  (by omega) 
theorem s_were {ea eb : Bool} {d : Nat} {P : Option Vl → Mm → Prop} {σ : Mm} {l t v w : Int}   (k : ∀ r : Int, -2147483648 ≤ r ∧ r ≤ 2147483647 → P (some (vI r)) σ) : WT (ea, false, eb) (d + 5) 111 [vR 2 0, vI l, vI t, vI v, vI w] σ P := by
  refine WT_in fun K hK => ?_
  have hK : StpY (ea, false, eb) cX5_were RX5 (some .int) (WT (ea, false, eb) (d + 4)) P K := hK
  have hM := hK.1
  have hC := hK.1.1
  show K 0 [some (vR 2 0), some (vI l), some (vI t), some (vI v), some (vI w), none, none, none, none, none, none] [] σ
  refine r_rngz hC (fun g0 => ?_)
  have r_l : -2147483648 ≤ l ∧ l ≤ 2147483647 := inR_le (g0 (vI l) (by simp))
  have r_t : -2147483648 ≤ t ∧ t ≤ 2147483647 := inR_le (g0 (vI t) (by simp))
  have r_v : -2147483648 ≤ v ∧ v ≤ 2147483647 := inR_le (g0 (vI v) (by simp))
  have r_w : -2147483648 ≤ w ∧ w ≤ 2147483647 := inR_le (g0 (vI w) (by simp))
  refine r_aload_n hC dX5_were_0 rfl ?_
  refine r_iload_n hC dX5_were_1 rfl ?_
  refine r_iload hC dX5_were_2 rfl ?_
  refine z_inv2 hM dX5_were_4 vl_RX5_248 rfl rfl rfl (Nat.le_of_ble_eq_true rfl) (Nat.le_of_ble_eq_true rfl) ?_
  refine s_laneWith ?_ (fun h1 => ?_)
  · refine r_astoreN hC dX5_were_7 rfl ?_
    refine r_aloadN hC dX5_were_9 rfl ?_
    refine r_ifnullN (tgt := 45) hC dX5_were_11 rfl ?_
    refine r_ldc hC dX5_were_45 co_RX5_175 rfl ?_
    refine y_iret hK rfl dX5_were_47 ?_
    exact k _ (by omega)
  · refine r_astore hC dX5_were_7 rfl ?_
    refine r_aload hC dX5_were_9 rfl ?_
    refine r_ifnullR hC dX5_were_11 ?_
    refine r_iload_n hC dX5_were_14 rfl ?_
    refine z_ins1 hM dX5_were_15 tl_RX5_127 rfl (Nat.le_of_ble_eq_true rfl) (Nat.le_of_ble_eq_true rfl) ?_
    refine s_isTime (fun h3 => ?_) (fun h3 => ?_)
    · refine r_if_eq (tgt := 45) hC dX5_were_18 rfl (fun h4 => by omega) (fun h4 => ?_)
      refine r_iload_n hC dX5_were_21 rfl ?_
      refine z_ins1 hM dX5_were_22 tl_RX5_130 rfl (Nat.le_of_ble_eq_true rfl) (Nat.le_of_ble_eq_true rfl) ?_
      refine s_isValue (fun h6 => ?_) (fun h6 => ?_)
      · refine r_if_eq (tgt := 45) hC dX5_were_25 rfl (fun h7 => by omega) (fun h7 => ?_)
        refine r_aload hC dX5_were_28 rfl ?_
        refine r_iload_n hC dX5_were_30 rfl ?_
        refine z_inv1 hM dX5_were_31 vl_RX5_133 rfl rfl rfl (Nat.le_of_ble_eq_true rfl) (Nat.le_of_ble_eq_true rfl) ?_
        refine s_isTooLate (by omega) (fun v8 h_v8 => ?_)
        refine r_if_ne (tgt := 45) hC dX5_were_34 rfl (fun h9 => ?_) (fun h9 => ?_)
        · refine r_ldc hC dX5_were_45 co_RX5_175 rfl ?_
          refine y_iret hK rfl dX5_were_47 ?_
          exact k _ (by omega)
        · refine r_aload hC dX5_were_37 rfl ?_
          refine z_inv0 hM dX5_were_39 vl_RX5_139 rfl rfl rfl (Nat.le_of_ble_eq_true rfl) (Nat.le_of_ble_eq_true rfl) ?_
          refine s_isFull (by omega) (fun v10 h_v10 => ?_)
          refine r_if_eq (tgt := 48) hC dX5_were_42 rfl (fun h11 => ?_) (fun h11 => ?_)
          · refine r_aload hC dX5_were_48 rfl ?_
            refine r_iload_n hC dX5_were_50 rfl ?_
            refine r_i2l hC dX5_were_51 ?_
            refine z_inv1 hM dX5_were_52 vl_RX5_167 rfl rfl rfl (Nat.le_of_ble_eq_true rfl) (Nat.le_of_ble_eq_true rfl) ?_
            refine s_heldUntil (by omega) (fun v12 h_v12 => ?_)
            refine r_istore hC dX5_were_55 rfl ?_
            refine r_aload hC dX5_were_57 rfl ?_
            refine z_getI (jz := 10) hM dX5_were_59 fl_RX5_157 rfl rfl rfl (fun v13 h_v13 o_v13 t_v13 => ?_)
            refine r_iload_n hC dX5_were_62 rfl ?_
            refine z_ins2 hM dX5_were_63 tl_RX5_239 rfl (Nat.le_of_ble_eq_true rfl) (Nat.le_of_ble_eq_true rfl) ?_
            refine s_max (fun v14 h_v14 => ?_)
            refine r_istore hC dX5_were_66 rfl ?_
            refine r_aload_n hC dX5_were_68 rfl ?_
            refine z_getR hM dX5_were_69 fl_RX5_40 rfl rfl (vld_of (n := 1) rfl (by omega) (by omega)) ?_
            refine r_aload hC dX5_were_72 rfl ?_
            refine z_getI (jz := 2) hM dX5_were_74 fl_RX5_98 rfl rfl rfl (fun v15 h_v15 o_v15 t_v15 => ?_)
            have q_v15 : 0 ≤ v15 ∧ v15 ≤ 9 := o_v15.2.2 rfl
            refine z_inv1 hM dX5_were_77 vl_RX5_251 rfl rfl rfl (Nat.le_of_ble_eq_true rfl) (Nat.le_of_ble_eq_true rfl) ?_
            refine s_begin (by omega) ?_
            refine r_iconst hC dX5_were_80 rfl ?_
            refine r_istore hC dX5_were_81 rfl ?_
            have L83 : ∀ (n83 : Nat) (w16 : Int), 0 ≤ w16 ∧ w16 ≤ 122 → 122 - w16 < (n83 : Int) → K 83 [some (vR 2 0), some (vI l), some (vI t), some (vI v), some (vI w), some (vR 7 l), some (vI v12), some (vI v14), some (vI w16), none, none] [] σ := by
              intro n83
              induction n83 with
              | zero => intro w16  f_w16  hm ; omega
              | succ n83 ih83 =>
                intro w16  f_w16  hm83 
                refine r_iload hC dX5_were_83 rfl ?_
                refine r_aload hC dX5_were_85 rfl ?_
                refine z_getI (jz := 6) hM dX5_were_87 fl_RX5_154 rfl rfl rfl (fun v17 h_v17 o_v17 t_v17 => ?_)
                have q_v17 : 0 ≤ v17 ∧ v17 ≤ 121 := o_v17.1 rfl
                refine r_icmp_gt (tgt := 186) hC dX5_were_90 rfl (fun h18 => ?_) (fun h18 => ?_)
                · refine r_aload_n hC dX5_were_186 rfl ?_
                  refine z_getR hM dX5_were_187 fl_RX5_40 rfl rfl (vld_of (n := 1) rfl (by omega) (by omega)) ?_
                  refine r_iload hC dX5_were_190 rfl ?_
                  refine z_inv1 hM dX5_were_192 vl_RX5_273 rfl rfl rfl (Nat.le_of_ble_eq_true rfl) (Nat.le_of_ble_eq_true rfl) ?_
                  refine s_number (fun v19 h_v19 => ?_)
                  refine y_iret hK rfl dX5_were_195 ?_
                  exact k _ (by omega)
                · refine r_iload hC dX5_were_93 rfl ?_
                  refine r_iload hC dX5_were_95 rfl ?_
                  refine r_icmp_ge (tgt := 105) hC dX5_were_97 rfl (fun h20 => ?_) (fun h20 => ?_)
                  · refine r_iload hC dX5_were_105 rfl ?_
                    refine r_iconst hC dX5_were_107 rfl ?_
                    refine r_isubE hC ((w16 - 1)) dX5_were_108 (by omega) (by unfold inR; omega) ?_
                    refine r_istore hC dX5_were_109 rfl ?_
                    refine r_iload hC dX5_were_111 rfl ?_
                    refine r_iload hC dX5_were_113 rfl ?_
                    refine r_icmp_ne (tgt := 122) hC dX5_were_115 rfl (fun h21 => ?_) (fun h21 => ?_)
                    · refine r_aload hC dX5_were_122 rfl ?_
                      refine z_getR hM dX5_were_124 fl_RX5_198 rfl rfl (vld_of (n := 7) rfl (by omega) (by omega)) ?_
                      refine r_iload hC dX5_were_127 rfl ?_
                      refine z_iald hM dX5_were_129 rfl (by omega) (by omega) (fun v22 h_v22 o_v22 t_v22 => ?_)
                      refine r_istore hC dX5_were_130 rfl ?_
                      refine r_aload hC dX5_were_132 rfl ?_
                      refine r_aload hC dX5_were_134 rfl ?_
                      refine z_getI (jz := 6) hM dX5_were_136 fl_RX5_154 rfl rfl rfl (fun v23 h_v23 o_v23 t_v23 => ?_)
                      have q_v23 : 0 ≤ v23 ∧ v23 ≤ 121 := o_v23.1 rfl
                      refine r_iconst hC dX5_were_139 rfl ?_
                      refine r_iaddE hC ((v23 + 1)) dX5_were_140 (by omega) (by unfold inR; omega) ?_
                      refine r_iload hC dX5_were_141 rfl ?_
                      refine r_isubE hC (((v23 + 1) - w16)) dX5_were_143 (by omega) (by unfold inR; omega) ?_
                      refine r_iload hC dX5_were_144 rfl ?_
                      refine r_iload hC dX5_were_146 rfl ?_
                      refine z_inv3 hM dX5_were_148 vl_RX5_201 rfl rfl rfl (Nat.le_of_ble_eq_true rfl) (Nat.le_of_ble_eq_true rfl) ?_
                      refine s_goes (by omega) (fun v24 h_v24 => ?_)
                      refine r_if_ne (tgt := 180) hC dX5_were_151 rfl (fun h25 => ?_) (fun h25 => ?_)
                      · refine r_iincE hC ((w16 + 1)) dX5_were_180 rfl rfl (by omega) (by unfold inR; omega) ?_
                        refine r_goto (tgt := 83) hC dX5_were_183 rfl ?_
                        refine r_forget hC (ls2 := [some (vR 2 0), some (vI l), some (vI t), some (vI v), some (vI w), some (vR 7 l), some (vI v12), some (vI v14), some (vI (w16 + 1)), none, none]) (lsub_some (lsub_some (lsub_some (lsub_some (lsub_some (lsub_some (lsub_some (lsub_some (lsub_some (lsub_none (lsub_none lsub_nil))))))))))) ?_
                        exact ih83 ((w16 + 1))  (by omega)  (by omega) 
                      · refine r_aload_n hC dX5_were_154 rfl ?_
                        refine z_getR hM dX5_were_155 fl_RX5_40 rfl rfl (vld_of (n := 1) rfl (by omega) (by omega)) ?_
                        refine r_iload hC dX5_were_158 rfl ?_
                        refine r_iload hC dX5_were_160 rfl ?_
                        refine r_icmp_ne (tgt := 169) hC dX5_were_162 rfl (fun h26 => ?_) (fun h26 => ?_)
                        · refine r_aload hC dX5_were_169 rfl ?_
                          refine z_getR hM dX5_were_171 fl_RX5_176 rfl rfl (vld_of (n := 7) rfl (by omega) (by omega)) ?_
                          refine r_iload hC dX5_were_174 rfl ?_
                          refine z_iald hM dX5_were_176 rfl (by omega) (by omega) (fun v27 h_v27 o_v27 t_v27 => ?_)
                          have q_v27 : -1000 ≤ v27 ∧ v27 ≤ 1000 := o_v27
                          refine z_inv1 hM dX5_were_177 vl_RX5_253 rfl rfl rfl (Nat.le_of_ble_eq_true rfl) (Nat.le_of_ble_eq_true rfl) ?_
                          refine s_append (by omega) ?_
                          refine r_iincE hC ((w16 + 1)) dX5_were_180 rfl rfl (by omega) (by unfold inR; omega) ?_
                          refine r_goto (tgt := 83) hC dX5_were_183 rfl ?_
                          refine r_forget hC (ls2 := [some (vR 2 0), some (vI l), some (vI t), some (vI v), some (vI w), some (vR 7 l), some (vI v12), some (vI v14), some (vI (w16 + 1)), none, none]) (lsub_some (lsub_some (lsub_some (lsub_some (lsub_some (lsub_some (lsub_some (lsub_some (lsub_some (lsub_none (lsub_none lsub_nil))))))))))) ?_
                          exact ih83 ((w16 + 1))  (by omega)  (by omega) 
                        · refine r_iload_n hC dX5_were_165 rfl ?_
                          refine r_goto (tgt := 177) hC dX5_were_166 rfl ?_
                          refine z_inv1 hM dX5_were_177 vl_RX5_253 rfl rfl rfl (Nat.le_of_ble_eq_true rfl) (Nat.le_of_ble_eq_true rfl) ?_
                          refine s_append (by omega) ?_
                          refine r_iincE hC ((w16 + 1)) dX5_were_180 rfl rfl (by omega) (by unfold inR; omega) ?_
                          refine r_goto (tgt := 83) hC dX5_were_183 rfl ?_
                          refine r_forget hC (ls2 := [some (vR 2 0), some (vI l), some (vI t), some (vI v), some (vI w), some (vR 7 l), some (vI v12), some (vI v14), some (vI (w16 + 1)), none, none]) (lsub_some (lsub_some (lsub_some (lsub_some (lsub_some (lsub_some (lsub_some (lsub_some (lsub_some (lsub_none (lsub_none lsub_nil))))))))))) ?_
                          exact ih83 ((w16 + 1))  (by omega)  (by omega) 
                    · refine r_iload_n hC dX5_were_118 rfl ?_
                      refine r_goto (tgt := 130) hC dX5_were_119 rfl ?_
                      refine r_istore hC dX5_were_130 rfl ?_
                      refine r_aload hC dX5_were_132 rfl ?_
                      refine r_aload hC dX5_were_134 rfl ?_
                      refine z_getI (jz := 6) hM dX5_were_136 fl_RX5_154 rfl rfl rfl (fun v28 h_v28 o_v28 t_v28 => ?_)
                      have q_v28 : 0 ≤ v28 ∧ v28 ≤ 121 := o_v28.1 rfl
                      refine r_iconst hC dX5_were_139 rfl ?_
                      refine r_iaddE hC ((v28 + 1)) dX5_were_140 (by omega) (by unfold inR; omega) ?_
                      refine r_iload hC dX5_were_141 rfl ?_
                      refine r_isubE hC (((v28 + 1) - w16)) dX5_were_143 (by omega) (by unfold inR; omega) ?_
                      refine r_iload hC dX5_were_144 rfl ?_
                      refine r_iload hC dX5_were_146 rfl ?_
                      refine z_inv3 hM dX5_were_148 vl_RX5_201 rfl rfl rfl (Nat.le_of_ble_eq_true rfl) (Nat.le_of_ble_eq_true rfl) ?_
                      refine s_goes (by omega) (fun v29 h_v29 => ?_)
                      refine r_if_ne (tgt := 180) hC dX5_were_151 rfl (fun h30 => ?_) (fun h30 => ?_)
                      · refine r_iincE hC ((w16 + 1)) dX5_were_180 rfl rfl (by omega) (by unfold inR; omega) ?_
                        refine r_goto (tgt := 83) hC dX5_were_183 rfl ?_
                        refine r_forget hC (ls2 := [some (vR 2 0), some (vI l), some (vI t), some (vI v), some (vI w), some (vR 7 l), some (vI v12), some (vI v14), some (vI (w16 + 1)), none, none]) (lsub_some (lsub_some (lsub_some (lsub_some (lsub_some (lsub_some (lsub_some (lsub_some (lsub_some (lsub_none (lsub_none lsub_nil))))))))))) ?_
                        exact ih83 ((w16 + 1))  (by omega)  (by omega) 
                      · refine r_aload_n hC dX5_were_154 rfl ?_
                        refine z_getR hM dX5_were_155 fl_RX5_40 rfl rfl (vld_of (n := 1) rfl (by omega) (by omega)) ?_
                        refine r_iload hC dX5_were_158 rfl ?_
                        refine r_iload hC dX5_were_160 rfl ?_
                        refine r_icmp_ne (tgt := 169) hC dX5_were_162 rfl (fun h31 => ?_) (fun h31 => ?_)
                        · refine r_aload hC dX5_were_169 rfl ?_
                          refine z_getR hM dX5_were_171 fl_RX5_176 rfl rfl (vld_of (n := 7) rfl (by omega) (by omega)) ?_
                          refine r_iload hC dX5_were_174 rfl ?_
                          refine z_iald hM dX5_were_176 rfl (by omega) (by omega) (fun v32 h_v32 o_v32 t_v32 => ?_)
                          have q_v32 : -1000 ≤ v32 ∧ v32 ≤ 1000 := o_v32
                          refine z_inv1 hM dX5_were_177 vl_RX5_253 rfl rfl rfl (Nat.le_of_ble_eq_true rfl) (Nat.le_of_ble_eq_true rfl) ?_
                          refine s_append (by omega) ?_
                          refine r_iincE hC ((w16 + 1)) dX5_were_180 rfl rfl (by omega) (by unfold inR; omega) ?_
                          refine r_goto (tgt := 83) hC dX5_were_183 rfl ?_
                          refine r_forget hC (ls2 := [some (vR 2 0), some (vI l), some (vI t), some (vI v), some (vI w), some (vR 7 l), some (vI v12), some (vI v14), some (vI (w16 + 1)), none, none]) (lsub_some (lsub_some (lsub_some (lsub_some (lsub_some (lsub_some (lsub_some (lsub_some (lsub_some (lsub_none (lsub_none lsub_nil))))))))))) ?_
                          exact ih83 ((w16 + 1))  (by omega)  (by omega) 
                        · refine r_iload_n hC dX5_were_165 rfl ?_
                          refine r_goto (tgt := 177) hC dX5_were_166 rfl ?_
                          refine z_inv1 hM dX5_were_177 vl_RX5_253 rfl rfl rfl (Nat.le_of_ble_eq_true rfl) (Nat.le_of_ble_eq_true rfl) ?_
                          refine s_append (by omega) ?_
                          refine r_iincE hC ((w16 + 1)) dX5_were_180 rfl rfl (by omega) (by unfold inR; omega) ?_
                          refine r_goto (tgt := 83) hC dX5_were_183 rfl ?_
                          refine r_forget hC (ls2 := [some (vR 2 0), some (vI l), some (vI t), some (vI v), some (vI w), some (vR 7 l), some (vI v12), some (vI v14), some (vI (w16 + 1)), none, none]) (lsub_some (lsub_some (lsub_some (lsub_some (lsub_some (lsub_some (lsub_some (lsub_some (lsub_some (lsub_none (lsub_none lsub_nil))))))))))) ?_
                          exact ih83 ((w16 + 1))  (by omega)  (by omega) 
                  · refine r_iload hC dX5_were_100 rfl ?_
                    refine r_goto (tgt := 109) hC dX5_were_102 rfl ?_
                    refine r_istore hC dX5_were_109 rfl ?_
                    refine r_iload hC dX5_were_111 rfl ?_
                    refine r_iload hC dX5_were_113 rfl ?_
                    refine r_icmp_ne (tgt := 122) hC dX5_were_115 rfl (fun h33 => ?_) (fun h33 => ?_)
                    · refine r_aload hC dX5_were_122 rfl ?_
                      refine z_getR hM dX5_were_124 fl_RX5_198 rfl rfl (vld_of (n := 7) rfl (by omega) (by omega)) ?_
                      refine r_iload hC dX5_were_127 rfl ?_
                      refine z_iald hM dX5_were_129 rfl (by omega) (by omega) (fun v34 h_v34 o_v34 t_v34 => ?_)
                      refine r_istore hC dX5_were_130 rfl ?_
                      refine r_aload hC dX5_were_132 rfl ?_
                      refine r_aload hC dX5_were_134 rfl ?_
                      refine z_getI (jz := 6) hM dX5_were_136 fl_RX5_154 rfl rfl rfl (fun v35 h_v35 o_v35 t_v35 => ?_)
                      have q_v35 : 0 ≤ v35 ∧ v35 ≤ 121 := o_v35.1 rfl
                      refine r_iconst hC dX5_were_139 rfl ?_
                      refine r_iaddE hC ((v35 + 1)) dX5_were_140 (by omega) (by unfold inR; omega) ?_
                      refine r_iload hC dX5_were_141 rfl ?_
                      refine r_isubE hC (((v35 + 1) - w16)) dX5_were_143 (by omega) (by unfold inR; omega) ?_
                      refine r_iload hC dX5_were_144 rfl ?_
                      refine r_iload hC dX5_were_146 rfl ?_
                      refine z_inv3 hM dX5_were_148 vl_RX5_201 rfl rfl rfl (Nat.le_of_ble_eq_true rfl) (Nat.le_of_ble_eq_true rfl) ?_
                      refine s_goes (by omega) (fun v36 h_v36 => ?_)
                      refine r_if_ne (tgt := 180) hC dX5_were_151 rfl (fun h37 => ?_) (fun h37 => ?_)
                      · refine r_iincE hC ((w16 + 1)) dX5_were_180 rfl rfl (by omega) (by unfold inR; omega) ?_
                        refine r_goto (tgt := 83) hC dX5_were_183 rfl ?_
                        refine r_forget hC (ls2 := [some (vR 2 0), some (vI l), some (vI t), some (vI v), some (vI w), some (vR 7 l), some (vI v12), some (vI v14), some (vI (w16 + 1)), none, none]) (lsub_some (lsub_some (lsub_some (lsub_some (lsub_some (lsub_some (lsub_some (lsub_some (lsub_some (lsub_none (lsub_none lsub_nil))))))))))) ?_
                        exact ih83 ((w16 + 1))  (by omega)  (by omega) 
                      · refine r_aload_n hC dX5_were_154 rfl ?_
                        refine z_getR hM dX5_were_155 fl_RX5_40 rfl rfl (vld_of (n := 1) rfl (by omega) (by omega)) ?_
                        refine r_iload hC dX5_were_158 rfl ?_
                        refine r_iload hC dX5_were_160 rfl ?_
                        refine r_icmp_ne (tgt := 169) hC dX5_were_162 rfl (fun h38 => ?_) (fun h38 => ?_)
                        · refine r_aload hC dX5_were_169 rfl ?_
                          refine z_getR hM dX5_were_171 fl_RX5_176 rfl rfl (vld_of (n := 7) rfl (by omega) (by omega)) ?_
                          refine r_iload hC dX5_were_174 rfl ?_
                          refine z_iald hM dX5_were_176 rfl (by omega) (by omega) (fun v39 h_v39 o_v39 t_v39 => ?_)
                          have q_v39 : -1000 ≤ v39 ∧ v39 ≤ 1000 := o_v39
                          refine z_inv1 hM dX5_were_177 vl_RX5_253 rfl rfl rfl (Nat.le_of_ble_eq_true rfl) (Nat.le_of_ble_eq_true rfl) ?_
                          refine s_append (by omega) ?_
                          refine r_iincE hC ((w16 + 1)) dX5_were_180 rfl rfl (by omega) (by unfold inR; omega) ?_
                          refine r_goto (tgt := 83) hC dX5_were_183 rfl ?_
                          refine r_forget hC (ls2 := [some (vR 2 0), some (vI l), some (vI t), some (vI v), some (vI w), some (vR 7 l), some (vI v12), some (vI v14), some (vI (w16 + 1)), none, none]) (lsub_some (lsub_some (lsub_some (lsub_some (lsub_some (lsub_some (lsub_some (lsub_some (lsub_some (lsub_none (lsub_none lsub_nil))))))))))) ?_
                          exact ih83 ((w16 + 1))  (by omega)  (by omega) 
                        · refine r_iload_n hC dX5_were_165 rfl ?_
                          refine r_goto (tgt := 177) hC dX5_were_166 rfl ?_
                          refine z_inv1 hM dX5_were_177 vl_RX5_253 rfl rfl rfl (Nat.le_of_ble_eq_true rfl) (Nat.le_of_ble_eq_true rfl) ?_
                          refine s_append (by omega) ?_
                          refine r_iincE hC ((w16 + 1)) dX5_were_180 rfl rfl (by omega) (by unfold inR; omega) ?_
                          refine r_goto (tgt := 83) hC dX5_were_183 rfl ?_
                          refine r_forget hC (ls2 := [some (vR 2 0), some (vI l), some (vI t), some (vI v), some (vI w), some (vR 7 l), some (vI v12), some (vI v14), some (vI (w16 + 1)), none, none]) (lsub_some (lsub_some (lsub_some (lsub_some (lsub_some (lsub_some (lsub_some (lsub_some (lsub_some (lsub_none (lsub_none lsub_nil))))))))))) ?_
                          exact ih83 ((w16 + 1))  (by omega)  (by omega) 
                    · refine r_iload_n hC dX5_were_118 rfl ?_
                      refine r_goto (tgt := 130) hC dX5_were_119 rfl ?_
                      refine r_istore hC dX5_were_130 rfl ?_
                      refine r_aload hC dX5_were_132 rfl ?_
                      refine r_aload hC dX5_were_134 rfl ?_
                      refine z_getI (jz := 6) hM dX5_were_136 fl_RX5_154 rfl rfl rfl (fun v40 h_v40 o_v40 t_v40 => ?_)
                      have q_v40 : 0 ≤ v40 ∧ v40 ≤ 121 := o_v40.1 rfl
                      refine r_iconst hC dX5_were_139 rfl ?_
                      refine r_iaddE hC ((v40 + 1)) dX5_were_140 (by omega) (by unfold inR; omega) ?_
                      refine r_iload hC dX5_were_141 rfl ?_
                      refine r_isubE hC (((v40 + 1) - w16)) dX5_were_143 (by omega) (by unfold inR; omega) ?_
                      refine r_iload hC dX5_were_144 rfl ?_
                      refine r_iload hC dX5_were_146 rfl ?_
                      refine z_inv3 hM dX5_were_148 vl_RX5_201 rfl rfl rfl (Nat.le_of_ble_eq_true rfl) (Nat.le_of_ble_eq_true rfl) ?_
                      refine s_goes (by omega) (fun v41 h_v41 => ?_)
                      refine r_if_ne (tgt := 180) hC dX5_were_151 rfl (fun h42 => ?_) (fun h42 => ?_)
                      · refine r_iincE hC ((w16 + 1)) dX5_were_180 rfl rfl (by omega) (by unfold inR; omega) ?_
                        refine r_goto (tgt := 83) hC dX5_were_183 rfl ?_
                        refine r_forget hC (ls2 := [some (vR 2 0), some (vI l), some (vI t), some (vI v), some (vI w), some (vR 7 l), some (vI v12), some (vI v14), some (vI (w16 + 1)), none, none]) (lsub_some (lsub_some (lsub_some (lsub_some (lsub_some (lsub_some (lsub_some (lsub_some (lsub_some (lsub_none (lsub_none lsub_nil))))))))))) ?_
                        exact ih83 ((w16 + 1))  (by omega)  (by omega) 
                      · refine r_aload_n hC dX5_were_154 rfl ?_
                        refine z_getR hM dX5_were_155 fl_RX5_40 rfl rfl (vld_of (n := 1) rfl (by omega) (by omega)) ?_
                        refine r_iload hC dX5_were_158 rfl ?_
                        refine r_iload hC dX5_were_160 rfl ?_
                        refine r_icmp_ne (tgt := 169) hC dX5_were_162 rfl (fun h43 => ?_) (fun h43 => ?_)
                        · refine r_aload hC dX5_were_169 rfl ?_
                          refine z_getR hM dX5_were_171 fl_RX5_176 rfl rfl (vld_of (n := 7) rfl (by omega) (by omega)) ?_
                          refine r_iload hC dX5_were_174 rfl ?_
                          refine z_iald hM dX5_were_176 rfl (by omega) (by omega) (fun v44 h_v44 o_v44 t_v44 => ?_)
                          have q_v44 : -1000 ≤ v44 ∧ v44 ≤ 1000 := o_v44
                          refine z_inv1 hM dX5_were_177 vl_RX5_253 rfl rfl rfl (Nat.le_of_ble_eq_true rfl) (Nat.le_of_ble_eq_true rfl) ?_
                          refine s_append (by omega) ?_
                          refine r_iincE hC ((w16 + 1)) dX5_were_180 rfl rfl (by omega) (by unfold inR; omega) ?_
                          refine r_goto (tgt := 83) hC dX5_were_183 rfl ?_
                          refine r_forget hC (ls2 := [some (vR 2 0), some (vI l), some (vI t), some (vI v), some (vI w), some (vR 7 l), some (vI v12), some (vI v14), some (vI (w16 + 1)), none, none]) (lsub_some (lsub_some (lsub_some (lsub_some (lsub_some (lsub_some (lsub_some (lsub_some (lsub_some (lsub_none (lsub_none lsub_nil))))))))))) ?_
                          exact ih83 ((w16 + 1))  (by omega)  (by omega) 
                        · refine r_iload_n hC dX5_were_165 rfl ?_
                          refine r_goto (tgt := 177) hC dX5_were_166 rfl ?_
                          refine z_inv1 hM dX5_were_177 vl_RX5_253 rfl rfl rfl (Nat.le_of_ble_eq_true rfl) (Nat.le_of_ble_eq_true rfl) ?_
                          refine s_append (by omega) ?_
                          refine r_iincE hC ((w16 + 1)) dX5_were_180 rfl rfl (by omega) (by unfold inR; omega) ?_
                          refine r_goto (tgt := 83) hC dX5_were_183 rfl ?_
                          refine r_forget hC (ls2 := [some (vR 2 0), some (vI l), some (vI t), some (vI v), some (vI w), some (vR 7 l), some (vI v12), some (vI v14), some (vI (w16 + 1)), none, none]) (lsub_some (lsub_some (lsub_some (lsub_some (lsub_some (lsub_some (lsub_some (lsub_some (lsub_some (lsub_none (lsub_none lsub_nil))))))))))) ?_
                          exact ih83 ((w16 + 1))  (by omega)  (by omega) 
            exact L83 124 (0)  (by omega)  (by omega) 
          · refine r_ldc hC dX5_were_45 co_RX5_175 rfl ?_
            refine y_iret hK rfl dX5_were_47 ?_
            exact k _ (by omega)
      · refine r_if_eq (tgt := 45) hC dX5_were_25 rfl (fun h45 => ?_) (fun h45 => by omega)
        refine r_ldc hC dX5_were_45 co_RX5_175 rfl ?_
        refine y_iret hK rfl dX5_were_47 ?_
        exact k _ (by omega)
    · refine r_if_eq (tgt := 45) hC dX5_were_18 rfl (fun h46 => ?_) (fun h46 => by omega)
      refine r_ldc hC dX5_were_45 co_RX5_175 rfl ?_
      refine y_iret hK rfl dX5_were_47 ?_
      exact k _ (by omega)
theorem s_ringWatches {ea eb : Bool} {d : Nat} {P : Option Vl → Mm → Prop} {σ : Mm} {i : Int} (b_i : 0 ≤ i ∧ i ≤ 6)  (k : P none σ) : WT (ea, false, eb) (d + 4) 102 [vR 2 0, vR 7 i] σ P := by
  refine WT_in fun K hK => ?_
  have hK : StpY (ea, false, eb) cX5_ringWatches RX5 (none) (WT (ea, false, eb) (d + 3)) P K := hK
  have hM := hK.1
  have hC := hK.1.1
  show K 0 [some (vR 2 0), some (vR 7 i), none, none] [] σ
  refine r_aload_n hC dX5_ringWatches_0 rfl ?_
  refine r_aload_n hC dX5_ringWatches_1 rfl ?_
  refine z_getI (jz := 0) hM dX5_ringWatches_2 fl_RX5_212 rfl rfl rfl (fun v1 h_v1 o_v1 t_v1 => ?_)
  refine z_inv1 hM dX5_ringWatches_5 vl_RX5_324 rfl rfl rfl (Nat.le_of_ble_eq_true rfl) (Nat.le_of_ble_eq_true rfl) ?_
  refine s_isWatched (fun v2 h_v2 => ?_)
  refine r_if_ne (tgt := 12) hC dX5_ringWatches_8 rfl (fun h3 => ?_) (fun h3 => ?_)
  · refine r_aload_n hC dX5_ringWatches_12 rfl ?_
    refine z_getR hM dX5_ringWatches_13 fl_RX5_40 rfl rfl (vld_of (n := 1) rfl (by omega) (by omega)) ?_
    refine r_aload_n hC dX5_ringWatches_16 rfl ?_
    refine z_getI (jz := 2) hM dX5_ringWatches_17 fl_RX5_98 rfl rfl rfl (fun v4 h_v4 o_v4 t_v4 => ?_)
    have q_v4 : 0 ≤ v4 ∧ v4 ≤ 9 := o_v4.2.2 rfl
    refine z_inv1 hM dX5_ringWatches_20 vl_RX5_251 rfl rfl rfl (Nat.le_of_ble_eq_true rfl) (Nat.le_of_ble_eq_true rfl) ?_
    refine s_begin (by omega) ?_
    refine r_iconst hC dX5_ringWatches_23 rfl ?_
    refine r_istore_n hC dX5_ringWatches_24 rfl ?_
    have L25 : ∀ (n25 : Nat) (w5 : Int), 0 ≤ w5 ∧ w5 ≤ 121 → 121 - w5 < (n25 : Int) → K 25 [some (vR 2 0), some (vR 7 i), some (vI w5), none] [] σ := by
      intro n25
      induction n25 with
      | zero => intro w5  f_w5  hm ; omega
      | succ n25 ih25 =>
        intro w5  f_w5  hm25 
        refine r_iload_n hC dX5_ringWatches_25 rfl ?_
        refine r_aload_n hC dX5_ringWatches_26 rfl ?_
        refine z_getI (jz := 6) hM dX5_ringWatches_27 fl_RX5_154 rfl rfl rfl (fun v6 h_v6 o_v6 t_v6 => ?_)
        have q_v6 : 0 ≤ v6 ∧ v6 ≤ 121 := o_v6.1 rfl
        refine r_icmp_ge (tgt := 52) hC dX5_ringWatches_30 rfl (fun h7 => ?_) (fun h7 => ?_)
        · refine r_iconst hC dX5_ringWatches_52 rfl ?_
          refine r_istore_n hC dX5_ringWatches_53 rfl ?_
          have L54 : ∀ (n54 : Nat) (w8 : Int), 0 ≤ w8 ∧ w8 ≤ 8 → 8 - w8 < (n54 : Int) → K 54 [some (vR 2 0), some (vR 7 i), some (vI w8), none] [] σ := by
            intro n54
            induction n54 with
            | zero => intro w8  f_w8  hm ; omega
            | succ n54 ih54 =>
              intro w8  f_w8  hm54 
              refine r_iload_n hC dX5_ringWatches_54 rfl ?_
              refine r_bipush hC dX5_ringWatches_55 rfl ?_
              refine r_icmp_ge (tgt := 107) hC dX5_ringWatches_57 rfl (fun h9 => ?_) (fun h9 => ?_)
              · refine y_vret hK rfl dX5_ringWatches_107 ?_
                exact k
              · refine r_aload_n hC dX5_ringWatches_60 rfl ?_
                refine z_getR hM dX5_ringWatches_61 fl_RX5_32 rfl rfl (vld_of (n := 1) rfl (by omega) (by omega)) ?_
                refine r_iload_n hC dX5_ringWatches_64 rfl ?_
                refine z_aald hM dX5_ringWatches_65 rfl (by decide) (by omega) (by omega) (vld_of (n := 8) rfl (by omega) (by omega)) ?_
                refine r_astore_n hC dX5_ringWatches_66 rfl ?_
                refine r_aload_n hC dX5_ringWatches_67 rfl ?_
                refine z_getI (jz := 0) hM dX5_ringWatches_68 fl_RX5_321 rfl rfl rfl (fun v10 h_v10 o_v10 t_v10 => ?_)
                refine r_aload_n hC dX5_ringWatches_71 rfl ?_
                refine z_getI (jz := 0) hM dX5_ringWatches_72 fl_RX5_212 rfl rfl rfl (fun v11 h_v11 o_v11 t_v11 => ?_)
                have J101_12 : K 101 [some (vR 2 0), some (vR 7 i), some (vI w8), some (vR 12 w8)] [] σ := by
                  refine r_iincE hC ((w8 + 1)) dX5_ringWatches_101 rfl rfl (by omega) (by unfold inR; omega) ?_
                  refine r_goto (tgt := 54) hC dX5_ringWatches_104 rfl ?_
                  refine r_forget hC (ls2 := [some (vR 2 0), some (vR 7 i), some (vI (w8 + 1)), none]) (lsub_some (lsub_some (lsub_some (lsub_none lsub_nil)))) ?_
                  exact ih54 ((w8 + 1))  (by omega)  (by omega) 
                refine r_icmp_ne (tgt := 101) hC dX5_ringWatches_75 rfl (fun h12 => ?_) (fun h12 => ?_)
                · exact J101_12
                · refine r_aload_n hC dX5_ringWatches_78 rfl ?_
                  refine r_aload_n hC dX5_ringWatches_79 rfl ?_
                  refine z_getR hM dX5_ringWatches_80 fl_RX5_40 rfl rfl (vld_of (n := 1) rfl (by omega) (by omega)) ?_
                  refine r_aload_n hC dX5_ringWatches_83 rfl ?_
                  refine z_getI (jz := 1) hM dX5_ringWatches_84 fl_RX5_327 rfl rfl rfl (fun v14 h_v14 o_v14 t_v14 => ?_)
                  refine r_aload_n hC dX5_ringWatches_87 rfl ?_
                  refine z_getI (jz := 2) hM dX5_ringWatches_88 fl_RX5_328 rfl rfl rfl (fun v15 h_v15 o_v15 t_v15 => ?_)
                  refine z_inv2 hM dX5_ringWatches_91 vl_RX5_256 rfl rfl rfl (Nat.le_of_ble_eq_true rfl) (Nat.le_of_ble_eq_true rfl) ?_
                  refine s_reaches (fun v16 h_v16 => ?_)
                  refine r_aload_n hC dX5_ringWatches_94 rfl ?_
                  refine z_getI (jz := 10) hM dX5_ringWatches_95 fl_RX5_157 rfl rfl rfl (fun v17 h_v17 o_v17 t_v17 => ?_)
                  refine z_inv2 hM dX5_ringWatches_98 vl_RX5_331 rfl rfl rfl (Nat.le_of_ble_eq_true rfl) (Nat.le_of_ble_eq_true rfl) ?_
                  refine s_Watch_note (by omega) (by omega) ?_
                  exact J101_12    
          exact L54 10 (0)  (by omega)  (by omega) 
        · refine r_aload_n hC dX5_ringWatches_33 rfl ?_
          refine z_getR hM dX5_ringWatches_34 fl_RX5_40 rfl rfl (vld_of (n := 1) rfl (by omega) (by omega)) ?_
          refine r_aload_n hC dX5_ringWatches_37 rfl ?_
          refine z_getR hM dX5_ringWatches_38 fl_RX5_176 rfl rfl (vld_of (n := 7) rfl (by omega) (by omega)) ?_
          refine r_iload_n hC dX5_ringWatches_41 rfl ?_
          refine z_iald hM dX5_ringWatches_42 rfl (by omega) (by omega) (fun v18 h_v18 o_v18 t_v18 => ?_)
          have q_v18 : -1000 ≤ v18 ∧ v18 ≤ 1000 := o_v18
          refine z_inv1 hM dX5_ringWatches_43 vl_RX5_253 rfl rfl rfl (Nat.le_of_ble_eq_true rfl) (Nat.le_of_ble_eq_true rfl) ?_
          refine s_append (by omega) ?_
          refine r_iincE hC ((w5 + 1)) dX5_ringWatches_46 rfl rfl (by omega) (by unfold inR; omega) ?_
          refine r_goto (tgt := 25) hC dX5_ringWatches_49 rfl ?_
          exact ih25 ((w5 + 1))  (by omega)  (by omega) 
    exact L25 123 (0)  (by omega)  (by omega) 
  · refine y_vret hK rfl dX5_ringWatches_11 ?_
    exact k
theorem s_reachBack_S {eb : Bool} {d : Nat} {P : Option Vl → Mm → Prop} {σ : Mm} {l w b hl : Int} (qg0 : σ 7 l 6 = hl) (hL : InL σ)  (k : ∀ r : Int, -1 ≤ r ∧ r ≤ 120 → P (some (vI r)) σ) : WT (true, false, eb) (d + 5) 78 [vR 2 0, vI l, vI w, vI b] σ P := by
  refine WT_in fun K hK => ?_
  have hK : StpY (true, false, eb) cX5_reachBack RX5 (some .int) (WT (true, false, eb) (d + 4)) P K := hK
  have hM := hK.1
  have hC := hK.1.1
  show K 0 [some (vR 2 0), some (vI l), some (vI w), some (vI b), none, none] [] σ
  refine r_rngz hC (fun g0 => ?_)
  have r_l : -2147483648 ≤ l ∧ l ≤ 2147483647 := inR_le (g0 (vI l) (by simp))
  have r_w : -2147483648 ≤ w ∧ w ≤ 2147483647 := inR_le (g0 (vI w) (by simp))
  have r_b : -2147483648 ≤ b ∧ b ≤ 2147483647 := inR_le (g0 (vI b) (by simp))
  refine r_aload_n hC dX5_reachBack_0 rfl ?_
  refine r_iload_n hC dX5_reachBack_1 rfl ?_
  refine r_iload_n hC dX5_reachBack_2 rfl ?_
  refine z_inv2 hM dX5_reachBack_3 vl_RX5_248 rfl rfl rfl (Nat.le_of_ble_eq_true rfl) (Nat.le_of_ble_eq_true rfl) ?_
  refine s_laneWith ?_ (fun h1 => ?_)
  · refine r_astoreN hC dX5_reachBack_6 rfl ?_
    refine r_aloadN hC dX5_reachBack_8 rfl ?_
    refine r_ifnonnullN hC dX5_reachBack_10 ?_
    refine r_iconst hC dX5_reachBack_13 rfl ?_
    refine y_iret hK rfl dX5_reachBack_14 ?_
    exact k _ (by omega)
  · have b_h1 : 0 ≤ hl ∧ hl ≤ 120 := by have := InL.h7 hL (i := l) (by omega) (by omega); have := qg0; omega
    refine r_astore hC dX5_reachBack_6 rfl ?_
    refine r_aload hC dX5_reachBack_8 rfl ?_
    refine r_ifnonnullR (tgt := 15) hC dX5_reachBack_10 rfl ?_
    refine r_iconst hC dX5_reachBack_15 rfl ?_
    refine r_istore hC dX5_reachBack_16 rfl ?_
    have L18 : ∀ (n18 : Nat) (w2 : Int), 1 ≤ w2 ∧ w2 ≤ 121 → 121 - w2 < (n18 : Int) → K 18 [some (vR 2 0), some (vI l), some (vI w), some (vI b), some (vR 7 l), some (vI w2)] [] σ := by
      intro n18
      induction n18 with
      | zero => intro w2  f_w2  hm ; omega
      | succ n18 ih18 =>
        intro w2  f_w2  hm18 
        refine r_iload hC dX5_reachBack_18 rfl ?_
        refine r_aload hC dX5_reachBack_20 rfl ?_
        refine z_getI (jz := 6) hM dX5_reachBack_22 fl_RX5_154 rfl rfl rfl (fun v3 h_v3 o_v3 t_v3 => ?_)
        have e_v3 : hl = v3 := ((t_v3 (Or.inr (Or.inl ⟨rfl, Or.inr (Or.inr rfl)⟩))).trans qg0).symm
        subst e_v3
        refine r_icmp_gt (tgt := 68) hC dX5_reachBack_25 rfl (fun h4 => ?_) (fun h4 => ?_)
        · refine r_iconst hC dX5_reachBack_68 rfl ?_
          refine y_iret hK rfl dX5_reachBack_69 ?_
          exact k _ (by omega)
        · refine r_aload_n hC dX5_reachBack_28 rfl ?_
          refine r_aload hC dX5_reachBack_29 rfl ?_
          refine r_aload hC dX5_reachBack_31 rfl ?_
          refine z_getI (jz := 6) hM dX5_reachBack_33 fl_RX5_154 rfl rfl rfl (fun v5 h_v5 o_v5 t_v5 => ?_)
          have e_v5 : hl = v5 := ((t_v5 (Or.inr (Or.inl ⟨rfl, Or.inr (Or.inr rfl)⟩))).trans qg0).symm
          subst e_v5
          refine r_iload hC dX5_reachBack_36 rfl ?_
          refine r_isubE hC ((hl - w2)) dX5_reachBack_38 (by omega) (by unfold inR; omega) ?_
          refine r_aload hC dX5_reachBack_39 rfl ?_
          refine z_getI (jz := 6) hM dX5_reachBack_41 fl_RX5_154 rfl rfl rfl (fun v6 h_v6 o_v6 t_v6 => ?_)
          have e_v6 : hl = v6 := ((t_v6 (Or.inr (Or.inl ⟨rfl, Or.inr (Or.inr rfl)⟩))).trans qg0).symm
          subst e_v6
          refine z_inv3 hM dX5_reachBack_44 vl_RX5_259 rfl rfl rfl (Nat.le_of_ble_eq_true rfl) (Nat.le_of_ble_eq_true rfl) ?_
          refine s_foldPart (by omega) (by omega) (by omega) ?_
          refine r_aload_n hC dX5_reachBack_47 rfl ?_
          refine z_getR hM dX5_reachBack_48 fl_RX5_40 rfl rfl (vld_of (n := 1) rfl (by omega) (by omega)) ?_
          refine r_iload_n hC dX5_reachBack_51 rfl ?_
          refine r_iload_n hC dX5_reachBack_52 rfl ?_
          refine z_inv2 hM dX5_reachBack_53 vl_RX5_256 rfl rfl rfl (Nat.le_of_ble_eq_true rfl) (Nat.le_of_ble_eq_true rfl) ?_
          refine s_reaches (fun v7 h_v7 => ?_)
          refine r_if_eq (tgt := 62) hC dX5_reachBack_56 rfl (fun h8 => ?_) (fun h8 => ?_)
          · refine r_iincE hC ((w2 + 1)) dX5_reachBack_62 rfl rfl (by omega) (by unfold inR; omega) ?_
            refine r_goto (tgt := 18) hC dX5_reachBack_65 rfl ?_
            exact ih18 ((w2 + 1))  (by omega)  (by omega) 
          · refine r_iload hC dX5_reachBack_59 rfl ?_
            refine y_iret hK rfl dX5_reachBack_61 ?_
            exact k _ (by omega)
    exact L18 122 (1)  (by omega)  (by omega) 
theorem s_reachBack {eb : Bool} {d : Nat} {P : Option Vl → Mm → Prop} {σ : Mm} {l w b : Int} (k : ∀ r : Int, -1 ≤ r ∧ r ≤ 120 → P (some (vI r)) σ) : WT (false, false, eb) (d + 5) 78 [vR 2 0, vI l, vI w, vI b] σ P := by
  refine WT_loose (true, false, eb) (fun h => by cases h) (fun h => h) (fun c j q => ?_) (fun ρ hL hF hT hO => ?_)
  · rcases q with q | q | q | q
    · exact Or.inl q
    · cases q.1
    · cases q.1
    · exact Or.inr (Or.inr (Or.inr q))
  · exact s_reachBack_S (qg0 := rfl) (hL rfl) (fun r hr => ⟨σ, k r hr, fun _ => Or.inr (hL rfl), fun _ => Or.inl rfl, fun c i j q => hT c i j q⟩)
theorem s_commutes_S {eb : Bool} {d : Nat} {P : Option Vl → Mm → Prop} {σ : Mm} {l x hl : Int} (qg0 : σ 7 l 6 = hl) (hL : InL σ)  (k : ∀ r : Int, -1 ≤ r ∧ r ≤ 1 → P (some (vI r)) σ) : WT (true, false, eb) (d + 5) 84 [vR 2 0, vI l, vI x] σ P := by
  refine WT_in fun K hK => ?_
  have hK : StpY (true, false, eb) cX5_commutes RX5 (some .int) (WT (true, false, eb) (d + 4)) P K := hK
  have hM := hK.1
  have hC := hK.1.1
  show K 0 [some (vR 2 0), some (vI l), some (vI x), none, none, none] [] σ
  refine r_rngz hC (fun g0 => ?_)
  have r_l : -2147483648 ≤ l ∧ l ≤ 2147483647 := inR_le (g0 (vI l) (by simp))
  have r_x : -2147483648 ≤ x ∧ x ≤ 2147483647 := inR_le (g0 (vI x) (by simp))
  refine r_aload_n hC dX5_commutes_0 rfl ?_
  refine r_iload_n hC dX5_commutes_1 rfl ?_
  refine r_iload_n hC dX5_commutes_2 rfl ?_
  refine z_inv2 hM dX5_commutes_3 vl_RX5_171 rfl rfl rfl (Nat.le_of_ble_eq_true rfl) (Nat.le_of_ble_eq_true rfl) ?_
  refine s_laneHolding ?_ (fun h1 x_h1 => ?_)
  · refine r_astoreN_n hC dX5_commutes_6 rfl ?_
    refine r_aloadN_n hC dX5_commutes_7 rfl ?_
    refine r_ifnullN (tgt := 21) hC dX5_commutes_8 rfl ?_
    refine r_iconst hC dX5_commutes_21 rfl ?_
    refine y_iret hK rfl dX5_commutes_22 ?_
    exact k _ (by omega)
  · have b_h1 : 0 ≤ hl ∧ hl ≤ 120 := by have := InL.h7 hL (i := l) (by omega) (by omega); have := qg0; omega
    have y_h1 := x_h1 rfl
    refine r_astore_n hC dX5_commutes_6 rfl ?_
    refine r_aload_n hC dX5_commutes_7 rfl ?_
    refine r_ifnullR hC dX5_commutes_8 ?_
    refine r_iload_n hC dX5_commutes_11 rfl ?_
    refine r_aload_n hC dX5_commutes_12 rfl ?_
    refine z_getI (jz := 6) hM dX5_commutes_13 fl_RX5_154 rfl rfl rfl (fun v2 h_v2 o_v2 t_v2 => ?_)
    have e_v2 : hl = v2 := ((t_v2 (Or.inr (Or.inl ⟨rfl, Or.inr (Or.inr rfl)⟩))).trans qg0).symm
    subst e_v2
    refine r_iconst hC dX5_commutes_16 rfl ?_
    refine r_isubE hC ((hl - 1)) dX5_commutes_17 (by omega) (by unfold inR; omega) ?_
    refine r_icmp_ne (tgt := 23) hC dX5_commutes_18 rfl (fun h3 => ?_) (fun h3 => ?_)
    · refine r_aload_n hC dX5_commutes_23 rfl ?_
      refine r_aload_n hC dX5_commutes_24 rfl ?_
      refine r_iconst hC dX5_commutes_25 rfl ?_
      refine r_aload_n hC dX5_commutes_26 rfl ?_
      refine z_getI (jz := 6) hM dX5_commutes_27 fl_RX5_154 rfl rfl rfl (fun v4 h_v4 o_v4 t_v4 => ?_)
      have e_v4 : hl = v4 := ((t_v4 (Or.inr (Or.inl ⟨rfl, Or.inr (Or.inr rfl)⟩))).trans qg0).symm
      subst e_v4
      refine z_inv3 hM dX5_commutes_30 vl_RX5_259 rfl rfl rfl (Nat.le_of_ble_eq_true rfl) (Nat.le_of_ble_eq_true rfl) ?_
      refine s_foldPart (by omega) (by omega) (by omega) ?_
      refine r_aload_n hC dX5_commutes_33 rfl ?_
      refine z_getR hM dX5_commutes_34 fl_RX5_40 rfl rfl (vld_of (n := 1) rfl (by omega) (by omega)) ?_
      refine z_inv0 hM dX5_commutes_37 vl_RX5_275 rfl rfl rfl (Nat.le_of_ble_eq_true rfl) (Nat.le_of_ble_eq_true rfl) ?_
      refine s_noteNumbers ?_
      refine r_aload_n hC dX5_commutes_40 rfl ?_
      refine z_getR hM dX5_commutes_41 fl_RX5_40 rfl rfl (vld_of (n := 1) rfl (by omega) (by omega)) ?_
      refine r_aload_n hC dX5_commutes_44 rfl ?_
      refine z_getI (jz := 2) hM dX5_commutes_45 fl_RX5_98 rfl rfl rfl (fun v5 h_v5 o_v5 t_v5 => ?_)
      have q_v5 : 0 ≤ v5 ∧ v5 ≤ 9 := o_v5.2.2 rfl
      refine z_inv1 hM dX5_commutes_48 vl_RX5_251 rfl rfl rfl (Nat.le_of_ble_eq_true rfl) (Nat.le_of_ble_eq_true rfl) ?_
      refine s_begin (by omega) ?_
      refine r_iconst hC dX5_commutes_51 rfl ?_
      refine r_istore hC dX5_commutes_52 rfl ?_
      have L54 : ∀ (n54 : Nat) (w6 : Int), 0 ≤ w6 ∧ w6 ≤ 120 → 120 - w6 < (n54 : Int) → K 54 [some (vR 2 0), some (vI l), some (vI x), some (vR 7 l), some (vI w6), none] [] σ := by
        intro n54
        induction n54 with
        | zero => intro w6  f_w6  hm ; omega
        | succ n54 ih54 =>
          intro w6  f_w6  hm54 
          refine r_iload hC dX5_commutes_54 rfl ?_
          refine r_aload_n hC dX5_commutes_56 rfl ?_
          refine z_getI (jz := 6) hM dX5_commutes_57 fl_RX5_154 rfl rfl rfl (fun v7 h_v7 o_v7 t_v7 => ?_)
          have e_v7 : hl = v7 := ((t_v7 (Or.inr (Or.inl ⟨rfl, Or.inr (Or.inr rfl)⟩))).trans qg0).symm
          subst e_v7
          refine r_icmp_ge (tgt := 111) hC dX5_commutes_60 rfl (fun h8 => ?_) (fun h8 => ?_)
          · refine r_aload_n hC dX5_commutes_111 rfl ?_
            refine z_getR hM dX5_commutes_112 fl_RX5_40 rfl rfl (vld_of (n := 1) rfl (by omega) (by omega)) ?_
            refine z_inv0 hM dX5_commutes_115 vl_RX5_278 rfl rfl rfl (Nat.le_of_ble_eq_true rfl) (Nat.le_of_ble_eq_true rfl) ?_
            refine s_isAsNoted (fun v9 h_v9 => ?_)
            refine r_if_eq (tgt := 125) hC dX5_commutes_118 rfl (fun h10 => ?_) (fun h10 => ?_)
            · refine r_iconst hC dX5_commutes_125 rfl ?_
              refine y_iret hK rfl dX5_commutes_126 ?_
              exact k _ (by omega)
            · refine r_iconst hC dX5_commutes_121 rfl ?_
              refine r_goto (tgt := 126) hC dX5_commutes_122 rfl ?_
              refine y_iret hK rfl dX5_commutes_126 ?_
              exact k _ (by omega)
          · refine r_iload hC dX5_commutes_63 rfl ?_
            refine r_iload_n hC dX5_commutes_65 rfl ?_
            refine r_icmp_ne (tgt := 75) hC dX5_commutes_66 rfl (fun h11 => ?_) (fun h11 => ?_)
            · refine r_iload hC dX5_commutes_75 rfl ?_
              refine r_iload_n hC dX5_commutes_77 rfl ?_
              refine r_iconst hC dX5_commutes_78 rfl ?_
              refine r_iaddE hC ((x + 1)) dX5_commutes_79 (by omega) (by unfold inR; omega) ?_
              refine r_icmp_ne (tgt := 87) hC dX5_commutes_80 rfl (fun h12 => ?_) (fun h12 => ?_)
              · refine r_iload hC dX5_commutes_87 rfl ?_
                refine r_istore hC dX5_commutes_89 rfl ?_
                refine r_aload_n hC dX5_commutes_91 rfl ?_
                refine z_getR hM dX5_commutes_92 fl_RX5_40 rfl rfl (vld_of (n := 1) rfl (by omega) (by omega)) ?_
                refine r_aload_n hC dX5_commutes_95 rfl ?_
                refine z_getR hM dX5_commutes_96 fl_RX5_176 rfl rfl (vld_of (n := 7) rfl (by omega) (by omega)) ?_
                refine r_iload hC dX5_commutes_99 rfl ?_
                refine z_iald hM dX5_commutes_101 rfl (by omega) (by omega) (fun v13 h_v13 o_v13 t_v13 => ?_)
                have q_v13 : -1000 ≤ v13 ∧ v13 ≤ 1000 := o_v13
                refine z_inv1 hM dX5_commutes_102 vl_RX5_253 rfl rfl rfl (Nat.le_of_ble_eq_true rfl) (Nat.le_of_ble_eq_true rfl) ?_
                refine s_append (by omega) ?_
                refine r_iincE hC ((w6 + 1)) dX5_commutes_105 rfl rfl (by omega) (by unfold inR; omega) ?_
                refine r_goto (tgt := 54) hC dX5_commutes_108 rfl ?_
                refine r_forget hC (ls2 := [some (vR 2 0), some (vI l), some (vI x), some (vR 7 l), some (vI (w6 + 1)), none]) (lsub_some (lsub_some (lsub_some (lsub_some (lsub_some (lsub_none lsub_nil)))))) ?_
                exact ih54 ((w6 + 1))  (by omega)  (by omega) 
              · refine r_iload_n hC dX5_commutes_83 rfl ?_
                refine r_goto (tgt := 89) hC dX5_commutes_84 rfl ?_
                refine r_istore hC dX5_commutes_89 rfl ?_
                refine r_aload_n hC dX5_commutes_91 rfl ?_
                refine z_getR hM dX5_commutes_92 fl_RX5_40 rfl rfl (vld_of (n := 1) rfl (by omega) (by omega)) ?_
                refine r_aload_n hC dX5_commutes_95 rfl ?_
                refine z_getR hM dX5_commutes_96 fl_RX5_176 rfl rfl (vld_of (n := 7) rfl (by omega) (by omega)) ?_
                refine r_iload hC dX5_commutes_99 rfl ?_
                refine z_iald hM dX5_commutes_101 rfl (by omega) (by omega) (fun v14 h_v14 o_v14 t_v14 => ?_)
                have q_v14 : -1000 ≤ v14 ∧ v14 ≤ 1000 := o_v14
                refine z_inv1 hM dX5_commutes_102 vl_RX5_253 rfl rfl rfl (Nat.le_of_ble_eq_true rfl) (Nat.le_of_ble_eq_true rfl) ?_
                refine s_append (by omega) ?_
                refine r_iincE hC ((w6 + 1)) dX5_commutes_105 rfl rfl (by omega) (by unfold inR; omega) ?_
                refine r_goto (tgt := 54) hC dX5_commutes_108 rfl ?_
                refine r_forget hC (ls2 := [some (vR 2 0), some (vI l), some (vI x), some (vR 7 l), some (vI (w6 + 1)), none]) (lsub_some (lsub_some (lsub_some (lsub_some (lsub_some (lsub_none lsub_nil)))))) ?_
                exact ih54 ((w6 + 1))  (by omega)  (by omega) 
            · refine r_iload_n hC dX5_commutes_69 rfl ?_
              refine r_iconst hC dX5_commutes_70 rfl ?_
              refine r_iaddE hC ((x + 1)) dX5_commutes_71 (by omega) (by unfold inR; omega) ?_
              refine r_goto (tgt := 89) hC dX5_commutes_72 rfl ?_
              refine r_istore hC dX5_commutes_89 rfl ?_
              refine r_aload_n hC dX5_commutes_91 rfl ?_
              refine z_getR hM dX5_commutes_92 fl_RX5_40 rfl rfl (vld_of (n := 1) rfl (by omega) (by omega)) ?_
              refine r_aload_n hC dX5_commutes_95 rfl ?_
              refine z_getR hM dX5_commutes_96 fl_RX5_176 rfl rfl (vld_of (n := 7) rfl (by omega) (by omega)) ?_
              refine r_iload hC dX5_commutes_99 rfl ?_
              refine z_iald hM dX5_commutes_101 rfl (by omega) (by omega) (fun v15 h_v15 o_v15 t_v15 => ?_)
              have q_v15 : -1000 ≤ v15 ∧ v15 ≤ 1000 := o_v15
              refine z_inv1 hM dX5_commutes_102 vl_RX5_253 rfl rfl rfl (Nat.le_of_ble_eq_true rfl) (Nat.le_of_ble_eq_true rfl) ?_
              refine s_append (by omega) ?_
              refine r_iincE hC ((w6 + 1)) dX5_commutes_105 rfl rfl (by omega) (by unfold inR; omega) ?_
              refine r_goto (tgt := 54) hC dX5_commutes_108 rfl ?_
              refine r_forget hC (ls2 := [some (vR 2 0), some (vI l), some (vI x), some (vR 7 l), some (vI (w6 + 1)), none]) (lsub_some (lsub_some (lsub_some (lsub_some (lsub_some (lsub_none lsub_nil)))))) ?_
              exact ih54 ((w6 + 1))  (by omega)  (by omega) 
      exact L54 122 (0)  (by omega)  (by omega) 
    · refine r_iconst hC dX5_commutes_21 rfl ?_
      refine y_iret hK rfl dX5_commutes_22 ?_
      exact k _ (by omega)
theorem s_commutes {eb : Bool} {d : Nat} {P : Option Vl → Mm → Prop} {σ : Mm} {l x : Int} (k : ∀ r : Int, -1 ≤ r ∧ r ≤ 1 → P (some (vI r)) σ) : WT (false, false, eb) (d + 5) 84 [vR 2 0, vI l, vI x] σ P := by
  refine WT_loose (true, false, eb) (fun h => by cases h) (fun h => h) (fun c j q => ?_) (fun ρ hL hF hT hO => ?_)
  · rcases q with q | q | q | q
    · exact Or.inl q
    · cases q.1
    · cases q.1
    · exact Or.inr (Or.inr (Or.inr q))
  · exact s_commutes_S (qg0 := rfl) (hL rfl) (fun r hr => ⟨σ, k r hr, fun _ => Or.inr (hL rfl), fun _ => Or.inl rfl, fun c i j q => hT c i j q⟩)
theorem s_woven_S {eb : Bool} {d : Nat} {P : Option Vl → Mm → Prop} {σ : Mm} {l o w hl ho : Int} (qg0 : σ 7 l 6 = hl) (qg1 : σ 7 o 6 = ho) (hL : InL σ)  (k : ∀ r : Int, -2147483648 ≤ r ∧ r ≤ 2147483647 → P (some (vI r)) σ) : WT (true, false, eb) (d + 5) 87 [vR 2 0, vI l, vI o, vI w] σ P := by
  refine WT_in fun K hK => ?_
  have hK : StpY (true, false, eb) cX5_woven RX5 (some .int) (WT (true, false, eb) (d + 4)) P K := hK
  have hM := hK.1
  have hC := hK.1.1
  show K 0 [some (vR 2 0), some (vI l), some (vI o), some (vI w), none, none, none, none, none, none] [] σ
  refine r_rngz hC (fun g0 => ?_)
  have r_l : -2147483648 ≤ l ∧ l ≤ 2147483647 := inR_le (g0 (vI l) (by simp))
  have r_o : -2147483648 ≤ o ∧ o ≤ 2147483647 := inR_le (g0 (vI o) (by simp))
  have r_w : -2147483648 ≤ w ∧ w ≤ 2147483647 := inR_le (g0 (vI w) (by simp))
  refine r_aload_n hC dX5_woven_0 rfl ?_
  refine r_iload_n hC dX5_woven_1 rfl ?_
  refine r_iload_n hC dX5_woven_2 rfl ?_
  refine z_inv2 hM dX5_woven_3 vl_RX5_248 rfl rfl rfl (Nat.le_of_ble_eq_true rfl) (Nat.le_of_ble_eq_true rfl) ?_
  refine s_laneWith ?_ (fun h1 => ?_)
  · refine r_astoreN hC dX5_woven_6 rfl ?_
    refine r_aload_n hC dX5_woven_8 rfl ?_
    refine r_iload_n hC dX5_woven_9 rfl ?_
    refine z_inv1 hM dX5_woven_10 vl_RX5_123 rfl rfl rfl (Nat.le_of_ble_eq_true rfl) (Nat.le_of_ble_eq_true rfl) ?_
    refine s_openLane ?_ (fun h2 => ?_)
    · refine r_astoreN hC dX5_woven_13 rfl ?_
      refine r_aloadN hC dX5_woven_15 rfl ?_
      refine r_ifnullN (tgt := 38) hC dX5_woven_17 rfl ?_
      refine r_ldc hC dX5_woven_38 co_RX5_175 rfl ?_
      refine y_iret hK rfl dX5_woven_40 ?_
      exact k _ (by omega)
    · have b_h2 : 0 ≤ ho ∧ ho ≤ 120 := by have := InL.h7 hL (i := o) (by omega) (by omega); have := qg1; omega
      refine r_astore hC dX5_woven_13 rfl ?_
      refine r_aloadN hC dX5_woven_15 rfl ?_
      refine r_ifnullN (tgt := 38) hC dX5_woven_17 rfl ?_
      refine r_ldc hC dX5_woven_38 co_RX5_175 rfl ?_
      refine y_iret hK rfl dX5_woven_40 ?_
      exact k _ (by omega)
  · have b_h1 : 0 ≤ hl ∧ hl ≤ 120 := by have := InL.h7 hL (i := l) (by omega) (by omega); have := qg0; omega
    refine r_astore hC dX5_woven_6 rfl ?_
    refine r_aload_n hC dX5_woven_8 rfl ?_
    refine r_iload_n hC dX5_woven_9 rfl ?_
    refine z_inv1 hM dX5_woven_10 vl_RX5_123 rfl rfl rfl (Nat.le_of_ble_eq_true rfl) (Nat.le_of_ble_eq_true rfl) ?_
    refine s_openLane ?_ (fun h3 => ?_)
    · refine r_astoreN hC dX5_woven_13 rfl ?_
      refine r_aload hC dX5_woven_15 rfl ?_
      refine r_ifnullR hC dX5_woven_17 ?_
      refine r_aloadN hC dX5_woven_20 rfl ?_
      refine r_ifnullN (tgt := 38) hC dX5_woven_22 rfl ?_
      refine r_ldc hC dX5_woven_38 co_RX5_175 rfl ?_
      refine y_iret hK rfl dX5_woven_40 ?_
      exact k _ (by omega)
    · have b_h3 : 0 ≤ ho ∧ ho ≤ 120 := by have := InL.h7 hL (i := o) (by omega) (by omega); have := qg1; omega
      refine r_astore hC dX5_woven_13 rfl ?_
      refine r_aload hC dX5_woven_15 rfl ?_
      refine r_ifnullR hC dX5_woven_17 ?_
      refine r_aload hC dX5_woven_20 rfl ?_
      refine r_ifnullR hC dX5_woven_22 ?_
      refine r_aload hC dX5_woven_25 rfl ?_
      refine z_getI (jz := 2) hM dX5_woven_27 fl_RX5_98 rfl rfl rfl (fun v4 h_v4 o_v4 t_v4 => ?_)
      have q_v4 : 0 ≤ v4 ∧ v4 ≤ 9 := o_v4.2.2 rfl
      refine r_aload hC dX5_woven_30 rfl ?_
      refine z_getI (jz := 2) hM dX5_woven_32 fl_RX5_98 rfl rfl rfl (fun v5 h_v5 o_v5 t_v5 => ?_)
      have q_v5 : 0 ≤ v5 ∧ v5 ≤ 9 := o_v5.2.2 rfl
      refine r_icmp_eq (tgt := 41) hC dX5_woven_35 rfl (fun h6 => ?_) (fun h6 => ?_)
      · refine r_aload_n hC dX5_woven_41 rfl ?_
        refine z_getR hM dX5_woven_42 fl_RX5_40 rfl rfl (vld_of (n := 1) rfl (by omega) (by omega)) ?_
        refine r_aload hC dX5_woven_45 rfl ?_
        refine z_getI (jz := 2) hM dX5_woven_47 fl_RX5_98 rfl rfl rfl (fun v7 h_v7 o_v7 t_v7 => ?_)
        have q_v7 : 0 ≤ v7 ∧ v7 ≤ 9 := o_v7.2.2 rfl
        refine z_inv1 hM dX5_woven_50 vl_RX5_251 rfl rfl rfl (Nat.le_of_ble_eq_true rfl) (Nat.le_of_ble_eq_true rfl) ?_
        refine s_begin (by omega) ?_
        refine r_iconst hC dX5_woven_53 rfl ?_
        refine r_istore hC dX5_woven_54 rfl ?_
        refine r_iconst hC dX5_woven_56 rfl ?_
        refine r_istore hC dX5_woven_57 rfl ?_
        refine r_aload hC dX5_woven_59 rfl ?_
        refine z_getI (jz := 6) hM dX5_woven_61 fl_RX5_154 rfl rfl rfl (fun v8 h_v8 o_v8 t_v8 => ?_)
        have e_v8 : hl = v8 := ((t_v8 (Or.inr (Or.inl ⟨rfl, Or.inr (Or.inr rfl)⟩))).trans qg0).symm
        subst e_v8
        refine r_aload hC dX5_woven_64 rfl ?_
        refine z_getI (jz := 6) hM dX5_woven_66 fl_RX5_154 rfl rfl rfl (fun v9 h_v9 o_v9 t_v9 => ?_)
        have e_v9 : ho = v9 := ((t_v9 (Or.inr (Or.inl ⟨rfl, Or.inr (Or.inr rfl)⟩))).trans qg1).symm
        subst e_v9
        refine r_iaddE hC ((hl + ho)) dX5_woven_69 (by omega) (by unfold inR; omega) ?_
        refine r_istore hC dX5_woven_70 rfl ?_
        have L72 : ∀ (n72 : Nat) (w10 w11 w12 : Int), 0 ≤ w10 ∧ w10 ≤ 120 → 0 ≤ w11 ∧ w11 ≤ 240 → 0 ≤ w12 ∧ w12 ≤ 120 → ((w11) = hl + ho - (w10) - (w12)) → ((w10) ≤ hl) → ((w12) ≤ ho) → w11 < (n72 : Int) → K 72 [some (vR 2 0), some (vI l), some (vI o), some (vI w), some (vR 7 l), some (vR 7 o), some (vI w10), some (vI w12), some (vI w11), none] [] σ := by
          intro n72
          induction n72 with
          | zero => intro w10 w11 w12  f_w10 f_w11 f_w12 i0_72 i1_72 i2_72 hm ; omega
          | succ n72 ih72 =>
            intro w10 w11 w12  f_w10 f_w11 f_w12 i0_72 i1_72 i2_72 hm72 
            refine r_iload hC dX5_woven_72 rfl ?_
            refine r_if_le (tgt := 190) hC dX5_woven_74 rfl (fun h13 => ?_) (fun h13 => ?_)
            · refine r_aload_n hC dX5_woven_190 rfl ?_
              refine z_getR hM dX5_woven_191 fl_RX5_40 rfl rfl (vld_of (n := 1) rfl (by omega) (by omega)) ?_
              refine r_iload_n hC dX5_woven_194 rfl ?_
              refine z_inv1 hM dX5_woven_195 vl_RX5_273 rfl rfl rfl (Nat.le_of_ble_eq_true rfl) (Nat.le_of_ble_eq_true rfl) ?_
              refine s_number (fun v14 h_v14 => ?_)
              refine y_iret hK rfl dX5_woven_198 ?_
              exact k _ (by omega)
            · refine r_iload hC dX5_woven_77 rfl ?_
              refine r_aload hC dX5_woven_79 rfl ?_
              refine z_getI (jz := 6) hM dX5_woven_81 fl_RX5_154 rfl rfl rfl (fun v15 h_v15 o_v15 t_v15 => ?_)
              have e_v15 : ho = v15 := ((t_v15 (Or.inr (Or.inl ⟨rfl, Or.inr (Or.inr rfl)⟩))).trans qg1).symm
              subst e_v15
              refine r_icmp_ge (tgt := 116) hC dX5_woven_84 rfl (fun h16 => ?_) (fun h16 => ?_)
              · refine r_iconst hC dX5_woven_116 rfl ?_
                refine r_goto (tgt := 121) hC dX5_woven_117 rfl ?_
                refine r_istore hC dX5_woven_121 rfl ?_
                refine r_aload_n hC dX5_woven_123 rfl ?_
                refine z_getR hM dX5_woven_124 fl_RX5_40 rfl rfl (vld_of (n := 1) rfl (by omega) (by omega)) ?_
                refine r_iload hC dX5_woven_127 rfl ?_
                refine r_if_eq (tgt := 143) hC dX5_woven_129 rfl (fun h17 => by omega) (fun h17 => ?_)
                refine r_aload hC dX5_woven_132 rfl ?_
                refine z_getR hM dX5_woven_134 fl_RX5_176 rfl rfl (vld_of (n := 7) rfl (by omega) (by omega)) ?_
                refine r_iload hC dX5_woven_137 rfl ?_
                refine z_iald hM dX5_woven_139 rfl (by omega) (by omega) (fun v18 h_v18 o_v18 t_v18 => ?_)
                have q_v18 : -1000 ≤ v18 ∧ v18 ≤ 1000 := o_v18
                refine r_goto (tgt := 151) hC dX5_woven_140 rfl ?_
                refine z_inv1 hM dX5_woven_151 vl_RX5_253 rfl rfl rfl (Nat.le_of_ble_eq_true rfl) (Nat.le_of_ble_eq_true rfl) ?_
                refine s_append (by omega) ?_
                refine r_iload hC dX5_woven_154 rfl ?_
                refine r_iload hC dX5_woven_156 rfl ?_
                refine r_if_eq (tgt := 165) hC dX5_woven_158 rfl (fun h19 => by omega) (fun h19 => ?_)
                refine r_iconst hC dX5_woven_161 rfl ?_
                refine r_goto (tgt := 166) hC dX5_woven_162 rfl ?_
                refine r_iaddE hC ((w10 + 1)) dX5_woven_166 (by omega) (by unfold inR; omega) ?_
                refine r_istore hC dX5_woven_167 rfl ?_
                refine r_iload hC dX5_woven_169 rfl ?_
                refine r_iload hC dX5_woven_171 rfl ?_
                refine r_if_eq (tgt := 180) hC dX5_woven_173 rfl (fun h20 => by omega) (fun h20 => ?_)
                refine r_iconst hC dX5_woven_176 rfl ?_
                refine r_goto (tgt := 181) hC dX5_woven_177 rfl ?_
                refine r_iaddE hC (w12) dX5_woven_181 (by omega) (by unfold inR; omega) ?_
                refine r_istore hC dX5_woven_182 rfl ?_
                show K _ [_, _, _, _, _, _, _, _, _, _] _ _
                refine r_iincE hC ((w11 - 1)) dX5_woven_184 rfl rfl (by omega) (by unfold inR; omega) ?_
                refine r_goto (tgt := 72) hC dX5_woven_187 rfl ?_
                refine r_forget hC (ls2 := [some (vR 2 0), some (vI l), some (vI o), some (vI w), some (vR 7 l), some (vR 7 o), some (vI (w10 + 1)), some (vI w12), some (vI (w11 - 1)), none]) (lsub_some (lsub_some (lsub_some (lsub_some (lsub_some (lsub_some (lsub_some (lsub_some (lsub_some (lsub_none lsub_nil)))))))))) ?_
                exact ih72 ((w10 + 1)) ((w11 - 1)) (w12)  (by omega) (by omega) (by omega) (by omega) (by omega) (by omega) (by omega) 
              · refine r_iload hC dX5_woven_87 rfl ?_
                refine r_aload hC dX5_woven_89 rfl ?_
                refine z_getI (jz := 6) hM dX5_woven_91 fl_RX5_154 rfl rfl rfl (fun v21 h_v21 o_v21 t_v21 => ?_)
                have e_v21 : hl = v21 := ((t_v21 (Or.inr (Or.inl ⟨rfl, Or.inr (Or.inr rfl)⟩))).trans qg0).symm
                subst e_v21
                refine r_icmp_ge (tgt := 120) hC dX5_woven_94 rfl (fun h22 => ?_) (fun h22 => ?_)
                · refine r_iconst hC dX5_woven_120 rfl ?_
                  refine r_istore hC dX5_woven_121 rfl ?_
                  refine r_aload_n hC dX5_woven_123 rfl ?_
                  refine z_getR hM dX5_woven_124 fl_RX5_40 rfl rfl (vld_of (n := 1) rfl (by omega) (by omega)) ?_
                  refine r_iload hC dX5_woven_127 rfl ?_
                  refine r_if_eq (tgt := 143) hC dX5_woven_129 rfl (fun h23 => ?_) (fun h23 => by omega)
                  refine r_aload hC dX5_woven_143 rfl ?_
                  refine z_getR hM dX5_woven_145 fl_RX5_176 rfl rfl (vld_of (n := 7) rfl (by omega) (by omega)) ?_
                  refine r_iload hC dX5_woven_148 rfl ?_
                  refine z_iald hM dX5_woven_150 rfl (by omega) (by omega) (fun v24 h_v24 o_v24 t_v24 => ?_)
                  have q_v24 : -1000 ≤ v24 ∧ v24 ≤ 1000 := o_v24
                  refine z_inv1 hM dX5_woven_151 vl_RX5_253 rfl rfl rfl (Nat.le_of_ble_eq_true rfl) (Nat.le_of_ble_eq_true rfl) ?_
                  refine s_append (by omega) ?_
                  refine r_iload hC dX5_woven_154 rfl ?_
                  refine r_iload hC dX5_woven_156 rfl ?_
                  refine r_if_eq (tgt := 165) hC dX5_woven_158 rfl (fun h25 => ?_) (fun h25 => by omega)
                  refine r_iconst hC dX5_woven_165 rfl ?_
                  refine r_iaddE hC (w10) dX5_woven_166 (by omega) (by unfold inR; omega) ?_
                  refine r_istore hC dX5_woven_167 rfl ?_
                  refine r_iload hC dX5_woven_169 rfl ?_
                  refine r_iload hC dX5_woven_171 rfl ?_
                  refine r_if_eq (tgt := 180) hC dX5_woven_173 rfl (fun h26 => ?_) (fun h26 => by omega)
                  refine r_iconst hC dX5_woven_180 rfl ?_
                  refine r_iaddE hC ((w12 + 1)) dX5_woven_181 (by omega) (by unfold inR; omega) ?_
                  refine r_istore hC dX5_woven_182 rfl ?_
                  show K _ [_, _, _, _, _, _, _, _, _, _] _ _
                  refine r_iincE hC ((w11 - 1)) dX5_woven_184 rfl rfl (by omega) (by unfold inR; omega) ?_
                  refine r_goto (tgt := 72) hC dX5_woven_187 rfl ?_
                  refine r_forget hC (ls2 := [some (vR 2 0), some (vI l), some (vI o), some (vI w), some (vR 7 l), some (vR 7 o), some (vI w10), some (vI (w12 + 1)), some (vI (w11 - 1)), none]) (lsub_some (lsub_some (lsub_some (lsub_some (lsub_some (lsub_some (lsub_some (lsub_some (lsub_some (lsub_none lsub_nil)))))))))) ?_
                  exact ih72 (w10) ((w11 - 1)) ((w12 + 1))  (by omega) (by omega) (by omega) (by omega) (by omega) (by omega) (by omega) 
                · refine r_aload hC dX5_woven_97 rfl ?_
                  refine z_getR hM dX5_woven_99 fl_RX5_198 rfl rfl (vld_of (n := 7) rfl (by omega) (by omega)) ?_
                  refine r_iload hC dX5_woven_102 rfl ?_
                  refine z_iald hM dX5_woven_104 rfl (by omega) (by omega) (fun v27 h_v27 o_v27 t_v27 => ?_)
                  refine r_aload hC dX5_woven_105 rfl ?_
                  refine z_getR hM dX5_woven_107 fl_RX5_198 rfl rfl (vld_of (n := 7) rfl (by omega) (by omega)) ?_
                  refine r_iload hC dX5_woven_110 rfl ?_
                  refine z_iald hM dX5_woven_112 rfl (by omega) (by omega) (fun v28 h_v28 o_v28 t_v28 => ?_)
                  refine r_icmp_gt (tgt := 120) hC dX5_woven_113 rfl (fun h29 => ?_) (fun h29 => ?_)
                  · refine r_iconst hC dX5_woven_120 rfl ?_
                    refine r_istore hC dX5_woven_121 rfl ?_
                    refine r_aload_n hC dX5_woven_123 rfl ?_
                    refine z_getR hM dX5_woven_124 fl_RX5_40 rfl rfl (vld_of (n := 1) rfl (by omega) (by omega)) ?_
                    refine r_iload hC dX5_woven_127 rfl ?_
                    refine r_if_eq (tgt := 143) hC dX5_woven_129 rfl (fun h30 => ?_) (fun h30 => by omega)
                    refine r_aload hC dX5_woven_143 rfl ?_
                    refine z_getR hM dX5_woven_145 fl_RX5_176 rfl rfl (vld_of (n := 7) rfl (by omega) (by omega)) ?_
                    refine r_iload hC dX5_woven_148 rfl ?_
                    refine z_iald hM dX5_woven_150 rfl (by omega) (by omega) (fun v31 h_v31 o_v31 t_v31 => ?_)
                    have q_v31 : -1000 ≤ v31 ∧ v31 ≤ 1000 := o_v31
                    refine z_inv1 hM dX5_woven_151 vl_RX5_253 rfl rfl rfl (Nat.le_of_ble_eq_true rfl) (Nat.le_of_ble_eq_true rfl) ?_
                    refine s_append (by omega) ?_
                    refine r_iload hC dX5_woven_154 rfl ?_
                    refine r_iload hC dX5_woven_156 rfl ?_
                    refine r_if_eq (tgt := 165) hC dX5_woven_158 rfl (fun h32 => ?_) (fun h32 => by omega)
                    refine r_iconst hC dX5_woven_165 rfl ?_
                    refine r_iaddE hC (w10) dX5_woven_166 (by omega) (by unfold inR; omega) ?_
                    refine r_istore hC dX5_woven_167 rfl ?_
                    refine r_iload hC dX5_woven_169 rfl ?_
                    refine r_iload hC dX5_woven_171 rfl ?_
                    refine r_if_eq (tgt := 180) hC dX5_woven_173 rfl (fun h33 => ?_) (fun h33 => by omega)
                    refine r_iconst hC dX5_woven_180 rfl ?_
                    refine r_iaddE hC ((w12 + 1)) dX5_woven_181 (by omega) (by unfold inR; omega) ?_
                    refine r_istore hC dX5_woven_182 rfl ?_
                    show K _ [_, _, _, _, _, _, _, _, _, _] _ _
                    refine r_iincE hC ((w11 - 1)) dX5_woven_184 rfl rfl (by omega) (by unfold inR; omega) ?_
                    refine r_goto (tgt := 72) hC dX5_woven_187 rfl ?_
                    refine r_forget hC (ls2 := [some (vR 2 0), some (vI l), some (vI o), some (vI w), some (vR 7 l), some (vR 7 o), some (vI w10), some (vI (w12 + 1)), some (vI (w11 - 1)), none]) (lsub_some (lsub_some (lsub_some (lsub_some (lsub_some (lsub_some (lsub_some (lsub_some (lsub_some (lsub_none lsub_nil)))))))))) ?_
                    exact ih72 (w10) ((w11 - 1)) ((w12 + 1))  (by omega) (by omega) (by omega) (by omega) (by omega) (by omega) (by omega) 
                  · refine r_iconst hC dX5_woven_116 rfl ?_
                    refine r_goto (tgt := 121) hC dX5_woven_117 rfl ?_
                    refine r_istore hC dX5_woven_121 rfl ?_
                    refine r_aload_n hC dX5_woven_123 rfl ?_
                    refine z_getR hM dX5_woven_124 fl_RX5_40 rfl rfl (vld_of (n := 1) rfl (by omega) (by omega)) ?_
                    refine r_iload hC dX5_woven_127 rfl ?_
                    refine r_if_eq (tgt := 143) hC dX5_woven_129 rfl (fun h34 => by omega) (fun h34 => ?_)
                    refine r_aload hC dX5_woven_132 rfl ?_
                    refine z_getR hM dX5_woven_134 fl_RX5_176 rfl rfl (vld_of (n := 7) rfl (by omega) (by omega)) ?_
                    refine r_iload hC dX5_woven_137 rfl ?_
                    refine z_iald hM dX5_woven_139 rfl (by omega) (by omega) (fun v35 h_v35 o_v35 t_v35 => ?_)
                    have q_v35 : -1000 ≤ v35 ∧ v35 ≤ 1000 := o_v35
                    refine r_goto (tgt := 151) hC dX5_woven_140 rfl ?_
                    refine z_inv1 hM dX5_woven_151 vl_RX5_253 rfl rfl rfl (Nat.le_of_ble_eq_true rfl) (Nat.le_of_ble_eq_true rfl) ?_
                    refine s_append (by omega) ?_
                    refine r_iload hC dX5_woven_154 rfl ?_
                    refine r_iload hC dX5_woven_156 rfl ?_
                    refine r_if_eq (tgt := 165) hC dX5_woven_158 rfl (fun h36 => by omega) (fun h36 => ?_)
                    refine r_iconst hC dX5_woven_161 rfl ?_
                    refine r_goto (tgt := 166) hC dX5_woven_162 rfl ?_
                    refine r_iaddE hC ((w10 + 1)) dX5_woven_166 (by omega) (by unfold inR; omega) ?_
                    refine r_istore hC dX5_woven_167 rfl ?_
                    refine r_iload hC dX5_woven_169 rfl ?_
                    refine r_iload hC dX5_woven_171 rfl ?_
                    refine r_if_eq (tgt := 180) hC dX5_woven_173 rfl (fun h37 => by omega) (fun h37 => ?_)
                    refine r_iconst hC dX5_woven_176 rfl ?_
                    refine r_goto (tgt := 181) hC dX5_woven_177 rfl ?_
                    refine r_iaddE hC (w12) dX5_woven_181 (by omega) (by unfold inR; omega) ?_
                    refine r_istore hC dX5_woven_182 rfl ?_
                    show K _ [_, _, _, _, _, _, _, _, _, _] _ _
                    refine r_iincE hC ((w11 - 1)) dX5_woven_184 rfl rfl (by omega) (by unfold inR; omega) ?_
                    refine r_goto (tgt := 72) hC dX5_woven_187 rfl ?_
                    refine r_forget hC (ls2 := [some (vR 2 0), some (vI l), some (vI o), some (vI w), some (vR 7 l), some (vR 7 o), some (vI (w10 + 1)), some (vI w12), some (vI (w11 - 1)), none]) (lsub_some (lsub_some (lsub_some (lsub_some (lsub_some (lsub_some (lsub_some (lsub_some (lsub_some (lsub_none lsub_nil)))))))))) ?_
                    exact ih72 ((w10 + 1)) ((w11 - 1)) (w12)  (by omega) (by omega) (by omega) (by omega) (by omega) (by omega) (by omega) 
        exact L72 242 (0) ((hl + ho)) (0)  (by omega) (by omega) (by omega) (by omega) (by omega) (by omega) (by omega) 
      · refine r_ldc hC dX5_woven_38 co_RX5_175 rfl ?_
        refine y_iret hK rfl dX5_woven_40 ?_
        exact k _ (by omega)
theorem s_woven {eb : Bool} {d : Nat} {P : Option Vl → Mm → Prop} {σ : Mm} {l o w : Int} (k : ∀ r : Int, -2147483648 ≤ r ∧ r ≤ 2147483647 → P (some (vI r)) σ) : WT (false, false, eb) (d + 5) 87 [vR 2 0, vI l, vI o, vI w] σ P := by
  refine WT_loose (true, false, eb) (fun h => by cases h) (fun h => h) (fun c j q => ?_) (fun ρ hL hF hT hO => ?_)
  · rcases q with q | q | q | q
    · exact Or.inl q
    · cases q.1
    · cases q.1
    · exact Or.inr (Or.inr (Or.inr q))
  · exact s_woven_S (qg0 := rfl) (qg1 := rfl) (hL rfl) (fun r hr => ⟨σ, k r hr, fun _ => Or.inr (hL rfl), fun _ => Or.inl rfl, fun c i j q => hT c i j q⟩)
theorem s_partFrom {eb : Bool} {d : Nat} {P : Option Vl → Mm → Prop} {σ : Mm} {i f r w h : Int} (b_i : 0 ≤ i ∧ i ≤ 6) (b_f : 0 ≤ f ∧ f ≤ 120) (b_r : 1 ≤ r ∧ r ≤ 4) (b_h : 1 ≤ h ∧ h ≤ 121) (qg0 : σ 7 i 6 = h)  (k : P none σ) : WT (true, false, eb) (d + 4) 113 [vR 2 0, vR 7 i, vI f, vI r, vI w] σ P := by
  refine WT_in fun K hK => ?_
  have hK : StpY (true, false, eb) cX5_partFrom RX5 (none) (WT (true, false, eb) (d + 3)) P K := hK
  have hM := hK.1
  have hC := hK.1.1
  show K 0 [some (vR 2 0), some (vR 7 i), some (vI f), some (vI r), some (vI w), none, none, none, none] [] σ
  refine r_rngz hC (fun g0 => ?_)
  have r_w : -2147483648 ≤ w ∧ w ≤ 2147483647 := inR_le (g0 (vI w) (by simp))
  refine r_iconst hC dX5_partFrom_0 rfl ?_
  refine r_istore hC dX5_partFrom_1 rfl ?_
  have L3 : ∀ (n3 : Nat) (w1 : Int), 1 ≤ w1 ∧ w1 ≤ 5 → 5 - w1 < (n3 : Int) → K 3 [some (vR 2 0), some (vR 7 i), some (vI f), some (vI r), some (vI w), some (vI w1), none, none, none] [] σ := by
    intro n3
    induction n3 with
    | zero => intro w1  f_w1  hm ; omega
    | succ n3 ih3 =>
      intro w1  f_w1  hm3 
      refine r_iload hC dX5_partFrom_3 rfl ?_
      refine r_iload_n hC dX5_partFrom_5 rfl ?_
      refine r_icmp_gt (tgt := 26) hC dX5_partFrom_6 rfl (fun h2 => ?_) (fun h2 => ?_)
      · refine r_aload_n hC dX5_partFrom_26 rfl ?_
        refine z_getR hM dX5_partFrom_27 fl_RX5_40 rfl rfl (vld_of (n := 1) rfl (by omega) (by omega)) ?_
        refine r_aload_n hC dX5_partFrom_30 rfl ?_
        refine z_getI (jz := 2) hM dX5_partFrom_31 fl_RX5_98 rfl rfl rfl (fun v3 h_v3 o_v3 t_v3 => ?_)
        have q_v3 : 0 ≤ v3 ∧ v3 ≤ 9 := o_v3.2.2 rfl
        refine z_inv1 hM dX5_partFrom_34 vl_RX5_251 rfl rfl rfl (Nat.le_of_ble_eq_true rfl) (Nat.le_of_ble_eq_true rfl) ?_
        refine s_begin (by omega) ?_
        refine r_iload_n hC dX5_partFrom_37 rfl ?_
        refine r_iconst hC dX5_partFrom_38 rfl ?_
        refine r_iaddE hC ((f + 1)) dX5_partFrom_39 (by omega) (by unfold inR; omega) ?_
        refine r_istore hC dX5_partFrom_40 rfl ?_
        have L42 : ∀ (n42 : Nat) (w4 : Int), 1 ≤ w4 ∧ w4 ≤ 121 → 121 - w4 < (n42 : Int) → K 42 [some (vR 2 0), some (vR 7 i), some (vI f), some (vI r), some (vI w), some (vI w4), none, none, none] [] σ := by
          intro n42
          induction n42 with
          | zero => intro w4  f_w4  hm ; omega
          | succ n42 ih42 =>
            intro w4  f_w4  hm42 
            refine r_iload hC dX5_partFrom_42 rfl ?_
            refine r_aload_n hC dX5_partFrom_44 rfl ?_
            refine z_getI (jz := 6) hM dX5_partFrom_45 fl_RX5_154 rfl rfl rfl (fun v5 h_v5 o_v5 t_v5 => ?_)
            have e_v5 : h = v5 := ((t_v5 (Or.inr (Or.inl ⟨rfl, Or.inr (Or.inr rfl)⟩))).trans qg0).symm
            subst e_v5
            refine r_icmp_ge (tgt := 169) hC dX5_partFrom_48 rfl (fun h6 => ?_) (fun h6 => ?_)
            · refine r_aload_n hC dX5_partFrom_169 rfl ?_
              refine z_getR hM dX5_partFrom_170 fl_RX5_40 rfl rfl (vld_of (n := 1) rfl (by omega) (by omega)) ?_
              refine r_aload_n hC dX5_partFrom_173 rfl ?_
              refine z_getR hM dX5_partFrom_174 fl_RX5_176 rfl rfl (vld_of (n := 7) rfl (by omega) (by omega)) ?_
              refine r_aload_n hC dX5_partFrom_177 rfl ?_
              refine z_getI (jz := 6) hM dX5_partFrom_178 fl_RX5_154 rfl rfl rfl (fun v7 h_v7 o_v7 t_v7 => ?_)
              have e_v7 : h = v7 := ((t_v7 (Or.inr (Or.inl ⟨rfl, Or.inr (Or.inr rfl)⟩))).trans qg0).symm
              subst e_v7
              refine r_iconst hC dX5_partFrom_181 rfl ?_
              refine r_isubE hC ((h - 1)) dX5_partFrom_182 (by omega) (by unfold inR; omega) ?_
              refine z_iald hM dX5_partFrom_183 rfl (by omega) (by omega) (fun v8 h_v8 o_v8 t_v8 => ?_)
              have q_v8 : -1000 ≤ v8 ∧ v8 ≤ 1000 := o_v8
              refine z_inv1 hM dX5_partFrom_184 vl_RX5_253 rfl rfl rfl (Nat.le_of_ble_eq_true rfl) (Nat.le_of_ble_eq_true rfl) ?_
              refine s_append (by omega) ?_
              refine r_aload_n hC dX5_partFrom_187 rfl ?_
              refine z_getR hM dX5_partFrom_188 fl_RX5_53 rfl rfl (vld_of (n := 1) rfl (by omega) (by omega)) ?_
              refine r_iconst hC dX5_partFrom_191 rfl ?_
              refine z_aald hM dX5_partFrom_192 rfl (by decide) (by omega) (by omega) (vld_of (n := 5) rfl (by omega) (by omega)) ?_
              refine r_iload_n hC dX5_partFrom_193 rfl ?_
              refine r_aload_n hC dX5_partFrom_194 rfl ?_
              refine z_getR hM dX5_partFrom_195 fl_RX5_40 rfl rfl (vld_of (n := 1) rfl (by omega) (by omega)) ?_
              refine r_iload hC dX5_partFrom_198 rfl ?_
              refine z_inv1 hM dX5_partFrom_200 vl_RX5_273 rfl rfl rfl (Nat.le_of_ble_eq_true rfl) (Nat.le_of_ble_eq_true rfl) ?_
              refine s_number (fun v9 h_v9 => ?_)
              refine z_iastU hM dX5_partFrom_203 rfl (by omega) (by omega) (by simp [Un, Tb, DL, DF, DR]) (by simp [Okv]) ?_
              refine y_vret hK rfl dX5_partFrom_204 ?_
              exact k
            · refine r_aload_n hC dX5_partFrom_51 rfl ?_
              refine z_getR hM dX5_partFrom_52 fl_RX5_40 rfl rfl (vld_of (n := 1) rfl (by omega) (by omega)) ?_
              refine r_aload_n hC dX5_partFrom_55 rfl ?_
              refine z_getR hM dX5_partFrom_56 fl_RX5_176 rfl rfl (vld_of (n := 7) rfl (by omega) (by omega)) ?_
              refine r_iload hC dX5_partFrom_59 rfl ?_
              refine r_iconst hC dX5_partFrom_61 rfl ?_
              refine r_isubE hC ((w4 - 1)) dX5_partFrom_62 (by omega) (by unfold inR; omega) ?_
              refine z_iald hM dX5_partFrom_63 rfl (by omega) (by omega) (fun v10 h_v10 o_v10 t_v10 => ?_)
              have q_v10 : -1000 ≤ v10 ∧ v10 ≤ 1000 := o_v10
              refine z_inv1 hM dX5_partFrom_64 vl_RX5_253 rfl rfl rfl (Nat.le_of_ble_eq_true rfl) (Nat.le_of_ble_eq_true rfl) ?_
              refine s_append (by omega) ?_
              refine r_aload_n hC dX5_partFrom_67 rfl ?_
              refine z_getR hM dX5_partFrom_68 fl_RX5_40 rfl rfl (vld_of (n := 1) rfl (by omega) (by omega)) ?_
              refine r_iload hC dX5_partFrom_71 rfl ?_
              refine z_inv1 hM dX5_partFrom_73 vl_RX5_273 rfl rfl rfl (Nat.le_of_ble_eq_true rfl) (Nat.le_of_ble_eq_true rfl) ?_
              refine s_number (fun v11 h_v11 => ?_)
              refine r_istore hC dX5_partFrom_76 rfl ?_
              refine r_iconst hC dX5_partFrom_78 rfl ?_
              refine r_istore hC dX5_partFrom_79 rfl ?_
              have L81 : ∀ (n81 : Nat) (w12 : Int), 2 ≤ w12 ∧ w12 ≤ 5 → 5 - w12 < (n81 : Int) → K 81 [some (vR 2 0), some (vR 7 i), some (vI f), some (vI r), some (vI w), some (vI w4), some (vI v11), some (vI w12), none] [] σ := by
                intro n81
                induction n81 with
                | zero => intro w12  f_w12  hm ; omega
                | succ n81 ih81 =>
                  intro w12  f_w12  hm81 
                  refine r_iload hC dX5_partFrom_81 rfl ?_
                  refine r_iload_n hC dX5_partFrom_83 rfl ?_
                  have J163_13 : K 163 [some (vR 2 0), some (vR 7 i), some (vI f), some (vI r), some (vI w), some (vI w4), some (vI v11), some (vI w12), none] [] σ := by
                    refine r_iincE hC ((w4 + 1)) dX5_partFrom_163 rfl rfl (by omega) (by unfold inR; omega) ?_
                    refine r_goto (tgt := 42) hC dX5_partFrom_166 rfl ?_
                    refine r_forget hC (ls2 := [some (vR 2 0), some (vR 7 i), some (vI f), some (vI r), some (vI w), some (vI (w4 + 1)), none, none, none]) (lsub_some (lsub_some (lsub_some (lsub_some (lsub_some (lsub_some (lsub_none (lsub_none (lsub_none lsub_nil))))))))) ?_
                    exact ih42 ((w4 + 1))  (by omega)  (by omega) 
                  refine r_icmp_gt (tgt := 163) hC dX5_partFrom_84 rfl (fun h13 => ?_) (fun h13 => ?_)
                  · exact J163_13
                  · refine r_iload hC dX5_partFrom_87 rfl ?_
                    refine r_ldc hC dX5_partFrom_89 co_RX5_175 rfl ?_
                    refine r_icmp_eq (tgt := 163) hC dX5_partFrom_91 rfl (fun h15 => ?_) (fun h15 => ?_)
                    · exact J163_13
                    · refine r_aload_n hC dX5_partFrom_94 rfl ?_
                      refine z_getR hM dX5_partFrom_95 fl_RX5_53 rfl rfl (vld_of (n := 1) rfl (by omega) (by omega)) ?_
                      refine r_iload hC dX5_partFrom_98 rfl ?_
                      refine r_iconst hC dX5_partFrom_100 rfl ?_
                      refine r_isubE hC ((w12 - 1)) dX5_partFrom_101 (by omega) (by unfold inR; omega) ?_
                      refine z_aald hM dX5_partFrom_102 rfl (by decide) (by omega) (by omega) (vld_of (n := 5) rfl (by omega) (by omega)) ?_
                      refine r_iload hC dX5_partFrom_103 rfl ?_
                      refine z_iald hM dX5_partFrom_105 rfl (by omega) (by omega) (fun v16 h_v16 o_v16 t_v16 => ?_)
                      refine r_istore hC dX5_partFrom_106 rfl ?_
                      refine r_iload hC dX5_partFrom_108 rfl ?_
                      refine r_ldc hC dX5_partFrom_110 co_RX5_175 rfl ?_
                      have J157_17 : K 157 [some (vR 2 0), some (vR 7 i), some (vI f), some (vI r), some (vI w), some (vI w4), some (vI v11), some (vI w12), some (vI v16)] [] σ := by
                        refine r_iincE hC ((w12 + 1)) dX5_partFrom_157 rfl rfl (by omega) (by unfold inR; omega) ?_
                        refine r_goto (tgt := 81) hC dX5_partFrom_160 rfl ?_
                        refine r_forget hC (ls2 := [some (vR 2 0), some (vR 7 i), some (vI f), some (vI r), some (vI w), some (vI w4), some (vI v11), some (vI (w12 + 1)), none]) (lsub_some (lsub_some (lsub_some (lsub_some (lsub_some (lsub_some (lsub_some (lsub_some (lsub_none lsub_nil))))))))) ?_
                        exact ih81 ((w12 + 1))  (by omega)  (by omega) 
                      refine r_icmp_eq (tgt := 157) hC dX5_partFrom_112 rfl (fun h17 => ?_) (fun h17 => ?_)
                      · exact J157_17
                      · refine r_iload hC dX5_partFrom_115 rfl ?_
                        refine r_iload hC dX5_partFrom_117 rfl ?_
                        refine r_iaddG hC dX5_partFrom_119 (fun v19 h_v19 => ?_)
                        refine r_aload_n hC dX5_partFrom_120 rfl ?_
                        refine z_getR hM dX5_partFrom_121 fl_RX5_53 rfl rfl (vld_of (n := 1) rfl (by omega) (by omega)) ?_
                        refine r_iload hC dX5_partFrom_124 rfl ?_
                        refine z_aald hM dX5_partFrom_126 rfl (by decide) (by omega) (by omega) (vld_of (n := 5) rfl (by omega) (by omega)) ?_
                        refine r_iload_n hC dX5_partFrom_127 rfl ?_
                        refine z_iald hM dX5_partFrom_128 rfl (by omega) (by omega) (fun v20 h_v20 o_v20 t_v20 => ?_)
                        refine r_icmp_le (tgt := 157) hC dX5_partFrom_129 rfl (fun h21 => ?_) (fun h21 => ?_)
                        · exact J157_17
                        · refine r_aload_n hC dX5_partFrom_132 rfl ?_
                          refine z_getR hM dX5_partFrom_133 fl_RX5_53 rfl rfl (vld_of (n := 1) rfl (by omega) (by omega)) ?_
                          refine r_iload hC dX5_partFrom_136 rfl ?_
                          refine z_aald hM dX5_partFrom_138 rfl (by decide) (by omega) (by omega) (vld_of (n := 5) rfl (by omega) (by omega)) ?_
                          refine r_iload_n hC dX5_partFrom_139 rfl ?_
                          refine r_iload hC dX5_partFrom_140 rfl ?_
                          refine r_iload hC dX5_partFrom_142 rfl ?_
                          refine r_iaddG hC dX5_partFrom_144 (fun v22 h_v22 => ?_)
                          refine z_iastU hM dX5_partFrom_145 rfl (by omega) (by omega) (by simp [Un, Tb, DL, DF, DR]) (by simp [Okv]) ?_
                          refine r_aload_n hC dX5_partFrom_146 rfl ?_
                          refine z_getR hM dX5_partFrom_147 fl_RX5_56 rfl rfl (vld_of (n := 1) rfl (by omega) (by omega)) ?_
                          refine r_iload hC dX5_partFrom_150 rfl ?_
                          refine z_aald hM dX5_partFrom_152 rfl (by decide) (by omega) (by omega) (vld_of (n := 5) rfl (by omega) (by omega)) ?_
                          refine r_iload_n hC dX5_partFrom_153 rfl ?_
                          refine r_iload hC dX5_partFrom_154 rfl ?_
                          refine z_iastU hM dX5_partFrom_156 rfl (by omega) (by omega) (by simp [Un, Tb, DL, DF, DR]) (by simp [Okv]; try omega) ?_
                          exact J157_17    
              exact L81 5 (2)  (by omega)  (by omega) 
        exact L42 122 ((f + 1))  (by omega)  (by omega) 
      · refine r_aload_n hC dX5_partFrom_9 rfl ?_
        refine z_getR hM dX5_partFrom_10 fl_RX5_53 rfl rfl (vld_of (n := 1) rfl (by omega) (by omega)) ?_
        refine r_iload hC dX5_partFrom_13 rfl ?_
        refine z_aald hM dX5_partFrom_15 rfl (by decide) (by omega) (by omega) (vld_of (n := 5) rfl (by omega) (by omega)) ?_
        refine r_iload_n hC dX5_partFrom_16 rfl ?_
        refine r_ldc hC dX5_partFrom_17 co_RX5_175 rfl ?_
        refine z_iastU hM dX5_partFrom_19 rfl (by omega) (by omega) (by simp [Un, Tb, DL, DF, DR]) (by simp [Okv]) ?_
        refine r_iincE hC ((w1 + 1)) dX5_partFrom_20 rfl rfl (by omega) (by unfold inR; omega) ?_
        refine r_goto (tgt := 3) hC dX5_partFrom_23 rfl ?_
        exact ih3 ((w1 + 1))  (by omega)  (by omega) 
  exact L3 6 (1)  (by omega)  (by omega) 
theorem s_parted_S {eb : Bool} {d : Nat} {P : Option Vl → Mm → Prop} {σ : Mm} {l r w x hl : Int} (qg0 : σ 7 l 6 = hl) (hL : InL σ)  (k : ∀ r : Int, -2147483648 ≤ r ∧ r ≤ 2147483647 → P (some (vI r)) σ) : WT (true, false, eb) (d + 5) 112 [vR 2 0, vI l, vI r, vI w, vI x] σ P := by
  refine WT_in fun K hK => ?_
  have hK : StpY (true, false, eb) cX5_parted RX5 (some .int) (WT (true, false, eb) (d + 4)) P K := hK
  have hM := hK.1
  have hC := hK.1.1
  show K 0 [some (vR 2 0), some (vI l), some (vI r), some (vI w), some (vI x), none, none, none, none] [] σ
  refine r_rngz hC (fun g0 => ?_)
  have r_l : -2147483648 ≤ l ∧ l ≤ 2147483647 := inR_le (g0 (vI l) (by simp))
  have r_r : -2147483648 ≤ r ∧ r ≤ 2147483647 := inR_le (g0 (vI r) (by simp))
  have r_w : -2147483648 ≤ w ∧ w ≤ 2147483647 := inR_le (g0 (vI w) (by simp))
  have r_x : -2147483648 ≤ x ∧ x ≤ 2147483647 := inR_le (g0 (vI x) (by simp))
  refine r_aload_n hC dX5_parted_0 rfl ?_
  refine r_iload_n hC dX5_parted_1 rfl ?_
  refine r_iload_n hC dX5_parted_2 rfl ?_
  refine z_inv2 hM dX5_parted_3 vl_RX5_248 rfl rfl rfl (Nat.le_of_ble_eq_true rfl) (Nat.le_of_ble_eq_true rfl) ?_
  refine s_laneWith ?_ (fun h1 => ?_)
  · refine r_astoreN hC dX5_parted_6 rfl ?_
    refine r_aloadN hC dX5_parted_8 rfl ?_
    refine r_ifnullN (tgt := 41) hC dX5_parted_10 rfl ?_
    refine r_ldc hC dX5_parted_41 co_RX5_175 rfl ?_
    refine y_iret hK rfl dX5_parted_43 ?_
    exact k _ (by omega)
  · have b_h1 : 0 ≤ hl ∧ hl ≤ 120 := by have := InL.h7 hL (i := l) (by omega) (by omega); have := qg0; omega
    refine r_astore hC dX5_parted_6 rfl ?_
    refine r_aload hC dX5_parted_8 rfl ?_
    refine r_ifnullR hC dX5_parted_10 ?_
    refine r_iload_n hC dX5_parted_13 rfl ?_
    refine r_iconst hC dX5_parted_14 rfl ?_
    refine r_iconst hC dX5_parted_15 rfl ?_
    refine z_ins3 hM dX5_parted_16 tl_RX5_59 rfl (Nat.le_of_ble_eq_true rfl) (Nat.le_of_ble_eq_true rfl) ?_
    refine s_within (fun h3 => ?_) (fun h3 => ?_)
    · refine r_if_eq (tgt := 41) hC dX5_parted_19 rfl (fun h4 => by omega) (fun h4 => ?_)
      refine r_iload hC dX5_parted_22 rfl ?_
      refine r_iconst hC dX5_parted_24 rfl ?_
      refine r_iload_n hC dX5_parted_25 rfl ?_
      refine z_ins3 hM dX5_parted_26 tl_RX5_59 rfl (Nat.le_of_ble_eq_true rfl) (Nat.le_of_ble_eq_true rfl) ?_
      refine s_within (fun h6 => ?_) (fun h6 => ?_)
      · refine r_if_eq (tgt := 41) hC dX5_parted_29 rfl (fun h7 => by omega) (fun h7 => ?_)
        refine r_aload hC dX5_parted_32 rfl ?_
        refine z_getI (jz := 6) hM dX5_parted_34 fl_RX5_154 rfl rfl rfl (fun v8 h_v8 o_v8 t_v8 => ?_)
        have e_v8 : hl = v8 := ((t_v8 (Or.inr (Or.inl ⟨rfl, Or.inr (Or.inr rfl)⟩))).trans qg0).symm
        subst e_v8
        refine r_iload_n hC dX5_parted_37 rfl ?_
        refine r_icmp_ge (tgt := 44) hC dX5_parted_38 rfl (fun h9 => ?_) (fun h9 => ?_)
        · refine r_aload hC dX5_parted_44 rfl ?_
          refine z_getI (jz := 6) hM dX5_parted_46 fl_RX5_154 rfl rfl rfl (fun v10 h_v10 o_v10 t_v10 => ?_)
          have e_v10 : hl = v10 := ((t_v10 (Or.inr (Or.inl ⟨rfl, Or.inr (Or.inr rfl)⟩))).trans qg0).symm
          subst e_v10
          refine r_iconst hC dX5_parted_49 rfl ?_
          refine r_isubE hC ((hl - 1)) dX5_parted_50 (by omega) (by unfold inR; omega) ?_
          refine r_istore hC dX5_parted_51 rfl ?_
          have L53 : ∀ (n53 : Nat) (w11 : Int), -1 ≤ w11 ∧ w11 ≤ 119 → w11 + 1 < (n53 : Int) → K 53 [some (vR 2 0), some (vI l), some (vI r), some (vI w), some (vI x), some (vR 7 l), some (vI w11), none, none] [] σ := by
            intro n53
            induction n53 with
            | zero => intro w11  f_w11  hm ; omega
            | succ n53 ih53 =>
              intro w11  f_w11  hm53 
              refine r_iload hC dX5_parted_53 rfl ?_
              refine r_if_lt (tgt := 74) hC dX5_parted_55 rfl (fun h12 => ?_) (fun h12 => ?_)
              · refine r_aload_n hC dX5_parted_74 rfl ?_
                refine z_getR hM dX5_parted_75 fl_RX5_53 rfl rfl (vld_of (n := 1) rfl (by omega) (by omega)) ?_
                refine r_iload_n hC dX5_parted_78 rfl ?_
                refine z_aald hM dX5_parted_79 rfl (by decide) (by omega) (by omega) (vld_of (n := 5) rfl (by omega) (by omega)) ?_
                refine r_iconst hC dX5_parted_80 rfl ?_
                refine z_iald hM dX5_parted_81 rfl (by omega) (by omega) (fun v13 h_v13 o_v13 t_v13 => ?_)
                refine r_istore hC dX5_parted_82 rfl ?_
                refine r_iload hC dX5_parted_84 rfl ?_
                refine r_ldc hC dX5_parted_86 co_RX5_175 rfl ?_
                refine r_icmp_eq (tgt := 96) hC dX5_parted_88 rfl (fun h14 => ?_) (fun h14 => ?_)
                · refine r_iload hC dX5_parted_96 rfl ?_
                  refine y_iret hK rfl dX5_parted_98 ?_
                  exact k _ (by omega)
                · refine r_iload hC dX5_parted_91 rfl ?_
                  refine r_if_ne (tgt := 99) hC dX5_parted_93 rfl (fun h15 => ?_) (fun h15 => ?_)
                  · refine r_iconst hC dX5_parted_99 rfl ?_
                    refine r_istore hC dX5_parted_100 rfl ?_
                    refine r_iconst hC dX5_parted_102 rfl ?_
                    refine r_istore hC dX5_parted_103 rfl ?_
                    have L105 : ∀ (n105 : Nat) (w16 w17 : Int), 0 ≤ w16 ∧ w16 ≤ 120 → 1 ≤ w17 ∧ w17 ≤ 4 → 4 - w17 < (n105 : Int) → K 105 [some (vR 2 0), some (vI l), some (vI r), some (vI w), some (vI x), some (vR 7 l), some (vI v13), some (vI w16), some (vI w17)] [] σ := by
                      intro n105
                      induction n105 with
                      | zero => intro w16 w17  f_w16 f_w17  hm ; omega
                      | succ n105 ih105 =>
                        intro w16 w17  f_w16 f_w17  hm105 
                        refine r_iload hC dX5_parted_105 rfl ?_
                        refine r_iload hC dX5_parted_107 rfl ?_
                        refine r_icmp_ge (tgt := 134) hC dX5_parted_109 rfl (fun h18 => ?_) (fun h18 => ?_)
                        · refine r_iload hC dX5_parted_134 rfl ?_
                          refine y_iret hK rfl dX5_parted_136 ?_
                          exact k _ (by omega)
                        · refine r_aload_n hC dX5_parted_112 rfl ?_
                          refine z_getR hM dX5_parted_113 fl_RX5_56 rfl rfl (vld_of (n := 1) rfl (by omega) (by omega)) ?_
                          refine r_iload_n hC dX5_parted_116 rfl ?_
                          refine r_iload hC dX5_parted_117 rfl ?_
                          refine r_isubE hC ((r - w17)) dX5_parted_119 (by omega) (by unfold inR; omega) ?_
                          refine r_iconst hC dX5_parted_120 rfl ?_
                          refine r_iaddE hC (((r - w17) + 1)) dX5_parted_121 (by omega) (by unfold inR; omega) ?_
                          refine z_aald hM dX5_parted_122 rfl (by decide) (by omega) (by omega) (vld_of (n := 5) rfl (by omega) (by omega)) ?_
                          refine r_iload hC dX5_parted_123 rfl ?_
                          refine z_iald hM dX5_parted_125 rfl (by omega) (by omega) (fun v19 h_v19 o_v19 t_v19 => ?_)
                          have q_v19 : 0 ≤ v19 ∧ v19 ≤ 120 := o_v19
                          refine r_istore hC dX5_parted_126 rfl ?_
                          refine r_iincE hC ((w17 + 1)) dX5_parted_128 rfl rfl (by omega) (by unfold inR; omega) ?_
                          refine r_goto (tgt := 105) hC dX5_parted_131 rfl ?_
                          exact ih105 (v19) ((w17 + 1))  (by omega) (by omega)  (by omega) 
                    exact L105 5 (0) (1)  (by omega) (by omega)  (by omega) 
                  · refine r_iload hC dX5_parted_96 rfl ?_
                    refine y_iret hK rfl dX5_parted_98 ?_
                    exact k _ (by omega)
              · refine r_aload_n hC dX5_parted_58 rfl ?_
                refine r_aload hC dX5_parted_59 rfl ?_
                refine r_iload hC dX5_parted_61 rfl ?_
                refine r_iload_n hC dX5_parted_63 rfl ?_
                refine r_iload_n hC dX5_parted_64 rfl ?_
                refine z_inv4 hM dX5_parted_65 vl_RX5_345 rfl rfl rfl (Nat.le_of_ble_eq_true rfl) (Nat.le_of_ble_eq_true rfl) ?_
                refine s_partFrom (h := hl) (by omega) (by omega) (by omega) (by omega) (by have hq := qg0; omega) ?_
                refine r_iincE hC ((w11 - 1)) dX5_parted_68 rfl rfl (by omega) (by unfold inR; omega) ?_
                refine r_goto (tgt := 53) hC dX5_parted_71 rfl ?_
                exact ih53 ((w11 - 1))  (by omega)  (by omega) 
          exact L53 122 ((hl - 1))  (by omega)  (by omega) 
        · refine r_ldc hC dX5_parted_41 co_RX5_175 rfl ?_
          refine y_iret hK rfl dX5_parted_43 ?_
          exact k _ (by omega)
      · refine r_if_eq (tgt := 41) hC dX5_parted_29 rfl (fun h20 => ?_) (fun h20 => by omega)
        refine r_ldc hC dX5_parted_41 co_RX5_175 rfl ?_
        refine y_iret hK rfl dX5_parted_43 ?_
        exact k _ (by omega)
    · refine r_if_eq (tgt := 41) hC dX5_parted_19 rfl (fun h21 => ?_) (fun h21 => by omega)
      refine r_ldc hC dX5_parted_41 co_RX5_175 rfl ?_
      refine y_iret hK rfl dX5_parted_43 ?_
      exact k _ (by omega)
theorem s_parted {eb : Bool} {d : Nat} {P : Option Vl → Mm → Prop} {σ : Mm} {l r w x : Int} (k : ∀ r : Int, -2147483648 ≤ r ∧ r ≤ 2147483647 → P (some (vI r)) σ) : WT (false, false, eb) (d + 5) 112 [vR 2 0, vI l, vI r, vI w, vI x] σ P := by
  refine WT_loose (true, false, eb) (fun h => by cases h) (fun h => h) (fun c j q => ?_) (fun ρ hL hF hT hO => ?_)
  · rcases q with q | q | q | q
    · exact Or.inl q
    · cases q.1
    · cases q.1
    · exact Or.inr (Or.inr (Or.inr q))
  · exact s_parted_S (qg0 := rfl) (hL rfl) (fun r hr => ⟨σ, k r hr, fun _ => Or.inr (hL rfl), fun _ => Or.inl rfl, fun c i j q => hT c i j q⟩)
