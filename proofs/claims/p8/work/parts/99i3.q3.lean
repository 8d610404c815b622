-- the fold's steps
def FS (σ ρ : Mm) : Prop := ∀ (c : Nat) (i j : Int), ¬ (c = 17 ∧ i = 0 ∧ j = 0) → ρ c i j = σ c i j
theorem FS.rf {σ : Mm} : FS σ σ := fun _ _ _ _ => rfl
theorem FS.trans {σ ρ τ : Mm} (h : FS σ ρ) (g : FS ρ τ) : FS σ τ := fun c i j q => (g c i j q).trans (h c i j q)
theorem z_iastF {e : Ev} {cc : ByteArray} {own : String} {Cal : Nat → List Vl → Mm → (Option Vl → Mm → Prop) → Prop} {K : Nat → Lc → List Vl → Mm → Prop} (hK : StpZ e cc own Cal K) (he : e.2.1 = true) (he1 : e.1 = false) {pc : Nat} {ls : Lc} {st : List Vl} {σ : Mm} {j a : Int} (hd : decode cc pc = .ok (.iastore, 1)) (h0 : 0 ≤ j) (h1 : j < 7) (k_ : ∀ ρ : Mm, FS σ ρ → K (pc + 1) ls st ρ) : K pc ls (vI a :: vI j :: vR 17 0 :: st) σ := by
  by_cases hj : j = 0
  · subst hj
    exact z_iastT hK hd rfl h0 h1 ⟨Or.inr (by simp [DL]), Or.inl he⟩ (by simp [Okv]) (k_ _ (fun c i j h => mu_ne h))
  · exact z_iastU hK hd rfl h0 h1 ⟨by simp [Tb], by simp [DL], hj, Or.inr (by simp [DR]), Or.inr (by simp [DX, he1])⟩ (by simp [Okv]) (k_ _ FS.rf)
theorem qs_floorMod {e : Ev} {d : Nat} {P : Option Vl → Mm → Prop} {σ : Mm} {a b : Int} (b_b : 1 ≤ b ∧ b ≤ 1000)  (k : ∀ r : Int, 0 ≤ r ∧ r ≤ b - 1 → P (some (vI r)) σ) : WT e (d + 1) 262 [vI a, vI b] σ P := by
  refine WT_in fun K hK => ?_
  have hK : StpY e cJ9_floorMod_7cf53 RJ9 (some .int) (WT e (d + 0)) P K := hK
  have hM := hK.1
  have hC := hK.1.1
  show K 0 [some (vI a), some (vI b), none] [] σ
  refine r_rngz hC (fun g0 => ?_)
  have r_a : -2147483648 ≤ a ∧ a ≤ 2147483647 := inR_le (g0 (vI a) (by simp))
  refine r_iload_n hC dJ9_floorMod_7cf53_0 rfl ?_
  refine r_iload_n hC dJ9_floorMod_7cf53_1 rfl ?_
  refine r_iremG hC dJ9_floorMod_7cf53_2 (by omega) (fun v1 h_v1 p_v1 m_v1 => ?_)
  refine r_istore_n hC dJ9_floorMod_7cf53_3 rfl ?_
  refine r_iload_n hC dJ9_floorMod_7cf53_4 rfl ?_
  refine r_iload_n hC dJ9_floorMod_7cf53_5 rfl ?_
  refine r_ixorS hC dJ9_floorMod_7cf53_6 (by omega) (by omega) (fun v2 h_v2 s_v2 => ?_)
  refine r_if_ge (tgt := 18) hC dJ9_floorMod_7cf53_7 rfl (fun h3 => ?_) (fun h3 => ?_)
  · refine r_iload_n hC dJ9_floorMod_7cf53_18 rfl ?_
    refine y_iret hK rfl dJ9_floorMod_7cf53_19 ?_
    exact k _ (by omega)
  · refine r_iload_n hC dJ9_floorMod_7cf53_10 rfl ?_
    refine r_if_eq (tgt := 18) hC dJ9_floorMod_7cf53_11 rfl (fun h4 => ?_) (fun h4 => ?_)
    · refine r_iload_n hC dJ9_floorMod_7cf53_18 rfl ?_
      refine y_iret hK rfl dJ9_floorMod_7cf53_19 ?_
      exact k _ (by omega)
    · refine r_iload_n hC dJ9_floorMod_7cf53_14 rfl ?_
      refine r_iload_n hC dJ9_floorMod_7cf53_15 rfl ?_
      refine r_iaddE hC ((v1 + b)) dJ9_floorMod_7cf53_16 (by omega) (by unfold inR; omega) ?_
      refine y_iret hK rfl dJ9_floorMod_7cf53_17 ?_
      exact k _ (by omega)
theorem qs_addGreatest {eb : Bool} {d : Nat} {P : Option Vl → Mm → Prop} {σ : Mm} {v : Int} (b_v : -1000 ≤ v ∧ v ≤ 1000)  (k : ∀ ρ : Mm, FS σ ρ → P none ρ) : WT (false, true, eb) (d + 1) 15 [vR 14 0, vI v] σ P := by
  refine WT_in fun K hK => ?_
  have hK : StpY (false, true, eb) cX1_addGreatest RX1 (none) (WT (false, true, eb) (d + 0)) P K := hK
  have hM := hK.1
  have hC := hK.1.1
  show K 0 [some (vR 14 0), some (vI v)] [] σ
  refine r_aload_n hC dX1_addGreatest_0 rfl ?_
  refine z_getI (jz := 6) hM dX1_addGreatest_1 fl_RX1_34 rfl rfl rfl (fun v1 h_v1 o_v1 t_v1 => ?_)
  have J64_2 : ∀ (ρ4 : Mm), FS σ ρ4 → K 64 [some (vR 14 0), some (vI v)] [] ρ4 := by
    intro  ρ4  g_ρ4
    refine r_aload_n hC dX1_addGreatest_64 rfl ?_
    refine z_getR hM dX1_addGreatest_65 fl_RX1_24 rfl rfl (vld_of (n := 1) rfl (by omega) (by omega)) ?_
    refine r_iconst hC dX1_addGreatest_68 rfl ?_
    refine r_aload_n hC dX1_addGreatest_69 rfl ?_
    refine z_getI (jz := 6) hM dX1_addGreatest_70 fl_RX1_34 rfl rfl rfl (fun v5 h_v5 o_v5 t_v5 => ?_)
    refine r_iconst hC dX1_addGreatest_73 rfl ?_
    refine r_iaddG hC dX1_addGreatest_74 (fun v6 h_v6 => ?_)
    refine z_iastF hM rfl rfl dX1_addGreatest_75 (by omega) (by omega) (fun ρ7 g_ρ7 => ?_)
    refine y_vret hK rfl dX1_addGreatest_76 ?_
    exact k _ (FS.trans (g_ρ4) g_ρ7)
  refine r_if_eq (tgt := 17) hC dX1_addGreatest_4 rfl (fun h2 => ?_) (fun h2 => ?_)
  · refine r_aload_n hC dX1_addGreatest_17 rfl ?_
    refine z_getR hM dX1_addGreatest_18 fl_RX1_24 rfl rfl (vld_of (n := 1) rfl (by omega) (by omega)) ?_
    refine r_iconst hC dX1_addGreatest_21 rfl ?_
    refine r_iload_n hC dX1_addGreatest_22 rfl ?_
    refine z_iastF hM rfl rfl dX1_addGreatest_23 (by omega) (by omega) (fun ρ8 g_ρ8 => ?_)
    refine r_aload_n hC dX1_addGreatest_24 rfl ?_
    refine z_getR hM dX1_addGreatest_25 fl_RX1_24 rfl rfl (vld_of (n := 1) rfl (by omega) (by omega)) ?_
    refine r_iconst hC dX1_addGreatest_28 rfl ?_
    refine r_iconst hC dX1_addGreatest_29 rfl ?_
    refine z_iastF hM rfl rfl dX1_addGreatest_30 (by omega) (by omega) (fun ρ9 g_ρ9 => ?_)
    refine r_aload_n hC dX1_addGreatest_31 rfl ?_
    refine z_getR hM dX1_addGreatest_32 fl_RX1_24 rfl rfl (vld_of (n := 1) rfl (by omega) (by omega)) ?_
    refine r_iconst hC dX1_addGreatest_35 rfl ?_
    refine r_aload_n hC dX1_addGreatest_36 rfl ?_
    refine z_getI (jz := 6) hM dX1_addGreatest_37 fl_RX1_34 rfl rfl rfl (fun v10 h_v10 o_v10 t_v10 => ?_)
    refine z_iastF hM rfl rfl dX1_addGreatest_40 (by omega) (by omega) (fun ρ11 g_ρ11 => ?_)
    refine r_goto (tgt := 64) hC dX1_addGreatest_41 rfl ?_
    exact J64_2  ρ11  (FS.trans (FS.trans (FS.trans (FS.rf) g_ρ8) g_ρ9) g_ρ11)
  · refine r_iload_n hC dX1_addGreatest_7 rfl ?_
    refine r_aload_n hC dX1_addGreatest_8 rfl ?_
    refine z_getR hM dX1_addGreatest_9 fl_RX1_24 rfl rfl (vld_of (n := 1) rfl (by omega) (by omega)) ?_
    refine r_iconst hC dX1_addGreatest_12 rfl ?_
    refine z_iald hM dX1_addGreatest_13 rfl (by omega) (by omega) (fun v12 h_v12 o_v12 t_v12 => ?_)
    refine r_icmp_le (tgt := 44) hC dX1_addGreatest_14 rfl (fun h13 => ?_) (fun h13 => ?_)
    · refine r_iload_n hC dX1_addGreatest_44 rfl ?_
      refine r_aload_n hC dX1_addGreatest_45 rfl ?_
      refine z_getR hM dX1_addGreatest_46 fl_RX1_24 rfl rfl (vld_of (n := 1) rfl (by omega) (by omega)) ?_
      refine r_iconst hC dX1_addGreatest_49 rfl ?_
      refine z_iald hM dX1_addGreatest_50 rfl (by omega) (by omega) (fun v14 h_v14 o_v14 t_v14 => ?_)
      refine r_icmp_ne (tgt := 64) hC dX1_addGreatest_51 rfl (fun h15 => ?_) (fun h15 => ?_)
      · exact J64_2  σ  (FS.rf)
      · refine r_aload_n hC dX1_addGreatest_54 rfl ?_
        refine z_getR hM dX1_addGreatest_55 fl_RX1_24 rfl rfl (vld_of (n := 1) rfl (by omega) (by omega)) ?_
        refine r_iconst hC dX1_addGreatest_58 rfl ?_
        refine r_dup2 hC dX1_addGreatest_59 rfl rfl ?_
        refine z_iald hM dX1_addGreatest_60 rfl (by omega) (by omega) (fun v16 h_v16 o_v16 t_v16 => ?_)
        refine r_iconst hC dX1_addGreatest_61 rfl ?_
        refine r_iaddG hC dX1_addGreatest_62 (fun v17 h_v17 => ?_)
        refine z_iastF hM rfl rfl dX1_addGreatest_63 (by omega) (by omega) (fun ρ18 g_ρ18 => ?_)
        exact J64_2  ρ18  (FS.trans (FS.rf) g_ρ18)
    · refine r_aload_n hC dX1_addGreatest_17 rfl ?_
      refine z_getR hM dX1_addGreatest_18 fl_RX1_24 rfl rfl (vld_of (n := 1) rfl (by omega) (by omega)) ?_
      refine r_iconst hC dX1_addGreatest_21 rfl ?_
      refine r_iload_n hC dX1_addGreatest_22 rfl ?_
      refine z_iastF hM rfl rfl dX1_addGreatest_23 (by omega) (by omega) (fun ρ19 g_ρ19 => ?_)
      refine r_aload_n hC dX1_addGreatest_24 rfl ?_
      refine z_getR hM dX1_addGreatest_25 fl_RX1_24 rfl rfl (vld_of (n := 1) rfl (by omega) (by omega)) ?_
      refine r_iconst hC dX1_addGreatest_28 rfl ?_
      refine r_iconst hC dX1_addGreatest_29 rfl ?_
      refine z_iastF hM rfl rfl dX1_addGreatest_30 (by omega) (by omega) (fun ρ20 g_ρ20 => ?_)
      refine r_aload_n hC dX1_addGreatest_31 rfl ?_
      refine z_getR hM dX1_addGreatest_32 fl_RX1_24 rfl rfl (vld_of (n := 1) rfl (by omega) (by omega)) ?_
      refine r_iconst hC dX1_addGreatest_35 rfl ?_
      refine r_aload_n hC dX1_addGreatest_36 rfl ?_
      refine z_getI (jz := 6) hM dX1_addGreatest_37 fl_RX1_34 rfl rfl rfl (fun v21 h_v21 o_v21 t_v21 => ?_)
      refine z_iastF hM rfl rfl dX1_addGreatest_40 (by omega) (by omega) (fun ρ22 g_ρ22 => ?_)
      refine r_goto (tgt := 64) hC dX1_addGreatest_41 rfl ?_
      exact J64_2  ρ22  (FS.trans (FS.trans (FS.trans (FS.rf) g_ρ19) g_ρ20) g_ρ22)
theorem qs_addRun {eb : Bool} {d : Nat} {P : Option Vl → Mm → Prop} {σ : Mm} {v : Int} (b_v : -1000 ≤ v ∧ v ≤ 1000)  (k : ∀ ρ : Mm, FS σ ρ → P none ρ) : WT (false, true, eb) (d + 2) 18 [vR 14 0, vI v] σ P := by
  refine WT_in fun K hK => ?_
  have hK : StpY (false, true, eb) cX1_addRun RX1 (none) (WT (false, true, eb) (d + 1)) P K := hK
  have hM := hK.1
  have hC := hK.1.1
  show K 0 [some (vR 14 0), some (vI v), none] [] σ
  refine r_aload_n hC dX1_addRun_0 rfl ?_
  refine z_getI (jz := 6) hM dX1_addRun_1 fl_RX1_34 rfl rfl rfl (fun v1 h_v1 o_v1 t_v1 => ?_)
  have J12_3 : ∀ (w3 : Int), ∀ (ρ5 : Mm), 0 ≤ w3 ∧ w3 ≤ 1 → FS σ ρ5 → K 12 [some (vR 14 0), some (vI v), none] [vI w3] ρ5 := by
    intro w3 ρ5 f_w3 g_ρ5
    refine r_istore_n hC dX1_addRun_12 rfl ?_
    refine r_aload_n hC dX1_addRun_13 rfl ?_
    refine z_getR hM dX1_addRun_14 fl_RX1_24 rfl rfl (vld_of (n := 1) rfl (by omega) (by omega)) ?_
    refine r_iconst hC dX1_addRun_17 rfl ?_
    refine r_dup2 hC dX1_addRun_18 rfl rfl ?_
    refine z_iald hM dX1_addRun_19 rfl (by omega) (by omega) (fun v6 h_v6 o_v6 t_v6 => ?_)
    refine r_iload_n hC dX1_addRun_20 rfl ?_
    refine r_iaddG hC dX1_addRun_21 (fun v7 h_v7 => ?_)
    refine z_iastF hM rfl rfl dX1_addRun_22 (by omega) (by omega) (fun ρ8 g_ρ8 => ?_)
    refine r_aload_n hC dX1_addRun_23 rfl ?_
    refine z_getR hM dX1_addRun_24 fl_RX1_24 rfl rfl (vld_of (n := 1) rfl (by omega) (by omega)) ?_
    refine r_iconst hC dX1_addRun_27 rfl ?_
    refine r_iload_n hC dX1_addRun_28 rfl ?_
    have J51_10 : ∀ (w10 : Int), ∀ (ρ12 : Mm), -2147483648 ≤ w10 ∧ w10 ≤ 2147483647 → FS σ ρ12 → K 51 [some (vR 14 0), some (vI v), some (vI w3)] [vI w10, vI 2, vR 17 0] ρ12 := by
      intro w10 ρ12 f_w10 g_ρ12
      refine z_iastF hM rfl rfl dX1_addRun_51 (by omega) (by omega) (fun ρ13 g_ρ13 => ?_)
      refine r_aload_n hC dX1_addRun_52 rfl ?_
      refine z_getR hM dX1_addRun_53 fl_RX1_24 rfl rfl (vld_of (n := 1) rfl (by omega) (by omega)) ?_
      refine r_iconst hC dX1_addRun_56 rfl ?_
      refine r_iload_n hC dX1_addRun_57 rfl ?_
      have J77_15 : ∀ (w15 : Int), ∀ (ρ17 : Mm), -2147483648 ≤ w15 ∧ w15 ≤ 2147483647 → FS σ ρ17 → K 77 [some (vR 14 0), some (vI v), some (vI w3)] [vI w15, vI 3, vR 17 0] ρ17 := by
        intro w15 ρ17 f_w15 g_ρ17
        refine z_iastF hM rfl rfl dX1_addRun_77 (by omega) (by omega) (fun ρ18 g_ρ18 => ?_)
        refine r_aload_n hC dX1_addRun_78 rfl ?_
        refine z_getR hM dX1_addRun_79 fl_RX1_24 rfl rfl (vld_of (n := 1) rfl (by omega) (by omega)) ?_
        refine r_iconst hC dX1_addRun_82 rfl ?_
        refine r_iload_n hC dX1_addRun_83 rfl ?_
        have J106_20 : ∀ (w20 : Int), ∀ (ρ22 : Mm), -2147483648 ≤ w20 ∧ w20 ≤ 2147483647 → FS σ ρ22 → K 106 [some (vR 14 0), some (vI v), some (vI w3)] [vI w20, vI 0, vR 17 0] ρ22 := by
          intro w20 ρ22 f_w20 g_ρ22
          refine z_iastF hM rfl rfl dX1_addRun_106 (by omega) (by omega) (fun ρ23 g_ρ23 => ?_)
          refine y_vret hK rfl dX1_addRun_107 ?_
          exact k _ (FS.trans (g_ρ22) g_ρ23)
        refine r_if_eq (tgt := 91) hC dX1_addRun_84 rfl (fun h19 => ?_) (fun h19 => ?_)
        · refine r_aload_n hC dX1_addRun_91 rfl ?_
          refine z_getR hM dX1_addRun_92 fl_RX1_24 rfl rfl (vld_of (n := 1) rfl (by omega) (by omega)) ?_
          refine r_iconst hC dX1_addRun_95 rfl ?_
          refine z_iald hM dX1_addRun_96 rfl (by omega) (by omega) (fun v24 h_v24 o_v24 t_v24 => ?_)
          refine r_aload_n hC dX1_addRun_97 rfl ?_
          refine z_getR hM dX1_addRun_98 fl_RX1_24 rfl rfl (vld_of (n := 1) rfl (by omega) (by omega)) ?_
          refine r_iconst hC dX1_addRun_101 rfl ?_
          refine z_iald hM dX1_addRun_102 rfl (by omega) (by omega) (fun v25 h_v25 o_v25 t_v25 => ?_)
          refine z_ins2 hM dX1_addRun_103 tl_RX1_97 rfl (Nat.le_of_ble_eq_true rfl) (Nat.le_of_ble_eq_true rfl) ?_
          refine qs_max (fun v26 h_v26 => ?_)
          exact J106_20 (v26) ρ18 (by omega) (FS.trans (g_ρ17) g_ρ18)
        · refine r_iload_n hC dX1_addRun_87 rfl ?_
          refine r_goto (tgt := 106) hC dX1_addRun_88 rfl ?_
          exact J106_20 (v) ρ18 (by omega) (FS.trans (g_ρ17) g_ρ18)
      refine r_if_eq (tgt := 65) hC dX1_addRun_58 rfl (fun h14 => ?_) (fun h14 => ?_)
      · refine r_aload_n hC dX1_addRun_65 rfl ?_
        refine z_getR hM dX1_addRun_66 fl_RX1_24 rfl rfl (vld_of (n := 1) rfl (by omega) (by omega)) ?_
        refine r_iconst hC dX1_addRun_69 rfl ?_
        refine z_iald hM dX1_addRun_70 rfl (by omega) (by omega) (fun v27 h_v27 o_v27 t_v27 => ?_)
        refine r_iload_n hC dX1_addRun_71 rfl ?_
        refine r_iaddG hC dX1_addRun_72 (fun v28 h_v28 => ?_)
        refine r_iload_n hC dX1_addRun_73 rfl ?_
        refine z_ins2 hM dX1_addRun_74 tl_RX1_97 rfl (Nat.le_of_ble_eq_true rfl) (Nat.le_of_ble_eq_true rfl) ?_
        refine qs_max (fun v29 h_v29 => ?_)
        exact J77_15 (v29) ρ13 (by omega) (FS.trans (g_ρ12) g_ρ13)
      · refine r_iload_n hC dX1_addRun_61 rfl ?_
        refine r_goto (tgt := 77) hC dX1_addRun_62 rfl ?_
        exact J77_15 (v) ρ13 (by omega) (FS.trans (g_ρ12) g_ρ13)
    refine r_if_eq (tgt := 36) hC dX1_addRun_29 rfl (fun h9 => ?_) (fun h9 => ?_)
    · refine r_aload_n hC dX1_addRun_36 rfl ?_
      refine z_getR hM dX1_addRun_37 fl_RX1_24 rfl rfl (vld_of (n := 1) rfl (by omega) (by omega)) ?_
      refine r_iconst hC dX1_addRun_40 rfl ?_
      refine z_iald hM dX1_addRun_41 rfl (by omega) (by omega) (fun v30 h_v30 o_v30 t_v30 => ?_)
      refine r_aload_n hC dX1_addRun_42 rfl ?_
      refine z_getR hM dX1_addRun_43 fl_RX1_24 rfl rfl (vld_of (n := 1) rfl (by omega) (by omega)) ?_
      refine r_iconst hC dX1_addRun_46 rfl ?_
      refine z_iald hM dX1_addRun_47 rfl (by omega) (by omega) (fun v31 h_v31 o_v31 t_v31 => ?_)
      refine z_ins2 hM dX1_addRun_48 tl_RX1_97 rfl (Nat.le_of_ble_eq_true rfl) (Nat.le_of_ble_eq_true rfl) ?_
      refine qs_max (fun v32 h_v32 => ?_)
      exact J51_10 (v32) ρ8 (by omega) (FS.trans (g_ρ5) g_ρ8)
    · refine r_iload_n hC dX1_addRun_32 rfl ?_
      refine r_goto (tgt := 51) hC dX1_addRun_33 rfl ?_
      exact J51_10 (v) ρ8 (by omega) (FS.trans (g_ρ5) g_ρ8)
  refine r_if_ne (tgt := 11) hC dX1_addRun_4 rfl (fun h2 => ?_) (fun h2 => ?_)
  · refine r_iconst hC dX1_addRun_11 rfl ?_
    exact J12_3 (0) σ (by omega) (FS.rf)
  · refine r_iconst hC dX1_addRun_7 rfl ?_
    refine r_goto (tgt := 12) hC dX1_addRun_8 rfl ?_
    exact J12_3 (1) σ (by omega) (FS.rf)
theorem qs_addNest {eb : Bool} {d : Nat} {P : Option Vl → Mm → Prop} {σ : Mm} {v : Int} (b_v : -1000 ≤ v ∧ v ≤ 1000)  (k : ∀ ρ : Mm, FS σ ρ → P none ρ) : WT (false, true, eb) (d + 2) 20 [vR 14 0, vI v] σ P := by
  refine WT_in fun K hK => ?_
  have hK : StpY (false, true, eb) cX1_addNest RX1 (none) (WT (false, true, eb) (d + 1)) P K := hK
  have hM := hK.1
  have hC := hK.1.1
  show K 0 [some (vR 14 0), some (vI v)] [] σ
  refine r_iload_n hC dX1_addNest_0 rfl ?_
  have J59_1 : ∀ (ρ3 : Mm), FS σ ρ3 → K 59 [some (vR 14 0), some (vI v)] [] ρ3 := by
    intro  ρ3  g_ρ3
    refine r_aload_n hC dX1_addNest_59 rfl ?_
    refine z_getR hM dX1_addNest_60 fl_RX1_24 rfl rfl (vld_of (n := 1) rfl (by omega) (by omega)) ?_
    refine r_iconst hC dX1_addNest_63 rfl ?_
    refine r_aload_n hC dX1_addNest_64 rfl ?_
    refine z_getR hM dX1_addNest_65 fl_RX1_24 rfl rfl (vld_of (n := 1) rfl (by omega) (by omega)) ?_
    refine r_iconst hC dX1_addNest_68 rfl ?_
    refine z_iald hM dX1_addNest_69 rfl (by omega) (by omega) (fun v4 h_v4 o_v4 t_v4 => ?_)
    refine r_aload_n hC dX1_addNest_70 rfl ?_
    refine z_getR hM dX1_addNest_71 fl_RX1_24 rfl rfl (vld_of (n := 1) rfl (by omega) (by omega)) ?_
    refine r_iconst hC dX1_addNest_74 rfl ?_
    refine z_iald hM dX1_addNest_75 rfl (by omega) (by omega) (fun v5 h_v5 o_v5 t_v5 => ?_)
    refine r_aload_n hC dX1_addNest_76 rfl ?_
    refine z_getR hM dX1_addNest_77 fl_RX1_24 rfl rfl (vld_of (n := 1) rfl (by omega) (by omega)) ?_
    refine r_iconst hC dX1_addNest_80 rfl ?_
    refine z_iald hM dX1_addNest_81 rfl (by omega) (by omega) (fun v6 h_v6 o_v6 t_v6 => ?_)
    refine r_isubG hC dX1_addNest_82 (fun v7 h_v7 => ?_)
    refine z_ins2 hM dX1_addNest_83 tl_RX1_97 rfl (Nat.le_of_ble_eq_true rfl) (Nat.le_of_ble_eq_true rfl) ?_
    refine qs_max (fun v8 h_v8 => ?_)
    refine z_iastF hM rfl rfl dX1_addNest_86 (by omega) (by omega) (fun ρ9 g_ρ9 => ?_)
    refine y_vret hK rfl dX1_addNest_87 ?_
    exact k _ (FS.trans (g_ρ3) g_ρ9)
  refine r_if_lt (tgt := 17) hC dX1_addNest_1 rfl (fun h1 => ?_) (fun h1 => ?_)
  · refine r_aload_n hC dX1_addNest_17 rfl ?_
    refine z_getR hM dX1_addNest_18 fl_RX1_24 rfl rfl (vld_of (n := 1) rfl (by omega) (by omega)) ?_
    refine r_iconst hC dX1_addNest_21 rfl ?_
    refine z_iald hM dX1_addNest_22 rfl (by omega) (by omega) (fun v10 h_v10 o_v10 t_v10 => ?_)
    refine r_if_le (tgt := 49) hC dX1_addNest_23 rfl (fun h11 => ?_) (fun h11 => ?_)
    · refine r_aload_n hC dX1_addNest_49 rfl ?_
      refine z_getR hM dX1_addNest_50 fl_RX1_24 rfl rfl (vld_of (n := 1) rfl (by omega) (by omega)) ?_
      refine r_iconst hC dX1_addNest_53 rfl ?_
      refine r_dup2 hC dX1_addNest_54 rfl rfl ?_
      refine z_iald hM dX1_addNest_55 rfl (by omega) (by omega) (fun v12 h_v12 o_v12 t_v12 => ?_)
      refine r_iconst hC dX1_addNest_56 rfl ?_
      refine r_iaddG hC dX1_addNest_57 (fun v13 h_v13 => ?_)
      refine z_iastF hM rfl rfl dX1_addNest_58 (by omega) (by omega) (fun ρ14 g_ρ14 => ?_)
      exact J59_1  ρ14  (FS.trans (FS.rf) g_ρ14)
    · refine r_aload_n hC dX1_addNest_26 rfl ?_
      refine z_getR hM dX1_addNest_27 fl_RX1_24 rfl rfl (vld_of (n := 1) rfl (by omega) (by omega)) ?_
      refine r_iconst hC dX1_addNest_30 rfl ?_
      refine r_dup2 hC dX1_addNest_31 rfl rfl ?_
      refine z_iald hM dX1_addNest_32 rfl (by omega) (by omega) (fun v15 h_v15 o_v15 t_v15 => ?_)
      refine r_iconst hC dX1_addNest_33 rfl ?_
      refine r_isubG hC dX1_addNest_34 (fun v16 h_v16 => ?_)
      refine z_iastF hM rfl rfl dX1_addNest_35 (by omega) (by omega) (fun ρ17 g_ρ17 => ?_)
      refine r_aload_n hC dX1_addNest_36 rfl ?_
      refine z_getR hM dX1_addNest_37 fl_RX1_24 rfl rfl (vld_of (n := 1) rfl (by omega) (by omega)) ?_
      refine r_iconst hC dX1_addNest_40 rfl ?_
      refine r_dup2 hC dX1_addNest_41 rfl rfl ?_
      refine z_iald hM dX1_addNest_42 rfl (by omega) (by omega) (fun v18 h_v18 o_v18 t_v18 => ?_)
      refine r_iconst hC dX1_addNest_43 rfl ?_
      refine r_iaddG hC dX1_addNest_44 (fun v19 h_v19 => ?_)
      refine z_iastF hM rfl rfl dX1_addNest_45 (by omega) (by omega) (fun ρ20 g_ρ20 => ?_)
      refine r_goto (tgt := 59) hC dX1_addNest_46 rfl ?_
      exact J59_1  ρ20  (FS.trans (FS.trans (FS.rf) g_ρ17) g_ρ20)
  · refine r_aload_n hC dX1_addNest_4 rfl ?_
    refine z_getR hM dX1_addNest_5 fl_RX1_24 rfl rfl (vld_of (n := 1) rfl (by omega) (by omega)) ?_
    refine r_iconst hC dX1_addNest_8 rfl ?_
    refine r_dup2 hC dX1_addNest_9 rfl rfl ?_
    refine z_iald hM dX1_addNest_10 rfl (by omega) (by omega) (fun v21 h_v21 o_v21 t_v21 => ?_)
    refine r_iconst hC dX1_addNest_11 rfl ?_
    refine r_iaddG hC dX1_addNest_12 (fun v22 h_v22 => ?_)
    refine z_iastF hM rfl rfl dX1_addNest_13 (by omega) (by omega) (fun ρ23 g_ρ23 => ?_)
    refine r_goto (tgt := 59) hC dX1_addNest_14 rfl ?_
    exact J59_1  ρ23  (FS.trans (FS.rf) g_ρ23)
theorem qs_addLike {eb : Bool} {d : Nat} {P : Option Vl → Mm → Prop} {σ : Mm} {v : Int} (b_v : -1000 ≤ v ∧ v ≤ 1000)  (k : ∀ ρ : Mm, FS σ ρ → P none ρ) : WT (false, true, eb) (d + 1) 21 [vR 14 0, vI v] σ P := by
  refine WT_in fun K hK => ?_
  have hK : StpY (false, true, eb) cX1_addLike RX1 (none) (WT (false, true, eb) (d + 0)) P K := hK
  have hM := hK.1
  have hC := hK.1.1
  show K 0 [some (vR 14 0), some (vI v)] [] σ
  refine r_aload_n hC dX1_addLike_0 rfl ?_
  refine z_getI (jz := 6) hM dX1_addLike_1 fl_RX1_34 rfl rfl rfl (fun v1 h_v1 o_v1 t_v1 => ?_)
  have J48_2 : ∀ (ρ4 : Mm), FS σ ρ4 → K 48 [some (vR 14 0), some (vI v)] [] ρ4 := by
    intro  ρ4  g_ρ4
    refine r_aload_n hC dX1_addLike_48 rfl ?_
    refine z_getI (jz := 6) hM dX1_addLike_49 fl_RX1_34 rfl rfl rfl (fun v5 h_v5 o_v5 t_v5 => ?_)
    have J62_6 : ∀ (ρ8 : Mm), FS σ ρ8 → K 62 [some (vR 14 0), some (vI v)] [] ρ8 := by
      intro  ρ8  g_ρ8
      refine r_aload_n hC dX1_addLike_62 rfl ?_
      refine z_getR hM dX1_addLike_63 fl_RX1_24 rfl rfl (vld_of (n := 1) rfl (by omega) (by omega)) ?_
      refine r_iconst hC dX1_addLike_66 rfl ?_
      refine z_iald hM dX1_addLike_67 rfl (by omega) (by omega) (fun v9 h_v9 o_v9 t_v9 => ?_)
      refine r_iconst hC dX1_addLike_68 rfl ?_
      have J84_10 : ∀ (ρ12 : Mm), FS σ ρ12 → K 84 [some (vR 14 0), some (vI v)] [] ρ12 := by
        intro  ρ12  g_ρ12
        refine r_aload_n hC dX1_addLike_84 rfl ?_
        refine z_getR hM dX1_addLike_85 fl_RX1_24 rfl rfl (vld_of (n := 1) rfl (by omega) (by omega)) ?_
        refine r_iconst hC dX1_addLike_88 rfl ?_
        refine z_iald hM dX1_addLike_89 rfl (by omega) (by omega) (fun v13 h_v13 o_v13 t_v13 => ?_)
        refine r_aload_n hC dX1_addLike_90 rfl ?_
        refine z_getR hM dX1_addLike_91 fl_RX1_24 rfl rfl (vld_of (n := 1) rfl (by omega) (by omega)) ?_
        refine r_iconst hC dX1_addLike_94 rfl ?_
        refine z_iald hM dX1_addLike_95 rfl (by omega) (by omega) (fun v14 h_v14 o_v14 t_v14 => ?_)
        have J118_15 : ∀ (ρ17 : Mm), FS σ ρ17 → K 118 [some (vR 14 0), some (vI v)] [] ρ17 := by
          intro  ρ17  g_ρ17
          refine r_aload_n hC dX1_addLike_118 rfl ?_
          refine z_getR hM dX1_addLike_119 fl_RX1_24 rfl rfl (vld_of (n := 1) rfl (by omega) (by omega)) ?_
          refine r_bipush hC dX1_addLike_122 rfl ?_
          refine r_iload_n hC dX1_addLike_124 rfl ?_
          refine z_iastF hM rfl rfl dX1_addLike_125 (by omega) (by omega) (fun ρ18 g_ρ18 => ?_)
          refine y_vret hK rfl dX1_addLike_126 ?_
          exact k _ (FS.trans (g_ρ17) g_ρ18)
        refine r_icmp_le (tgt := 118) hC dX1_addLike_96 rfl (fun h15 => ?_) (fun h15 => ?_)
        · exact J118_15  ρ12  (g_ρ12)
        · refine r_aload_n hC dX1_addLike_99 rfl ?_
          refine z_getR hM dX1_addLike_100 fl_RX1_24 rfl rfl (vld_of (n := 1) rfl (by omega) (by omega)) ?_
          refine r_iconst hC dX1_addLike_103 rfl ?_
          refine r_aload_n hC dX1_addLike_104 rfl ?_
          refine z_getR hM dX1_addLike_105 fl_RX1_24 rfl rfl (vld_of (n := 1) rfl (by omega) (by omega)) ?_
          refine r_iconst hC dX1_addLike_108 rfl ?_
          refine z_iald hM dX1_addLike_109 rfl (by omega) (by omega) (fun v19 h_v19 o_v19 t_v19 => ?_)
          refine z_iastF hM rfl rfl dX1_addLike_110 (by omega) (by omega) (fun ρ20 g_ρ20 => ?_)
          refine r_aload_n hC dX1_addLike_111 rfl ?_
          refine z_getR hM dX1_addLike_112 fl_RX1_24 rfl rfl (vld_of (n := 1) rfl (by omega) (by omega)) ?_
          refine r_iconst hC dX1_addLike_115 rfl ?_
          refine r_iload_n hC dX1_addLike_116 rfl ?_
          refine z_iastF hM rfl rfl dX1_addLike_117 (by omega) (by omega) (fun ρ21 g_ρ21 => ?_)
          exact J118_15  ρ21  (FS.trans (FS.trans (g_ρ12) g_ρ20) g_ρ21)
      refine r_icmp_ne (tgt := 84) hC dX1_addLike_69 rfl (fun h10 => ?_) (fun h10 => ?_)
      · exact J84_10  ρ8  (g_ρ8)
      · refine r_aload_n hC dX1_addLike_72 rfl ?_
        refine z_getR hM dX1_addLike_73 fl_RX1_24 rfl rfl (vld_of (n := 1) rfl (by omega) (by omega)) ?_
        refine r_iconst hC dX1_addLike_76 rfl ?_
        refine r_aload_n hC dX1_addLike_77 rfl ?_
        refine z_getR hM dX1_addLike_78 fl_RX1_24 rfl rfl (vld_of (n := 1) rfl (by omega) (by omega)) ?_
        refine r_iconst hC dX1_addLike_81 rfl ?_
        refine z_iald hM dX1_addLike_82 rfl (by omega) (by omega) (fun v22 h_v22 o_v22 t_v22 => ?_)
        refine z_iastF hM rfl rfl dX1_addLike_83 (by omega) (by omega) (fun ρ23 g_ρ23 => ?_)
        exact J84_10  ρ23  (FS.trans (g_ρ8) g_ρ23)
    refine r_if_ne (tgt := 62) hC dX1_addLike_52 rfl (fun h6 => ?_) (fun h6 => ?_)
    · exact J62_6  ρ4  (g_ρ4)
    · refine r_aload_n hC dX1_addLike_55 rfl ?_
      refine z_getR hM dX1_addLike_56 fl_RX1_24 rfl rfl (vld_of (n := 1) rfl (by omega) (by omega)) ?_
      refine r_iconst hC dX1_addLike_59 rfl ?_
      refine r_iload_n hC dX1_addLike_60 rfl ?_
      refine z_iastF hM rfl rfl dX1_addLike_61 (by omega) (by omega) (fun ρ24 g_ρ24 => ?_)
      exact J62_6  ρ24  (FS.trans (g_ρ4) g_ρ24)
  refine r_if_le (tgt := 31) hC dX1_addLike_4 rfl (fun h2 => ?_) (fun h2 => ?_)
  · refine r_aload_n hC dX1_addLike_31 rfl ?_
    refine z_getR hM dX1_addLike_32 fl_RX1_24 rfl rfl (vld_of (n := 1) rfl (by omega) (by omega)) ?_
    refine r_iconst hC dX1_addLike_35 rfl ?_
    refine r_dup2 hC dX1_addLike_36 rfl rfl ?_
    refine z_iald hM dX1_addLike_37 rfl (by omega) (by omega) (fun v25 h_v25 o_v25 t_v25 => ?_)
    refine r_iconst hC dX1_addLike_38 rfl ?_
    refine r_iaddG hC dX1_addLike_39 (fun v26 h_v26 => ?_)
    refine z_iastF hM rfl rfl dX1_addLike_40 (by omega) (by omega) (fun ρ27 g_ρ27 => ?_)
    refine r_aload_n hC dX1_addLike_41 rfl ?_
    refine z_getR hM dX1_addLike_42 fl_RX1_24 rfl rfl (vld_of (n := 1) rfl (by omega) (by omega)) ?_
    refine r_iconst hC dX1_addLike_45 rfl ?_
    refine r_iconst hC dX1_addLike_46 rfl ?_
    refine z_iastF hM rfl rfl dX1_addLike_47 (by omega) (by omega) (fun ρ28 g_ρ28 => ?_)
    exact J48_2  ρ28  (FS.trans (FS.trans (FS.rf) g_ρ27) g_ρ28)
  · refine r_iload_n hC dX1_addLike_7 rfl ?_
    refine r_aload_n hC dX1_addLike_8 rfl ?_
    refine z_getR hM dX1_addLike_9 fl_RX1_24 rfl rfl (vld_of (n := 1) rfl (by omega) (by omega)) ?_
    refine r_bipush hC dX1_addLike_12 rfl ?_
    refine z_iald hM dX1_addLike_14 rfl (by omega) (by omega) (fun v29 h_v29 o_v29 t_v29 => ?_)
    refine r_icmp_ne (tgt := 31) hC dX1_addLike_15 rfl (fun h30 => ?_) (fun h30 => ?_)
    · refine r_aload_n hC dX1_addLike_31 rfl ?_
      refine z_getR hM dX1_addLike_32 fl_RX1_24 rfl rfl (vld_of (n := 1) rfl (by omega) (by omega)) ?_
      refine r_iconst hC dX1_addLike_35 rfl ?_
      refine r_dup2 hC dX1_addLike_36 rfl rfl ?_
      refine z_iald hM dX1_addLike_37 rfl (by omega) (by omega) (fun v31 h_v31 o_v31 t_v31 => ?_)
      refine r_iconst hC dX1_addLike_38 rfl ?_
      refine r_iaddG hC dX1_addLike_39 (fun v32 h_v32 => ?_)
      refine z_iastF hM rfl rfl dX1_addLike_40 (by omega) (by omega) (fun ρ33 g_ρ33 => ?_)
      refine r_aload_n hC dX1_addLike_41 rfl ?_
      refine z_getR hM dX1_addLike_42 fl_RX1_24 rfl rfl (vld_of (n := 1) rfl (by omega) (by omega)) ?_
      refine r_iconst hC dX1_addLike_45 rfl ?_
      refine r_iconst hC dX1_addLike_46 rfl ?_
      refine z_iastF hM rfl rfl dX1_addLike_47 (by omega) (by omega) (fun ρ34 g_ρ34 => ?_)
      exact J48_2  ρ34  (FS.trans (FS.trans (FS.rf) g_ρ33) g_ρ34)
    · refine r_aload_n hC dX1_addLike_18 rfl ?_
      refine z_getR hM dX1_addLike_19 fl_RX1_24 rfl rfl (vld_of (n := 1) rfl (by omega) (by omega)) ?_
      refine r_iconst hC dX1_addLike_22 rfl ?_
      refine r_dup2 hC dX1_addLike_23 rfl rfl ?_
      refine z_iald hM dX1_addLike_24 rfl (by omega) (by omega) (fun v35 h_v35 o_v35 t_v35 => ?_)
      refine r_iconst hC dX1_addLike_25 rfl ?_
      refine r_iaddG hC dX1_addLike_26 (fun v36 h_v36 => ?_)
      refine z_iastF hM rfl rfl dX1_addLike_27 (by omega) (by omega) (fun ρ37 g_ρ37 => ?_)
      refine r_goto (tgt := 48) hC dX1_addLike_28 rfl ?_
      exact J48_2  ρ37  (FS.trans (FS.rf) g_ρ37)
theorem qs_addStep {eb : Bool} {d : Nat} {P : Option Vl → Mm → Prop} {σ : Mm} {v : Int} (b_v : -1000 ≤ v ∧ v ≤ 1000)  (k : ∀ ρ : Mm, FS σ ρ → P none ρ) : WT (false, true, eb) (d + 2) 22 [vR 14 0, vI v] σ P := by
  refine WT_in fun K hK => ?_
  have hK : StpY (false, true, eb) cX1_addStep RX1 (none) (WT (false, true, eb) (d + 1)) P K := hK
  have hM := hK.1
  have hC := hK.1.1
  show K 0 [some (vR 14 0), some (vI v), none, none, none] [] σ
  refine r_aload_n hC dX1_addStep_0 rfl ?_
  refine z_getI (jz := 6) hM dX1_addStep_1 fl_RX1_34 rfl rfl rfl (fun v1 h_v1 o_v1 t_v1 => ?_)
  have J12_3 : ∀ (w3 : Int), ∀ (ρ5 : Mm), 0 ≤ w3 ∧ w3 ≤ 1 → FS σ ρ5 → K 12 [some (vR 14 0), some (vI v), none, none, none] [vI w3] ρ5 := by
    intro w3 ρ5 f_w3 g_ρ5
    refine r_istore_n hC dX1_addStep_12 rfl ?_
    refine r_iload_n hC dX1_addStep_13 rfl ?_
    have J32_7 : ∀ (w7 : Int), ∀ (ρ9 : Mm), 0 ≤ w7 ∧ w7 ≤ 1 → FS σ ρ9 → K 32 [some (vR 14 0), some (vI v), some (vI w3), none, none] [vI w7] ρ9 := by
      intro w7 ρ9 f_w7 g_ρ9
      refine r_istore_n hC dX1_addStep_32 rfl ?_
      refine r_iload_n hC dX1_addStep_33 rfl ?_
      have J52_11 : ∀ (w11 : Int), ∀ (ρ13 : Mm), 0 ≤ w11 ∧ w11 ≤ 1 → FS σ ρ13 → K 52 [some (vR 14 0), some (vI v), some (vI w3), some (vI w7), none] [vI w11] ρ13 := by
        intro w11 ρ13 f_w11 g_ρ13
        refine r_istore hC dX1_addStep_52 rfl ?_
        refine r_aload_n hC dX1_addStep_54 rfl ?_
        refine z_getR hM dX1_addStep_55 fl_RX1_24 rfl rfl (vld_of (n := 1) rfl (by omega) (by omega)) ?_
        refine r_iconst hC dX1_addStep_58 rfl ?_
        refine r_dup2 hC dX1_addStep_59 rfl rfl ?_
        refine z_iald hM dX1_addStep_60 rfl (by omega) (by omega) (fun v14 h_v14 o_v14 t_v14 => ?_)
        refine r_iload_n hC dX1_addStep_61 rfl ?_
        have J70_16 : ∀ (w16 : Int), ∀ (ρ18 : Mm), 0 ≤ w16 ∧ w16 ≤ 1 → FS σ ρ18 → K 70 [some (vR 14 0), some (vI v), some (vI w3), some (vI w7), some (vI w11)] [vI w16, vI v14, vI 0, vR 17 0] ρ18 := by
          intro w16 ρ18 f_w16 g_ρ18
          refine r_iaddG hC dX1_addStep_70 (fun v19 h_v19 => ?_)
          refine z_iastF hM rfl rfl dX1_addStep_71 (by omega) (by omega) (fun ρ20 g_ρ20 => ?_)
          refine r_aload_n hC dX1_addStep_72 rfl ?_
          refine z_getR hM dX1_addStep_73 fl_RX1_24 rfl rfl (vld_of (n := 1) rfl (by omega) (by omega)) ?_
          refine r_iconst hC dX1_addStep_76 rfl ?_
          refine r_dup2 hC dX1_addStep_77 rfl rfl ?_
          refine z_iald hM dX1_addStep_78 rfl (by omega) (by omega) (fun v21 h_v21 o_v21 t_v21 => ?_)
          refine r_iload hC dX1_addStep_79 rfl ?_
          have J89_23 : ∀ (w23 : Int), ∀ (ρ25 : Mm), 0 ≤ w23 ∧ w23 ≤ 1 → FS σ ρ25 → K 89 [some (vR 14 0), some (vI v), some (vI w3), some (vI w7), some (vI w11)] [vI w23, vI v21, vI 1, vR 17 0] ρ25 := by
            intro w23 ρ25 f_w23 g_ρ25
            refine r_iaddG hC dX1_addStep_89 (fun v26 h_v26 => ?_)
            refine z_iastF hM rfl rfl dX1_addStep_90 (by omega) (by omega) (fun ρ27 g_ρ27 => ?_)
            refine r_aload_n hC dX1_addStep_91 rfl ?_
            refine z_getR hM dX1_addStep_92 fl_RX1_24 rfl rfl (vld_of (n := 1) rfl (by omega) (by omega)) ?_
            refine r_iconst hC dX1_addStep_95 rfl ?_
            refine r_iload_n hC dX1_addStep_96 rfl ?_
            have J110_29 : ∀ (w29 : Int), ∀ (ρ31 : Mm), -2147483648 ≤ w29 ∧ w29 ≤ 2147483647 → FS σ ρ31 → K 110 [some (vR 14 0), some (vI v), some (vI w3), some (vI w7), some (vI w11)] [vI w29, vI 2, vR 17 0] ρ31 := by
              intro w29 ρ31 f_w29 g_ρ31
              refine z_iastF hM rfl rfl dX1_addStep_110 (by omega) (by omega) (fun ρ32 g_ρ32 => ?_)
              refine r_aload_n hC dX1_addStep_111 rfl ?_
              refine z_getR hM dX1_addStep_112 fl_RX1_24 rfl rfl (vld_of (n := 1) rfl (by omega) (by omega)) ?_
              refine r_iconst hC dX1_addStep_115 rfl ?_
              refine r_iload_n hC dX1_addStep_116 rfl ?_
              refine z_iastF hM rfl rfl dX1_addStep_117 (by omega) (by omega) (fun ρ33 g_ρ33 => ?_)
              refine r_aload_n hC dX1_addStep_118 rfl ?_
              refine r_iload_n hC dX1_addStep_119 rfl ?_
              have J133_35 : ∀ (w35 : Int), ∀ (ρ37 : Mm), -2147483648 ≤ w35 ∧ w35 ≤ 2147483647 → FS σ ρ37 → K 133 [some (vR 14 0), some (vI v), some (vI w3), some (vI w7), some (vI w11)] [vI w35, vR 14 0] ρ37 := by
                intro w35 ρ37 f_w35 g_ρ37
                refine z_putIU (jz := 7) hM dX1_addStep_133 fw_RX1_37 rfl rfl rfl (by simp [Un, Tb, DL, DF, DR, DX]) (by simp [Okv]) ?_
                refine r_aload_n hC dX1_addStep_136 rfl ?_
                refine z_getR hM dX1_addStep_137 fl_RX1_24 rfl rfl (vld_of (n := 1) rfl (by omega) (by omega)) ?_
                refine r_iconst hC dX1_addStep_140 rfl ?_
                refine r_aload_n hC dX1_addStep_141 rfl ?_
                refine z_getR hM dX1_addStep_142 fl_RX1_24 rfl rfl (vld_of (n := 1) rfl (by omega) (by omega)) ?_
                refine r_iconst hC dX1_addStep_145 rfl ?_
                refine z_iald hM dX1_addStep_146 rfl (by omega) (by omega) (fun v38 h_v38 o_v38 t_v38 => ?_)
                refine r_aload_n hC dX1_addStep_147 rfl ?_
                refine z_getI (jz := 7) hM dX1_addStep_148 fl_RX1_37 rfl rfl rfl (fun v39 h_v39 o_v39 t_v39 => ?_)
                refine z_ins2 hM dX1_addStep_151 tl_RX1_97 rfl (Nat.le_of_ble_eq_true rfl) (Nat.le_of_ble_eq_true rfl) ?_
                refine qs_max (fun v40 h_v40 => ?_)
                refine z_iastF hM rfl rfl dX1_addStep_154 (by omega) (by omega) (fun ρ41 g_ρ41 => ?_)
                refine y_vret hK rfl dX1_addStep_155 ?_
                exact k _ (FS.trans (g_ρ37) g_ρ41)
              refine r_if_eq (tgt := 127) hC dX1_addStep_120 rfl (fun h34 => ?_) (fun h34 => ?_)
              · refine r_aload_n hC dX1_addStep_127 rfl ?_
                refine z_getI (jz := 7) hM dX1_addStep_128 fl_RX1_37 rfl rfl rfl (fun v42 h_v42 o_v42 t_v42 => ?_)
                refine r_iconst hC dX1_addStep_131 rfl ?_
                refine r_iaddG hC dX1_addStep_132 (fun v43 h_v43 => ?_)
                exact J133_35 (v43) ρ33 (by omega) (FS.trans (FS.trans (g_ρ31) g_ρ32) g_ρ33)
              · refine r_iconst hC dX1_addStep_123 rfl ?_
                refine r_goto (tgt := 133) hC dX1_addStep_124 rfl ?_
                exact J133_35 (1) ρ33 (by omega) (FS.trans (FS.trans (g_ρ31) g_ρ32) g_ρ33)
            refine r_if_eq (tgt := 104) hC dX1_addStep_97 rfl (fun h28 => ?_) (fun h28 => ?_)
            · refine r_aload_n hC dX1_addStep_104 rfl ?_
              refine z_getR hM dX1_addStep_105 fl_RX1_24 rfl rfl (vld_of (n := 1) rfl (by omega) (by omega)) ?_
              refine r_iconst hC dX1_addStep_108 rfl ?_
              refine z_iald hM dX1_addStep_109 rfl (by omega) (by omega) (fun v44 h_v44 o_v44 t_v44 => ?_)
              exact J110_29 (v44) ρ27 (by omega) (FS.trans (g_ρ25) g_ρ27)
            · refine r_iload_n hC dX1_addStep_100 rfl ?_
              refine r_goto (tgt := 110) hC dX1_addStep_101 rfl ?_
              exact J110_29 (v) ρ27 (by omega) (FS.trans (g_ρ25) g_ρ27)
          refine r_if_eq (tgt := 88) hC dX1_addStep_81 rfl (fun h22 => ?_) (fun h22 => ?_)
          · refine r_iconst hC dX1_addStep_88 rfl ?_
            exact J89_23 (0) ρ20 (by omega) (FS.trans (g_ρ18) g_ρ20)
          · refine r_iconst hC dX1_addStep_84 rfl ?_
            refine r_goto (tgt := 89) hC dX1_addStep_85 rfl ?_
            exact J89_23 (1) ρ20 (by omega) (FS.trans (g_ρ18) g_ρ20)
        refine r_if_eq (tgt := 69) hC dX1_addStep_62 rfl (fun h15 => ?_) (fun h15 => ?_)
        · refine r_iconst hC dX1_addStep_69 rfl ?_
          exact J70_16 (0) ρ13 (by omega) (g_ρ13)
        · refine r_iconst hC dX1_addStep_65 rfl ?_
          refine r_goto (tgt := 70) hC dX1_addStep_66 rfl ?_
          exact J70_16 (1) ρ13 (by omega) (g_ρ13)
      refine r_if_ne (tgt := 51) hC dX1_addStep_34 rfl (fun h10 => ?_) (fun h10 => ?_)
      · refine r_iconst hC dX1_addStep_51 rfl ?_
        exact J52_11 (0) ρ9 (by omega) (g_ρ9)
      · refine r_iload_n hC dX1_addStep_37 rfl ?_
        refine r_aload_n hC dX1_addStep_38 rfl ?_
        refine z_getR hM dX1_addStep_39 fl_RX1_24 rfl rfl (vld_of (n := 1) rfl (by omega) (by omega)) ?_
        refine r_iconst hC dX1_addStep_42 rfl ?_
        refine z_iald hM dX1_addStep_43 rfl (by omega) (by omega) (fun v45 h_v45 o_v45 t_v45 => ?_)
        refine r_icmp_le (tgt := 51) hC dX1_addStep_44 rfl (fun h46 => ?_) (fun h46 => ?_)
        · refine r_iconst hC dX1_addStep_51 rfl ?_
          exact J52_11 (0) ρ9 (by omega) (g_ρ9)
        · refine r_iconst hC dX1_addStep_47 rfl ?_
          refine r_goto (tgt := 52) hC dX1_addStep_48 rfl ?_
          exact J52_11 (1) ρ9 (by omega) (g_ρ9)
    refine r_if_ne (tgt := 31) hC dX1_addStep_14 rfl (fun h6 => ?_) (fun h6 => ?_)
    · refine r_iconst hC dX1_addStep_31 rfl ?_
      exact J32_7 (0) ρ5 (by omega) (g_ρ5)
    · refine r_iload_n hC dX1_addStep_17 rfl ?_
      refine r_aload_n hC dX1_addStep_18 rfl ?_
      refine z_getR hM dX1_addStep_19 fl_RX1_24 rfl rfl (vld_of (n := 1) rfl (by omega) (by omega)) ?_
      refine r_iconst hC dX1_addStep_22 rfl ?_
      refine z_iald hM dX1_addStep_23 rfl (by omega) (by omega) (fun v47 h_v47 o_v47 t_v47 => ?_)
      refine r_icmp_ge (tgt := 31) hC dX1_addStep_24 rfl (fun h48 => ?_) (fun h48 => ?_)
      · refine r_iconst hC dX1_addStep_31 rfl ?_
        exact J32_7 (0) ρ5 (by omega) (g_ρ5)
      · refine r_iconst hC dX1_addStep_27 rfl ?_
        refine r_goto (tgt := 32) hC dX1_addStep_28 rfl ?_
        exact J32_7 (1) ρ5 (by omega) (g_ρ5)
  refine r_if_ne (tgt := 11) hC dX1_addStep_4 rfl (fun h2 => ?_) (fun h2 => ?_)
  · refine r_iconst hC dX1_addStep_11 rfl ?_
    exact J12_3 (0) σ (by omega) (FS.rf)
  · refine r_iconst hC dX1_addStep_7 rfl ?_
    refine r_goto (tgt := 12) hC dX1_addStep_8 rfl ?_
    exact J12_3 (1) σ (by omega) (FS.rf)
theorem qs_addSpread {eb : Bool} {d : Nat} {P : Option Vl → Mm → Prop} {σ : Mm} {v : Int} (b_v : -1000 ≤ v ∧ v ≤ 1000)  (k : ∀ ρ : Mm, FS σ ρ → P none ρ) : WT (false, true, eb) (d + 2) 23 [vR 14 0, vI v] σ P := by
  refine WT_in fun K hK => ?_
  have hK : StpY (false, true, eb) cX1_addSpread RX1 (none) (WT (false, true, eb) (d + 1)) P K := hK
  have hM := hK.1
  have hC := hK.1.1
  show K 0 [some (vR 14 0), some (vI v)] [] σ
  refine r_iload_n hC dX1_addSpread_0 rfl ?_
  have J72_1 : ∀ (ρ3 : Mm), FS σ ρ3 → K 72 [some (vR 14 0), some (vI v)] [] ρ3 := by
    intro  ρ3  g_ρ3
    refine y_vret hK rfl dX1_addSpread_72 ?_
    exact k _ (g_ρ3)
  refine r_if_le (tgt := 35) hC dX1_addSpread_1 rfl (fun h1 => ?_) (fun h1 => ?_)
  · refine r_iload_n hC dX1_addSpread_35 rfl ?_
    refine r_if_ge (tgt := 58) hC dX1_addSpread_36 rfl (fun h4 => ?_) (fun h4 => ?_)
    · refine r_iload_n hC dX1_addSpread_58 rfl ?_
      refine r_if_ne (tgt := 72) hC dX1_addSpread_59 rfl (fun h5 => by omega) (fun h5 => ?_)
      refine r_aload_n hC dX1_addSpread_62 rfl ?_
      refine z_getR hM dX1_addSpread_63 fl_RX1_24 rfl rfl (vld_of (n := 1) rfl (by omega) (by omega)) ?_
      refine r_iconst hC dX1_addSpread_66 rfl ?_
      refine r_dup2 hC dX1_addSpread_67 rfl rfl ?_
      refine z_iald hM dX1_addSpread_68 rfl (by omega) (by omega) (fun v6 h_v6 o_v6 t_v6 => ?_)
      refine r_iconst hC dX1_addSpread_69 rfl ?_
      refine r_iaddG hC dX1_addSpread_70 (fun v7 h_v7 => ?_)
      refine z_iastF hM rfl rfl dX1_addSpread_71 (by omega) (by omega) (fun ρ8 g_ρ8 => ?_)
      exact J72_1  ρ8  (FS.trans (FS.rf) g_ρ8)
    · refine r_aload_n hC dX1_addSpread_39 rfl ?_
      refine z_getR hM dX1_addSpread_40 fl_RX1_24 rfl rfl (vld_of (n := 1) rfl (by omega) (by omega)) ?_
      refine r_iconst hC dX1_addSpread_43 rfl ?_
      refine r_aload_n hC dX1_addSpread_44 rfl ?_
      refine z_getR hM dX1_addSpread_45 fl_RX1_24 rfl rfl (vld_of (n := 1) rfl (by omega) (by omega)) ?_
      refine r_iconst hC dX1_addSpread_48 rfl ?_
      refine z_iald hM dX1_addSpread_49 rfl (by omega) (by omega) (fun v9 h_v9 o_v9 t_v9 => ?_)
      refine r_iload_n hC dX1_addSpread_50 rfl ?_
      refine z_ins2 hM dX1_addSpread_51 tl_RX1_97 rfl (Nat.le_of_ble_eq_true rfl) (Nat.le_of_ble_eq_true rfl) ?_
      refine qs_max (fun v10 h_v10 => ?_)
      refine z_iastF hM rfl rfl dX1_addSpread_54 (by omega) (by omega) (fun ρ11 g_ρ11 => ?_)
      refine r_goto (tgt := 72) hC dX1_addSpread_55 rfl ?_
      exact J72_1  ρ11  (FS.trans (FS.rf) g_ρ11)
  · refine r_aload_n hC dX1_addSpread_4 rfl ?_
    refine z_getR hM dX1_addSpread_5 fl_RX1_24 rfl rfl (vld_of (n := 1) rfl (by omega) (by omega)) ?_
    refine r_iconst hC dX1_addSpread_8 rfl ?_
    refine z_iald hM dX1_addSpread_9 rfl (by omega) (by omega) (fun v12 h_v12 o_v12 t_v12 => ?_)
    refine r_ldc hC dX1_addSpread_10 co_RX1_40 rfl ?_
    refine r_icmp_eq (tgt := 25) hC dX1_addSpread_12 rfl (fun h13 => ?_) (fun h13 => ?_)
    · refine r_aload_n hC dX1_addSpread_25 rfl ?_
      refine z_getR hM dX1_addSpread_26 fl_RX1_24 rfl rfl (vld_of (n := 1) rfl (by omega) (by omega)) ?_
      refine r_iconst hC dX1_addSpread_29 rfl ?_
      refine r_iload_n hC dX1_addSpread_30 rfl ?_
      refine z_iastF hM rfl rfl dX1_addSpread_31 (by omega) (by omega) (fun ρ14 g_ρ14 => ?_)
      refine r_goto (tgt := 72) hC dX1_addSpread_32 rfl ?_
      exact J72_1  ρ14  (FS.trans (FS.rf) g_ρ14)
    · refine r_iload_n hC dX1_addSpread_15 rfl ?_
      refine r_aload_n hC dX1_addSpread_16 rfl ?_
      refine z_getR hM dX1_addSpread_17 fl_RX1_24 rfl rfl (vld_of (n := 1) rfl (by omega) (by omega)) ?_
      refine r_iconst hC dX1_addSpread_20 rfl ?_
      refine z_iald hM dX1_addSpread_21 rfl (by omega) (by omega) (fun v15 h_v15 o_v15 t_v15 => ?_)
      refine r_icmp_ge (tgt := 35) hC dX1_addSpread_22 rfl (fun h16 => ?_) (fun h16 => ?_)
      · refine r_iload_n hC dX1_addSpread_35 rfl ?_
        refine r_if_ge (tgt := 58) hC dX1_addSpread_36 rfl (fun h17 => ?_) (fun h17 => by omega)
        refine r_iload_n hC dX1_addSpread_58 rfl ?_
        refine r_if_ne (tgt := 72) hC dX1_addSpread_59 rfl (fun h18 => ?_) (fun h18 => by omega)
        exact J72_1  σ  (FS.rf)
      · refine r_aload_n hC dX1_addSpread_25 rfl ?_
        refine z_getR hM dX1_addSpread_26 fl_RX1_24 rfl rfl (vld_of (n := 1) rfl (by omega) (by omega)) ?_
        refine r_iconst hC dX1_addSpread_29 rfl ?_
        refine r_iload_n hC dX1_addSpread_30 rfl ?_
        refine z_iastF hM rfl rfl dX1_addSpread_31 (by omega) (by omega) (fun ρ19 g_ρ19 => ?_)
        refine r_goto (tgt := 72) hC dX1_addSpread_32 rfl ?_
        exact J72_1  ρ19  (FS.trans (FS.rf) g_ρ19)
theorem qs_addLine {eb : Bool} {d : Nat} {P : Option Vl → Mm → Prop} {σ : Mm} {v : Int} (b_v : -1000 ≤ v ∧ v ≤ 1000)  (k : ∀ ρ : Mm, FS σ ρ → P none ρ) : WT (false, true, eb) (d + 2) 17 [vR 14 0, vI v] σ P := by
  refine WT_in fun K hK => ?_
  have hK : StpY (false, true, eb) cX1_addLine RX1 (none) (WT (false, true, eb) (d + 1)) P K := hK
  have hM := hK.1
  have hC := hK.1.1
  show K 0 [some (vR 14 0), some (vI v), none, none] [] σ
  refine r_iload_n hC dX1_addLine_0 rfl ?_
  refine r_sipush hC dX1_addLine_1 rfl ?_
  refine z_ins2 hM dX1_addLine_4 tl_RX1_93 rfl (Nat.le_of_ble_eq_true rfl) (Nat.le_of_ble_eq_true rfl) ?_
  refine qs_floorMod (by omega) (fun v1 h_v1 => ?_)
  refine r_istore_n hC dX1_addLine_7 rfl ?_
  refine r_bipush hC dX1_addLine_8 rfl ?_
  refine r_iload_n hC dX1_addLine_10 rfl ?_
  refine r_imulE hC ((7 * v)) dX1_addLine_11 (by omega) (by unfold inR; omega) ?_
  refine r_iconst hC dX1_addLine_12 rfl ?_
  refine r_iaddE hC (((7 * v) + 1)) dX1_addLine_13 (by omega) (by unfold inR; omega) ?_
  refine r_sipush hC dX1_addLine_14 rfl ?_
  refine z_ins2 hM dX1_addLine_17 tl_RX1_93 rfl (Nat.le_of_ble_eq_true rfl) (Nat.le_of_ble_eq_true rfl) ?_
  refine qs_floorMod (by omega) (fun v2 h_v2 => ?_)
  refine r_istore_n hC dX1_addLine_20 rfl ?_
  refine r_aload_n hC dX1_addLine_21 rfl ?_
  refine z_getR hM dX1_addLine_22 fl_RX1_24 rfl rfl (vld_of (n := 1) rfl (by omega) (by omega)) ?_
  refine r_iconst hC dX1_addLine_25 rfl ?_
  refine r_iload_n hC dX1_addLine_26 rfl ?_
  refine r_aload_n hC dX1_addLine_27 rfl ?_
  refine z_getR hM dX1_addLine_28 fl_RX1_24 rfl rfl (vld_of (n := 1) rfl (by omega) (by omega)) ?_
  refine r_iconst hC dX1_addLine_31 rfl ?_
  refine z_iald hM dX1_addLine_32 rfl (by omega) (by omega) (fun v3 h_v3 o_v3 t_v3 => ?_)
  refine r_imulG hC dX1_addLine_33 (fun v4 h_v4 => ?_)
  refine r_sipush hC dX1_addLine_34 rfl ?_
  refine r_iremG hC dX1_addLine_37 (by omega) (fun v5 h_v5 p_v5 m_v5 => ?_)
  refine z_iastF hM rfl rfl dX1_addLine_38 (by omega) (by omega) (fun ρ6 g_ρ6 => ?_)
  refine r_aload_n hC dX1_addLine_39 rfl ?_
  refine z_getR hM dX1_addLine_40 fl_RX1_24 rfl rfl (vld_of (n := 1) rfl (by omega) (by omega)) ?_
  refine r_iconst hC dX1_addLine_43 rfl ?_
  refine r_iload_n hC dX1_addLine_44 rfl ?_
  refine r_aload_n hC dX1_addLine_45 rfl ?_
  refine z_getR hM dX1_addLine_46 fl_RX1_24 rfl rfl (vld_of (n := 1) rfl (by omega) (by omega)) ?_
  refine r_iconst hC dX1_addLine_49 rfl ?_
  refine z_iald hM dX1_addLine_50 rfl (by omega) (by omega) (fun v7 h_v7 o_v7 t_v7 => ?_)
  refine r_imulG hC dX1_addLine_51 (fun v8 h_v8 => ?_)
  refine r_iload_n hC dX1_addLine_52 rfl ?_
  refine r_iaddG hC dX1_addLine_53 (fun v9 h_v9 => ?_)
  refine r_sipush hC dX1_addLine_54 rfl ?_
  refine r_iremG hC dX1_addLine_57 (by omega) (fun v10 h_v10 p_v10 m_v10 => ?_)
  refine z_iastF hM rfl rfl dX1_addLine_58 (by omega) (by omega) (fun ρ11 g_ρ11 => ?_)
  refine y_vret hK rfl dX1_addLine_59 ?_
  exact k _ (FS.trans (FS.trans (FS.rf) g_ρ6) g_ρ11)
theorem qs_addLetter {eb : Bool} {d : Nat} {P : Option Vl → Mm → Prop} {σ : Mm} {v : Int} (b_v : -1000 ≤ v ∧ v ≤ 1000)  (k : ∀ ρ : Mm, FS σ ρ → P none ρ) : WT (false, true, eb) (d + 2) 19 [vR 14 0, vI v] σ P := by
  refine WT_in fun K hK => ?_
  have hK : StpY (false, true, eb) cX1_addLetter RX1 (none) (WT (false, true, eb) (d + 1)) P K := hK
  have hM := hK.1
  have hC := hK.1.1
  show K 0 [some (vR 14 0), some (vI v), none, none, none] [] σ
  refine r_aload_n hC dX1_addLetter_0 rfl ?_
  refine z_getR hM dX1_addLetter_1 fl_RX1_15 rfl rfl (vld_of (n := 1) rfl (by omega) (by omega)) ?_
  refine r_iload_n hC dX1_addLetter_4 rfl ?_
  refine r_bipush hC dX1_addLetter_5 rfl ?_
  refine z_ins2 hM dX1_addLetter_7 tl_RX1_93 rfl (Nat.le_of_ble_eq_true rfl) (Nat.le_of_ble_eq_true rfl) ?_
  refine qs_floorMod (by omega) (fun v1 h_v1 => ?_)
  refine z_iald hM dX1_addLetter_10 rfl (by omega) (by omega) (fun v2 h_v2 o_v2 t_v2 => ?_)
  refine r_istore_n hC dX1_addLetter_11 rfl ?_
  refine r_iconst hC dX1_addLetter_12 rfl ?_
  refine r_istore_n hC dX1_addLetter_13 rfl ?_
  refine r_iconst hC dX1_addLetter_14 rfl ?_
  refine r_istore hC dX1_addLetter_15 rfl ?_
  have L17 : ∀ (n17 : Nat) (w3 w4 : Int) (ρ5 : Mm), -2147483648 ≤ w3 ∧ w3 ≤ 2147483647 → 0 ≤ w4 ∧ w4 ≤ 4 → 4 - w4 < (n17 : Int) → FS σ ρ5 → K 17 [some (vR 14 0), some (vI v), some (vI v2), some (vI w3), some (vI w4)] [] ρ5 := by
    intro n17
    induction n17 with
    | zero => intro w3 w4 ρ5 f_w3 f_w4  hm g_ρ5 ; omega
    | succ n17 ih17 =>
      intro w3 w4 ρ5 f_w3 f_w4  hm17 g_ρ5 
      refine r_iload hC dX1_addLetter_17 rfl ?_
      refine r_iconst hC dX1_addLetter_19 rfl ?_
      refine r_icmp_ge (tgt := 61) hC dX1_addLetter_20 rfl (fun h6 => ?_) (fun h6 => ?_)
      · refine r_aload_n hC dX1_addLetter_61 rfl ?_
        refine z_getR hM dX1_addLetter_62 fl_RX1_24 rfl rfl (vld_of (n := 1) rfl (by omega) (by omega)) ?_
        refine r_iconst hC dX1_addLetter_65 rfl ?_
        refine r_iload_n hC dX1_addLetter_66 rfl ?_
        refine z_ins1 hM dX1_addLetter_67 tl_RX1_100 rfl (Nat.le_of_ble_eq_true rfl) (Nat.le_of_ble_eq_true rfl) ?_
        refine qs_bitCount (fun v7 h_v7 => ?_)
        refine z_iastF hM rfl rfl dX1_addLetter_70 (by omega) (by omega) (fun ρ8 g_ρ8 => ?_)
        refine y_vret hK rfl dX1_addLetter_71 ?_
        exact k _ (FS.trans (g_ρ5) g_ρ8)
      · refine r_aload_n hC dX1_addLetter_23 rfl ?_
        refine z_getR hM dX1_addLetter_24 fl_RX1_24 rfl rfl (vld_of (n := 1) rfl (by omega) (by omega)) ?_
        refine r_iload hC dX1_addLetter_27 rfl ?_
        refine r_iload_n hC dX1_addLetter_29 rfl ?_
        refine r_iconst hC dX1_addLetter_30 rfl ?_
        refine r_aload_n hC dX1_addLetter_31 rfl ?_
        refine z_getR hM dX1_addLetter_32 fl_RX1_24 rfl rfl (vld_of (n := 1) rfl (by omega) (by omega)) ?_
        refine r_iload hC dX1_addLetter_35 rfl ?_
        refine z_iald hM dX1_addLetter_37 rfl (by omega) (by omega) (fun v9 h_v9 o_v9 t_v9 => ?_)
        refine r_imulG hC dX1_addLetter_38 (fun v10 h_v10 => ?_)
        refine r_ishrG hC dX1_addLetter_39 (fun v11 h_v11 => ?_)
        refine r_iconst hC dX1_addLetter_40 rfl ?_
        refine r_iandB hC dX1_addLetter_41 (by omega) (inR_lit rfl) (fun v12 h_v12 => ?_)
        refine z_iastF hM rfl rfl dX1_addLetter_42 (by omega) (by omega) (fun ρ13 g_ρ13 => ?_)
        refine r_iload_n hC dX1_addLetter_43 rfl ?_
        refine r_iconst hC dX1_addLetter_44 rfl ?_
        refine r_aload_n hC dX1_addLetter_45 rfl ?_
        refine z_getR hM dX1_addLetter_46 fl_RX1_24 rfl rfl (vld_of (n := 1) rfl (by omega) (by omega)) ?_
        refine r_iload hC dX1_addLetter_49 rfl ?_
        refine z_iald hM dX1_addLetter_51 rfl (by omega) (by omega) (fun v14 h_v14 o_v14 t_v14 => ?_)
        refine r_ishlG hC dX1_addLetter_52 (fun v15 h_v15 => ?_)
        refine r_iorG hC dX1_addLetter_53 (fun v16 h_v16 => ?_)
        refine r_istore_n hC dX1_addLetter_54 rfl ?_
        refine r_iincE hC ((w4 + 1)) dX1_addLetter_55 rfl rfl (by omega) (by unfold inR; omega) ?_
        refine r_goto (tgt := 17) hC dX1_addLetter_58 rfl ?_
        exact ih17 (v16) ((w4 + 1)) ρ13 (by omega) (by omega)  (by omega) (FS.trans (g_ρ5) g_ρ13) 
  exact L17 6 (0) (0) σ (by omega) (by omega)  (by omega) (FS.rf) 
theorem qs_absb {e : Ev} {d : Nat} {P : Option Vl → Mm → Prop} {σ : Mm} {a : Int} (b_a : -1000 ≤ a ∧ a ≤ 1000)  (k : ∀ r : Int, 0 ≤ r ∧ r ≤ 1000 → P (some (vI r)) σ) : WT e (d + 1) 263 [vI a] σ P := by
  refine WT_in fun K hK => ?_
  have hK : StpY e cJ9_abs_0f7a4 RJ9 (some .int) (WT e (d + 0)) P K := hK
  have hM := hK.1
  have hC := hK.1.1
  show K 0 [some (vI a)] [] σ
  refine r_iload_n hC dJ9_abs_0f7a4_0 rfl ?_
  have J10_2 : ∀ (w2 : Int), 0 ≤ w2 ∧ w2 ≤ 1000 → K 10 [some (vI a)] [vI w2] σ := by
    intro w2  f_w2 
    refine y_iret hK rfl dJ9_abs_0f7a4_10 ?_
    exact k _ (by omega)
  refine r_if_ge (tgt := 9) hC dJ9_abs_0f7a4_1 rfl (fun h1 => ?_) (fun h1 => ?_)
  · refine r_iload_n hC dJ9_abs_0f7a4_9 rfl ?_
    exact J10_2 (a)  (by omega) 
  · refine r_iload_n hC dJ9_abs_0f7a4_4 rfl ?_
    refine r_inegS hC dJ9_abs_0f7a4_5 (by unfold inR; omega) ?_
    refine r_goto (tgt := 10) hC dJ9_abs_0f7a4_6 rfl ?_
    exact J10_2 ((-a))  (by omega) 
theorem qs_addShare {eb : Bool} {d : Nat} {P : Option Vl → Mm → Prop} {σ : Mm} {v n0 : Int} (b_v : -1000 ≤ v ∧ v ≤ 1000) (b_n0 : 0 ≤ n0) (qg0 : σ 17 0 0 = n0)  (k : ∀ ρ : Mm, Gx (fun c x y => c = 17 ∧ x = 0 ∧ y = 0) σ ρ → 0 ≤ ρ 17 0 0 → P none ρ) : WT (false, true, eb) (d + 2) 16 [vR 14 0, vI v] σ P := by
  refine WT_in fun K hK => ?_
  have hK : StpY (false, true, eb) cX1_addShare RX1 (none) (WT (false, true, eb) (d + 1)) P K := hK
  have hM := hK.1
  have hC := hK.1.1
  show K 0 [some (vR 14 0), some (vI v), none, none, none, none] [] σ
  refine r_aload_n hC dX1_addShare_0 rfl ?_
  refine z_getR hM dX1_addShare_1 fl_RX1_24 rfl rfl (vld_of (n := 1) rfl (by omega) (by omega)) ?_
  refine r_iconst hC dX1_addShare_4 rfl ?_
  refine z_iald hM dX1_addShare_5 rfl (by omega) (by omega) (fun v1 h_v1 o_v1 t_v1 => ?_)
  have e_v1 : n0 = v1 := ((t_v1 (Or.inr (Or.inr (Or.inl ⟨rfl, Or.inl rfl⟩)))).trans qg0).symm
  subst e_v1
  refine r_istore_n hC dX1_addShare_6 rfl ?_
  refine r_iload_n hC dX1_addShare_7 rfl ?_
  refine z_ins1 hM dX1_addShare_8 tl_RX1_88 rfl (Nat.le_of_ble_eq_true rfl) (Nat.le_of_ble_eq_true rfl) ?_
  refine qs_absb (by omega) (fun v2 h_v2 => ?_)
  refine r_istore_n hC dX1_addShare_11 rfl ?_
  refine r_iconst hC dX1_addShare_12 rfl ?_
  refine r_istore hC dX1_addShare_13 rfl ?_
  have L15 : ∀ (n15 : Nat) (w3 w4 w5 : Int) (ρ6 : Mm), 0 ≤ w3 ∧ w3 ≤ 9223372036854775808 → 0 ≤ w4 ∧ w4 ≤ 1000 → 0 ≤ w5 ∧ w5 ≤ 1001 → 1001 - w5 < (n15 : Int) → Gx (fun c x y => c = 17 ∧ x = 0 ∧ y = 0) σ ρ6 → ρ6 17 0 0 = n0 → K 15 [some (vR 14 0), some (vI v), some (vI w3), some (vI w4), some (vI w5), none] [] ρ6 := by
    intro n15
    induction n15 with
    | zero => intro w3 w4 w5 ρ6 f_w3 f_w4 f_w5  hm g_ρ6 q0_ρ6 ; omega
    | succ n15 ih15 =>
      intro w3 w4 w5 ρ6 f_w3 f_w4 f_w5  hm15 g_ρ6 q0_ρ6 
      refine r_iload_n hC dX1_addShare_15 rfl ?_
      have J43_7 : ∀ (ρ9 : Mm), Gx (fun c x y => c = 17 ∧ x = 0 ∧ y = 0) σ ρ9 → ρ9 17 0 0 = n0 → K 43 [some (vR 14 0), some (vI v), some (vI w3), some (vI w4), some (vI w5), none] [] ρ9 := by
        intro  ρ9  g_ρ9 q0_ρ9
        refine r_aload_n hC dX1_addShare_43 rfl ?_
        refine z_getR hM dX1_addShare_44 fl_RX1_24 rfl rfl (vld_of (n := 1) rfl (by omega) (by omega)) ?_
        refine r_iconst hC dX1_addShare_47 rfl ?_
        refine r_iload_n hC dX1_addShare_48 rfl ?_
        refine z_iastG hM dX1_addShare_49 rfl (by omega) (by omega) ⟨Or.inr (by simp [DL]), Or.inl rfl⟩ (by first | trivial | (simp only [Okv]; omega) | (simp [Okv]; try omega)) (fun ρ10 a_ρ10 q_ρ10 => ?_)
        refine r_aload_n hC dX1_addShare_50 rfl ?_
        refine z_getR hM dX1_addShare_51 fl_RX1_24 rfl rfl (vld_of (n := 1) rfl (by omega) (by omega)) ?_
        refine r_iconst hC dX1_addShare_54 rfl ?_
        refine r_dup2 hC dX1_addShare_55 rfl rfl ?_
        refine z_iald hM dX1_addShare_56 rfl (by omega) (by omega) (fun v11 h_v11 o_v11 t_v11 => ?_)
        refine r_iload_n hC dX1_addShare_57 rfl ?_
        have J66_13 : ∀ (w13 : Int), ∀ (ρ15 : Mm), 0 ≤ w13 ∧ w13 ≤ 1 → Gx (fun c x y => c = 17 ∧ x = 0 ∧ y = 0) σ ρ15 → ρ15 17 0 0 = w3 → K 66 [some (vR 14 0), some (vI v), some (vI w3), some (vI w4), some (vI w5), none] [vI w13, vI v11, vI 1, vR 17 0] ρ15 := by
          intro w13 ρ15 f_w13 g_ρ15 q0_ρ15
          refine r_iaddG hC dX1_addShare_66 (fun v16 h_v16 => ?_)
          refine z_iastU hM dX1_addShare_67 rfl (by omega) (by omega) (by simp [Un, Tb, DL, DF, DR, DX]; try omega) (by simp [Okv]) ?_
          refine y_vret hK rfl dX1_addShare_68 ?_
          exact k _ (g_ρ15) (by have hq := q0_ρ15; omega)
        refine r_if_eq (tgt := 65) hC dX1_addShare_58 rfl (fun h12 => ?_) (fun h12 => ?_)
        · refine r_iconst hC dX1_addShare_65 rfl ?_
          exact J66_13 (0) ρ10 (by omega) ((g_ρ9).al a_ρ10 (by first | (simp; done) | omega | (simp; omega))) (by have hq := q_ρ10; omega)
        · refine r_iconst hC dX1_addShare_61 rfl ?_
          refine r_goto (tgt := 66) hC dX1_addShare_62 rfl ?_
          exact J66_13 (1) ρ10 (by omega) ((g_ρ9).al a_ρ10 (by first | (simp; done) | omega | (simp; omega))) (by have hq := q_ρ10; omega)
      refine r_if_eq (tgt := 43) hC dX1_addShare_16 rfl (fun h7 => ?_) (fun h7 => ?_)
      · exact J43_7  ρ6  (g_ρ6) (by have hq := q0_ρ6; omega)
      · refine r_iload hC dX1_addShare_19 rfl ?_
        refine r_sipush hC dX1_addShare_21 rfl ?_
        refine r_icmp_gt (tgt := 43) hC dX1_addShare_24 rfl (fun h17 => ?_) (fun h17 => ?_)
        · exact J43_7  ρ6  (g_ρ6) (by have hq := q0_ρ6; omega)
        · refine r_iload_n hC dX1_addShare_27 rfl ?_
          refine r_iload_n hC dX1_addShare_28 rfl ?_
          refine r_iremP hC dX1_addShare_29 (by omega) (by omega) (fun v18 h_v18 => ?_)
          refine r_istore hC dX1_addShare_30 rfl ?_
          refine r_iload_n hC dX1_addShare_32 rfl ?_
          refine r_istore_n hC dX1_addShare_33 rfl ?_
          refine r_iload hC dX1_addShare_34 rfl ?_
          refine r_istore_n hC dX1_addShare_36 rfl ?_
          show K _ [_, _, _, _, _, _] _ _
          refine r_iincE hC ((w5 + 1)) dX1_addShare_37 rfl rfl (by omega) (by unfold inR; omega) ?_
          refine r_goto (tgt := 15) hC dX1_addShare_40 rfl ?_
          refine r_forget hC (ls2 := [some (vR 14 0), some (vI v), some (vI w4), some (vI v18), some (vI (w5 + 1)), none]) (lsub_some (lsub_some (lsub_some (lsub_some (lsub_some (lsub_none lsub_nil)))))) ?_
          exact ih15 (w4) (v18) ((w5 + 1)) ρ6 (by omega) (by omega) (by omega)  (by omega) (g_ρ6) (by have hq := q0_ρ6; omega) 
  exact L15 1003 (n0) (v2) (0) σ (by omega) (by omega) (by omega)  (by omega) (Gx.rf) (by have hq := qg0; omega) 
theorem qs_addElement {eb : Bool} {d : Nat} {P : Option Vl → Mm → Prop} {σ : Mm} {v n0 : Int} (b_v : -1000 ≤ v ∧ v ≤ 1000) (b_n0 : 0 ≤ n0 ∧ n0 ≤ 3) (qg0 : σ 17 0 0 = n0)  (k : ∀ ρ : Mm, Gx (fun c x y => c = 17 ∧ x = 0 ∧ y = 0) σ ρ → 0 ≤ ρ 17 0 0 ∧ ρ 17 0 0 ≤ 3 → P none ρ) : WT (false, true, eb) (d + 2) 24 [vR 14 0, vI v] σ P := by
  refine WT_in fun K hK => ?_
  have hK : StpY (false, true, eb) cX1_addElement RX1 (none) (WT (false, true, eb) (d + 1)) P K := hK
  have hM := hK.1
  have hC := hK.1.1
  show K 0 [some (vR 14 0), some (vI v), none] [] σ
  refine r_iload_n hC dX1_addElement_0 rfl ?_
  refine r_iconst hC dX1_addElement_1 rfl ?_
  refine z_ins2 hM dX1_addElement_2 tl_RX1_93 rfl (Nat.le_of_ble_eq_true rfl) (Nat.le_of_ble_eq_true rfl) ?_
  refine qs_floorMod (by omega) (fun v1 h_v1 => ?_)
  refine r_istore_n hC dX1_addElement_5 rfl ?_
  refine r_aload_n hC dX1_addElement_6 rfl ?_
  refine z_getR hM dX1_addElement_7 fl_RX1_24 rfl rfl (vld_of (n := 1) rfl (by omega) (by omega)) ?_
  refine r_iconst hC dX1_addElement_10 rfl ?_
  refine r_aload_n hC dX1_addElement_11 rfl ?_
  refine z_getI (jz := 6) hM dX1_addElement_12 fl_RX1_34 rfl rfl rfl (fun v2 h_v2 o_v2 t_v2 => ?_)
  have J37_4 : ∀ (w4 : Int), ∀ (ρ6 : Mm), 0 ≤ w4 ∧ w4 ≤ 3 → Gx (fun c x y => c = 17 ∧ x = 0 ∧ y = 0) σ ρ6 → ρ6 17 0 0 = n0 → K 37 [some (vR 14 0), some (vI v), some (vI v1)] [vI w4, vI 0, vR 17 0] ρ6 := by
    intro w4 ρ6 f_w4 g_ρ6 q0_ρ6
    refine z_iastG hM dX1_addElement_37 rfl (by omega) (by omega) ⟨Or.inr (by simp [DL]), Or.inl rfl⟩ (by first | trivial | (simp only [Okv]; omega) | (simp [Okv]; try omega)) (fun ρ7 a_ρ7 q_ρ7 => ?_)
    refine y_vret hK rfl dX1_addElement_38 ?_
    exact k _ ((g_ρ6).al a_ρ7 (by first | (simp; done) | omega | (simp; omega))) (by have hq := q_ρ7; omega)
  refine r_if_ne (tgt := 22) hC dX1_addElement_15 rfl (fun h3 => ?_) (fun h3 => ?_)
  · refine r_aload_n hC dX1_addElement_22 rfl ?_
    refine z_getR hM dX1_addElement_23 fl_RX1_9 rfl rfl (vld_of (n := 1) rfl (by omega) (by omega)) ?_
    refine r_iconst hC dX1_addElement_26 rfl ?_
    refine r_aload_n hC dX1_addElement_27 rfl ?_
    refine z_getR hM dX1_addElement_28 fl_RX1_24 rfl rfl (vld_of (n := 1) rfl (by omega) (by omega)) ?_
    refine r_iconst hC dX1_addElement_31 rfl ?_
    refine z_iald hM dX1_addElement_32 rfl (by omega) (by omega) (fun v8 h_v8 o_v8 t_v8 => ?_)
    have e_v8 : n0 = v8 := ((t_v8 (Or.inr (Or.inr (Or.inl ⟨rfl, Or.inl rfl⟩)))).trans qg0).symm
    subst e_v8
    refine r_imulE hC ((4 * n0)) dX1_addElement_33 (by omega) (by unfold inR; omega) ?_
    refine r_iload_n hC dX1_addElement_34 rfl ?_
    refine r_iaddE hC (((4 * n0) + v1)) dX1_addElement_35 (by omega) (by unfold inR; omega) ?_
    refine z_iald hM dX1_addElement_36 rfl (by omega) (by omega) (fun v9 h_v9 o_v9 t_v9 => ?_)
    have q_v9 : 0 ≤ v9 ∧ v9 ≤ 3 := o_v9
    exact J37_4 (v9) σ (by omega) (Gx.rf) (by have hq := qg0; omega)
  · refine r_iload_n hC dX1_addElement_18 rfl ?_
    refine r_goto (tgt := 37) hC dX1_addElement_19 rfl ?_
    exact J37_4 (v1) σ (by omega) (Gx.rf) (by have hq := qg0; omega)
theorem qs_appendS {eb : Bool} {d : Nat} {P : Option Vl → Mm → Prop} {σ : Mm} {v o : Int} (b_v : -1000 ≤ v ∧ v ≤ 1000) (b_o : 0 ≤ o ∧ o ≤ 9) (ho : σ 14 0 5 = o) (hF : InF σ)  (k : ∀ ρ : Mm, FS σ ρ → InF ρ → P none ρ) : WT (false, true, eb) (d + 3) 14 [vR 14 0, vI v] σ P := by
  refine WT_in fun K hK => ?_
  have hK : StpY (false, true, eb) cX1_append RX1 (none) (WT (false, true, eb) (d + 2)) P K := hK
  have hM := hK.1
  have hC := hK.1.1
  show K 0 [some (vR 14 0), some (vI v)] [] σ
  refine r_aload_n hC dX1_append_0 rfl ?_
  refine z_getI (jz := 5) hM dX1_append_1 fl_RX1_30 rfl rfl rfl (fun v1 h_v1 o_v1 t_v1 => ?_)
  rw [(t_v1 (Or.inr (Or.inr (Or.inl ⟨rfl, Or.inl rfl⟩)))).trans ho]
  rcases (by omega : (o < 0 ∨ 8 < o) ∨ o = 0 ∨ o = 1 ∨ o = 2 ∨ o = 3 ∨ o = 4 ∨ o = 5 ∨ o = 6 ∨ o = 7 ∨ o = 8) with h2 | h2 | h2 | h2 | h2 | h2 | h2 | h2 | h2 | h2
  · refine r_tableOut (tgt := 128) hC dX1_append_4 h2 rfl ?_
    refine r_aload_n hC dX1_append_128 rfl ?_
    refine r_iload_n hC dX1_append_129 rfl ?_
    refine z_inv1 hM dX1_append_130 vl_RX1_85 rfl rfl rfl (Nat.le_of_ble_eq_true rfl) (Nat.le_of_ble_eq_true rfl) ?_
    refine qs_addElement (n0 := σ 17 0 0) (by omega) (hF.1 (by omega)) rfl (fun ρ3 g_ρ3 f_ρ3 => ?_)
    refine r_aload_n hC dX1_append_133 rfl ?_
    refine r_dup hC dX1_append_134 rfl ?_
    refine z_getI (jz := 6) hM dX1_append_135 fl_RX1_34 rfl rfl rfl (fun v4 h_v4 o_v4 t_v4 => ?_)
    refine r_iconst hC dX1_append_138 rfl ?_
    refine r_iaddG hC dX1_append_139 (fun v5 h_v5 => ?_)
    refine z_putIU (jz := 6) hM dX1_append_140 fw_RX1_34 rfl rfl rfl (by simp [Un, Tb, DL, DF, DR, DX]) (by simp [Okv]) ?_
    refine y_vret hK rfl dX1_append_143 ?_
    exact k _ (g_ρ3) (⟨fun _ => f_ρ3, fun h => by have := (g_ρ3) 14 0 5 (by simp); omega⟩)
  · refine r_tableIn (tgt := 56) (off := 52) hC dX1_append_4 (by omega) (by omega) (by rw [h2]; rfl) rfl ?_
    refine r_aload_n hC dX1_append_56 rfl ?_
    refine r_iload_n hC dX1_append_57 rfl ?_
    refine z_inv1 hM dX1_append_58 vl_RX1_57 rfl rfl rfl (Nat.le_of_ble_eq_true rfl) (Nat.le_of_ble_eq_true rfl) ?_
    refine qs_addGreatest (by omega) (fun ρ6 g_ρ6 => ?_)
    refine r_goto (tgt := 133) hC dX1_append_61 rfl ?_
    refine r_aload_n hC dX1_append_133 rfl ?_
    refine r_dup hC dX1_append_134 rfl ?_
    refine z_getI (jz := 6) hM dX1_append_135 fl_RX1_34 rfl rfl rfl (fun v7 h_v7 o_v7 t_v7 => ?_)
    refine r_iconst hC dX1_append_138 rfl ?_
    refine r_iaddG hC dX1_append_139 (fun v8 h_v8 => ?_)
    refine z_putIU (jz := 6) hM dX1_append_140 fw_RX1_34 rfl rfl rfl (by simp [Un, Tb, DL, DF, DR, DX]) (by simp [Okv]) ?_
    refine y_vret hK rfl dX1_append_143 ?_
    exact k _ (g_ρ6) (⟨fun h => by have := (g_ρ6) 14 0 5 (by simp); omega, fun h => by have := (g_ρ6) 14 0 5 (by simp); omega⟩)
  · refine r_tableIn (tgt := 64) (off := 60) hC dX1_append_4 (by omega) (by omega) (by rw [h2]; rfl) rfl ?_
    refine r_aload_n hC dX1_append_64 rfl ?_
    refine r_iload_n hC dX1_append_65 rfl ?_
    refine z_inv1 hM dX1_append_66 vl_RX1_61 rfl rfl rfl (Nat.le_of_ble_eq_true rfl) (Nat.le_of_ble_eq_true rfl) ?_
    refine qs_addShare (n0 := σ 17 0 0) (by omega) (hF.2 (by omega)) rfl (fun ρ9 g_ρ9 f_ρ9 => ?_)
    refine r_goto (tgt := 133) hC dX1_append_69 rfl ?_
    refine r_aload_n hC dX1_append_133 rfl ?_
    refine r_dup hC dX1_append_134 rfl ?_
    refine z_getI (jz := 6) hM dX1_append_135 fl_RX1_34 rfl rfl rfl (fun v10 h_v10 o_v10 t_v10 => ?_)
    refine r_iconst hC dX1_append_138 rfl ?_
    refine r_iaddG hC dX1_append_139 (fun v11 h_v11 => ?_)
    refine z_putIU (jz := 6) hM dX1_append_140 fw_RX1_34 rfl rfl rfl (by simp [Un, Tb, DL, DF, DR, DX]) (by simp [Okv]) ?_
    refine y_vret hK rfl dX1_append_143 ?_
    exact k _ (g_ρ9) (⟨fun h => by have := (g_ρ9) 14 0 5 (by simp); omega, fun _ => f_ρ9⟩)
  · refine r_tableIn (tgt := 72) (off := 68) hC dX1_append_4 (by omega) (by omega) (by rw [h2]; rfl) rfl ?_
    refine r_aload_n hC dX1_append_72 rfl ?_
    refine r_iload_n hC dX1_append_73 rfl ?_
    refine z_inv1 hM dX1_append_74 vl_RX1_64 rfl rfl rfl (Nat.le_of_ble_eq_true rfl) (Nat.le_of_ble_eq_true rfl) ?_
    refine qs_addLine (by omega) (fun ρ12 g_ρ12 => ?_)
    refine r_goto (tgt := 133) hC dX1_append_77 rfl ?_
    refine r_aload_n hC dX1_append_133 rfl ?_
    refine r_dup hC dX1_append_134 rfl ?_
    refine z_getI (jz := 6) hM dX1_append_135 fl_RX1_34 rfl rfl rfl (fun v13 h_v13 o_v13 t_v13 => ?_)
    refine r_iconst hC dX1_append_138 rfl ?_
    refine r_iaddG hC dX1_append_139 (fun v14 h_v14 => ?_)
    refine z_putIU (jz := 6) hM dX1_append_140 fw_RX1_34 rfl rfl rfl (by simp [Un, Tb, DL, DF, DR, DX]) (by simp [Okv]) ?_
    refine y_vret hK rfl dX1_append_143 ?_
    exact k _ (g_ρ12) (⟨fun h => by have := (g_ρ12) 14 0 5 (by simp); omega, fun h => by have := (g_ρ12) 14 0 5 (by simp); omega⟩)
  · refine r_tableIn (tgt := 80) (off := 76) hC dX1_append_4 (by omega) (by omega) (by rw [h2]; rfl) rfl ?_
    refine r_aload_n hC dX1_append_80 rfl ?_
    refine r_iload_n hC dX1_append_81 rfl ?_
    refine z_inv1 hM dX1_append_82 vl_RX1_67 rfl rfl rfl (Nat.le_of_ble_eq_true rfl) (Nat.le_of_ble_eq_true rfl) ?_
    refine qs_addRun (by omega) (fun ρ15 g_ρ15 => ?_)
    refine r_goto (tgt := 133) hC dX1_append_85 rfl ?_
    refine r_aload_n hC dX1_append_133 rfl ?_
    refine r_dup hC dX1_append_134 rfl ?_
    refine z_getI (jz := 6) hM dX1_append_135 fl_RX1_34 rfl rfl rfl (fun v16 h_v16 o_v16 t_v16 => ?_)
    refine r_iconst hC dX1_append_138 rfl ?_
    refine r_iaddG hC dX1_append_139 (fun v17 h_v17 => ?_)
    refine z_putIU (jz := 6) hM dX1_append_140 fw_RX1_34 rfl rfl rfl (by simp [Un, Tb, DL, DF, DR, DX]) (by simp [Okv]) ?_
    refine y_vret hK rfl dX1_append_143 ?_
    exact k _ (g_ρ15) (⟨fun h => by have := (g_ρ15) 14 0 5 (by simp); omega, fun h => by have := (g_ρ15) 14 0 5 (by simp); omega⟩)
  · refine r_tableIn (tgt := 88) (off := 84) hC dX1_append_4 (by omega) (by omega) (by rw [h2]; rfl) rfl ?_
    refine r_aload_n hC dX1_append_88 rfl ?_
    refine r_iload_n hC dX1_append_89 rfl ?_
    refine z_inv1 hM dX1_append_90 vl_RX1_70 rfl rfl rfl (Nat.le_of_ble_eq_true rfl) (Nat.le_of_ble_eq_true rfl) ?_
    refine qs_addLetter (by omega) (fun ρ18 g_ρ18 => ?_)
    refine r_goto (tgt := 133) hC dX1_append_93 rfl ?_
    refine r_aload_n hC dX1_append_133 rfl ?_
    refine r_dup hC dX1_append_134 rfl ?_
    refine z_getI (jz := 6) hM dX1_append_135 fl_RX1_34 rfl rfl rfl (fun v19 h_v19 o_v19 t_v19 => ?_)
    refine r_iconst hC dX1_append_138 rfl ?_
    refine r_iaddG hC dX1_append_139 (fun v20 h_v20 => ?_)
    refine z_putIU (jz := 6) hM dX1_append_140 fw_RX1_34 rfl rfl rfl (by simp [Un, Tb, DL, DF, DR, DX]) (by simp [Okv]) ?_
    refine y_vret hK rfl dX1_append_143 ?_
    exact k _ (g_ρ18) (⟨fun h => by have := (g_ρ18) 14 0 5 (by simp); omega, fun h => by have := (g_ρ18) 14 0 5 (by simp); omega⟩)
  · refine r_tableIn (tgt := 96) (off := 92) hC dX1_append_4 (by omega) (by omega) (by rw [h2]; rfl) rfl ?_
    refine r_aload_n hC dX1_append_96 rfl ?_
    refine r_iload_n hC dX1_append_97 rfl ?_
    refine z_inv1 hM dX1_append_98 vl_RX1_73 rfl rfl rfl (Nat.le_of_ble_eq_true rfl) (Nat.le_of_ble_eq_true rfl) ?_
    refine qs_addNest (by omega) (fun ρ21 g_ρ21 => ?_)
    refine r_goto (tgt := 133) hC dX1_append_101 rfl ?_
    refine r_aload_n hC dX1_append_133 rfl ?_
    refine r_dup hC dX1_append_134 rfl ?_
    refine z_getI (jz := 6) hM dX1_append_135 fl_RX1_34 rfl rfl rfl (fun v22 h_v22 o_v22 t_v22 => ?_)
    refine r_iconst hC dX1_append_138 rfl ?_
    refine r_iaddG hC dX1_append_139 (fun v23 h_v23 => ?_)
    refine z_putIU (jz := 6) hM dX1_append_140 fw_RX1_34 rfl rfl rfl (by simp [Un, Tb, DL, DF, DR, DX]) (by simp [Okv]) ?_
    refine y_vret hK rfl dX1_append_143 ?_
    exact k _ (g_ρ21) (⟨fun h => by have := (g_ρ21) 14 0 5 (by simp); omega, fun h => by have := (g_ρ21) 14 0 5 (by simp); omega⟩)
  · refine r_tableIn (tgt := 104) (off := 100) hC dX1_append_4 (by omega) (by omega) (by rw [h2]; rfl) rfl ?_
    refine r_aload_n hC dX1_append_104 rfl ?_
    refine r_iload_n hC dX1_append_105 rfl ?_
    refine z_inv1 hM dX1_append_106 vl_RX1_76 rfl rfl rfl (Nat.le_of_ble_eq_true rfl) (Nat.le_of_ble_eq_true rfl) ?_
    refine qs_addLike (by omega) (fun ρ24 g_ρ24 => ?_)
    refine r_goto (tgt := 133) hC dX1_append_109 rfl ?_
    refine r_aload_n hC dX1_append_133 rfl ?_
    refine r_dup hC dX1_append_134 rfl ?_
    refine z_getI (jz := 6) hM dX1_append_135 fl_RX1_34 rfl rfl rfl (fun v25 h_v25 o_v25 t_v25 => ?_)
    refine r_iconst hC dX1_append_138 rfl ?_
    refine r_iaddG hC dX1_append_139 (fun v26 h_v26 => ?_)
    refine z_putIU (jz := 6) hM dX1_append_140 fw_RX1_34 rfl rfl rfl (by simp [Un, Tb, DL, DF, DR, DX]) (by simp [Okv]) ?_
    refine y_vret hK rfl dX1_append_143 ?_
    exact k _ (g_ρ24) (⟨fun h => by have := (g_ρ24) 14 0 5 (by simp); omega, fun h => by have := (g_ρ24) 14 0 5 (by simp); omega⟩)
  · refine r_tableIn (tgt := 112) (off := 108) hC dX1_append_4 (by omega) (by omega) (by rw [h2]; rfl) rfl ?_
    refine r_aload_n hC dX1_append_112 rfl ?_
    refine r_iload_n hC dX1_append_113 rfl ?_
    refine z_inv1 hM dX1_append_114 vl_RX1_79 rfl rfl rfl (Nat.le_of_ble_eq_true rfl) (Nat.le_of_ble_eq_true rfl) ?_
    refine qs_addStep (by omega) (fun ρ27 g_ρ27 => ?_)
    refine r_goto (tgt := 133) hC dX1_append_117 rfl ?_
    refine r_aload_n hC dX1_append_133 rfl ?_
    refine r_dup hC dX1_append_134 rfl ?_
    refine z_getI (jz := 6) hM dX1_append_135 fl_RX1_34 rfl rfl rfl (fun v28 h_v28 o_v28 t_v28 => ?_)
    refine r_iconst hC dX1_append_138 rfl ?_
    refine r_iaddG hC dX1_append_139 (fun v29 h_v29 => ?_)
    refine z_putIU (jz := 6) hM dX1_append_140 fw_RX1_34 rfl rfl rfl (by simp [Un, Tb, DL, DF, DR, DX]) (by simp [Okv]) ?_
    refine y_vret hK rfl dX1_append_143 ?_
    exact k _ (g_ρ27) (⟨fun h => by have := (g_ρ27) 14 0 5 (by simp); omega, fun h => by have := (g_ρ27) 14 0 5 (by simp); omega⟩)
  · refine r_tableIn (tgt := 120) (off := 116) hC dX1_append_4 (by omega) (by omega) (by rw [h2]; rfl) rfl ?_
    refine r_aload_n hC dX1_append_120 rfl ?_
    refine r_iload_n hC dX1_append_121 rfl ?_
    refine z_inv1 hM dX1_append_122 vl_RX1_82 rfl rfl rfl (Nat.le_of_ble_eq_true rfl) (Nat.le_of_ble_eq_true rfl) ?_
    refine qs_addSpread (by omega) (fun ρ30 g_ρ30 => ?_)
    refine r_goto (tgt := 133) hC dX1_append_125 rfl ?_
    refine r_aload_n hC dX1_append_133 rfl ?_
    refine r_dup hC dX1_append_134 rfl ?_
    refine z_getI (jz := 6) hM dX1_append_135 fl_RX1_34 rfl rfl rfl (fun v31 h_v31 o_v31 t_v31 => ?_)
    refine r_iconst hC dX1_append_138 rfl ?_
    refine r_iaddG hC dX1_append_139 (fun v32 h_v32 => ?_)
    refine z_putIU (jz := 6) hM dX1_append_140 fw_RX1_34 rfl rfl rfl (by simp [Un, Tb, DL, DF, DR, DX]) (by simp [Okv]) ?_
    refine y_vret hK rfl dX1_append_143 ?_
    exact k _ (g_ρ30) (⟨fun h => by have := (g_ρ30) 14 0 5 (by simp); omega, fun h => by have := (g_ρ30) 14 0 5 (by simp); omega⟩)
theorem qs_append {eb : Bool} {d : Nat} {P : Option Vl → Mm → Prop} {σ : Mm} {v : Int} (b_v : -1000 ≤ v ∧ v ≤ 1000) (k : P none σ) : WT (false, false, eb) (d + 3) 14 [vR 14 0, vI v] σ P := by
  refine WT_loose (false, true, eb) (fun h => h) (fun h => by cases h) (fun c j q => ?_) (fun ρ hL hF hT hO => ?_)
  · rcases q with q | q | q | q
    · exact Or.inl q
    · exact Or.inr (Or.inl q)
    · cases q.1
    · exact Or.inr (Or.inr (Or.inr q))
  · refine qs_appendS b_v (o := ρ 14 0 5) (hO 14 0 5 rfl) rfl (hF rfl) (fun ρ2 g f => ⟨σ, k, fun q => Or.inl q, fun _ => Or.inr f, fun c i j q => ?_⟩)
    refine (g c i j ?_).trans (hT c i j q)
    rintro ⟨rfl, rfl, rfl⟩
    rcases q with q | q | q | q
    · exact q
    · exact q.2
    · cases q.1
    · exact q.2
theorem qs_fillN {eb : Bool} {d : Nat} {P : Option Vl → Mm → Prop} {σ : Mm} {v n0 : Int} (qg0 : σ 17 0 0 = n0)  (k : ∀ ρ : Mm, Gx (fun c x y => c = 17 ∧ x = 0 ∧ y = 0) σ ρ → ρ 17 0 0 = v → P none ρ) : WT (false, true, eb) (d + 1) 266 [vR 17 0, vI v] σ P := by
  refine WT_in fun K hK => ?_
  have hK : StpY (false, true, eb) cJ7_fill_53178 RJ7 (none) (WT (false, true, eb) (d + 0)) P K := hK
  have hM := hK.1
  have hC := hK.1.1
  show K 0 [some (vR 17 0), some (vI v), none, none] [] σ
  refine r_rngz hC (fun g0 => ?_)
  have r_v : -2147483648 ≤ v ∧ v ≤ 2147483647 := inR_le (g0 (vI v) (by simp))
  refine r_iconst hC dJ7_fill_53178_0 rfl ?_
  refine r_istore_n hC dJ7_fill_53178_1 rfl ?_
  refine r_aload_n hC dJ7_fill_53178_2 rfl ?_
  refine z_alen (nz := 7) hM dJ7_fill_53178_3 rfl rfl (by decide) ?_
  refine r_istore_n hC dJ7_fill_53178_4 rfl ?_
  refine r_iload_n hC dJ7_fill_53178_5 rfl ?_
  refine r_iload_n hC dJ7_fill_53178_6 rfl ?_
  refine r_icmp_ge (tgt := 20) hC dJ7_fill_53178_7 rfl (fun h1 => by omega) (fun h1 => ?_)
  refine r_aload_n hC dJ7_fill_53178_10 rfl ?_
  refine r_iload_n hC dJ7_fill_53178_11 rfl ?_
  refine r_iload_n hC dJ7_fill_53178_12 rfl ?_
  refine z_iastG hM dJ7_fill_53178_13 rfl (by omega) (by omega) ⟨Or.inr (by simp [DL]), Or.inl rfl⟩ (by first | trivial | (simp only [Okv]; omega) | (simp [Okv]; try omega)) (fun ρ2 a_ρ2 q_ρ2 => ?_)
  refine r_iincE hC (1) dJ7_fill_53178_14 rfl rfl (by omega) (by unfold inR; omega) ?_
  show K _ [_, _, _, _] _ _
  refine r_goto (tgt := 5) hC dJ7_fill_53178_17 rfl ?_
  have L5 : ∀ (n5 : Nat) (w3 : Int) (ρ4 : Mm), 1 ≤ w3 ∧ w3 ≤ 7 → 7 - w3 < (n5 : Int) → Gx (fun c x y => c = 17 ∧ x = 0 ∧ y = 0) σ ρ4 → ρ4 17 0 0 = v → K 5 [some (vR 17 0), some (vI v), some (vI w3), some (vI 7)] [] ρ4 := by
    intro n5
    induction n5 with
    | zero => intro w3 ρ4 f_w3  hm g_ρ4 q0_ρ4 ; omega
    | succ n5 ih5 =>
      intro w3 ρ4 f_w3  hm5 g_ρ4 q0_ρ4 
      refine r_iload_n hC dJ7_fill_53178_5 rfl ?_
      refine r_iload_n hC dJ7_fill_53178_6 rfl ?_
      refine r_icmp_ge (tgt := 20) hC dJ7_fill_53178_7 rfl (fun h5 => ?_) (fun h5 => ?_)
      · refine y_vret hK rfl dJ7_fill_53178_20 ?_
        exact k _ (g_ρ4) (by have hq := q0_ρ4; omega)
      · refine r_aload_n hC dJ7_fill_53178_10 rfl ?_
        refine r_iload_n hC dJ7_fill_53178_11 rfl ?_
        refine r_iload_n hC dJ7_fill_53178_12 rfl ?_
        refine z_iastU hM dJ7_fill_53178_13 rfl (by omega) (by omega) (by simp [Un, Tb, DL, DF, DR, DX]; try omega) (by simp [Okv]) ?_
        refine r_iincE hC ((w3 + 1)) dJ7_fill_53178_14 rfl rfl (by omega) (by unfold inR; omega) ?_
        refine r_goto (tgt := 5) hC dJ7_fill_53178_17 rfl ?_
        exact ih5 ((w3 + 1)) ρ4 (by omega)  (by omega) (g_ρ4) (by have hq := q0_ρ4; omega) 
  exact L5 8 (1) ρ2 (by omega)  (by omega) ((Gx.rf).al a_ρ2 (by first | (simp; done) | omega | (simp; omega))) (by have hq := q_ρ2; omega) 
theorem qs_beginS {eb : Bool} {d : Nat} {P : Option Vl → Mm → Prop} {σ : Mm} {o o0 n0 : Int} (b_o : 0 ≤ o ∧ o ≤ 9) (b_o0 : 0 ≤ o0 ∧ o0 ≤ 9) (qg0 : σ 14 0 5 = o0) (qg1 : σ 17 0 0 = n0)  (k : ∀ ρ : Mm, Gx (fun c x y => c = 14 ∧ x = 0 ∧ y = 5 ∨ c = 17 ∧ x = 0 ∧ y = 0) σ ρ → InF ρ → P none ρ) : WT (false, true, eb) (d + 2) 9 [vR 14 0, vI o] σ P := by
  refine WT_in fun K hK => ?_
  have hK : StpY (false, true, eb) cX1_begin RX1 (none) (WT (false, true, eb) (d + 1)) P K := hK
  have hM := hK.1
  have hC := hK.1.1
  show K 0 [some (vR 14 0), some (vI o), none] [] σ
  refine r_aload_n hC dX1_begin_0 rfl ?_
  refine r_iload_n hC dX1_begin_1 rfl ?_
  refine z_putIG (jz := 5) hM dX1_begin_2 fw_RX1_30 rfl rfl rfl ⟨Or.inr (by simp [DL]), Or.inl rfl⟩ (by first | trivial | (simp only [Okv]; omega) | (simp [Okv]; try omega)) (fun ρ1 a_ρ1 q_ρ1 => ?_)
  refine r_aload_n hC dX1_begin_5 rfl ?_
  refine r_iconst hC dX1_begin_6 rfl ?_
  refine z_putIU (jz := 6) hM dX1_begin_7 fw_RX1_34 rfl rfl rfl (by simp [Un, Tb, DL, DF, DR, DX]) (by simp [Okv]) ?_
  refine r_aload_n hC dX1_begin_10 rfl ?_
  refine r_iconst hC dX1_begin_11 rfl ?_
  refine z_putIU (jz := 7) hM dX1_begin_12 fw_RX1_37 rfl rfl rfl (by simp [Un, Tb, DL, DF, DR, DX]) (by simp [Okv]) ?_
  refine r_aload_n hC dX1_begin_15 rfl ?_
  refine z_getR hM dX1_begin_16 fl_RX1_24 rfl rfl (vld_of (n := 1) rfl (by omega) (by omega)) ?_
  refine r_iconst hC dX1_begin_19 rfl ?_
  refine z_ins2 hM dX1_begin_20 tl_RX1_18 rfl (Nat.le_of_ble_eq_true rfl) (Nat.le_of_ble_eq_true rfl) ?_
  refine qs_fillN (n0 := n0) ((a_ρ1 _ _ _ (by omega)).trans qg1) (fun ρ2 a_ρ2 q_ρ2 => ?_)
  refine r_iload_n hC dX1_begin_23 rfl ?_
  refine r_iconst hC dX1_begin_24 rfl ?_
  refine r_icmp_ne (tgt := 38) hC dX1_begin_25 rfl (fun h3 => ?_) (fun h3 => ?_)
  · refine r_iload_n hC dX1_begin_38 rfl ?_
    refine r_iconst hC dX1_begin_39 rfl ?_
    refine r_icmp_ne (tgt := 66) hC dX1_begin_40 rfl (fun h4 => ?_) (fun h4 => ?_)
    · refine r_iload_n hC dX1_begin_66 rfl ?_
      refine r_bipush hC dX1_begin_67 rfl ?_
      refine r_icmp_ne (tgt := 88) hC dX1_begin_69 rfl (fun h5 => ?_) (fun h5 => ?_)
      · refine y_vret hK rfl dX1_begin_88 ?_
        exact k _ (((Gx.rf).al a_ρ1 (by first | (simp; done) | omega | (simp; omega))).al a_ρ2 (by first | (simp; done) | omega | (simp; omega))) ⟨fun h => by have hq := ((a_ρ2 _ _ _ (by omega)).trans q_ρ1); have hr := q_ρ2; omega, fun h => by have hq := ((a_ρ2 _ _ _ (by omega)).trans q_ρ1); have hr := q_ρ2; omega⟩
      · refine r_aload_n hC dX1_begin_72 rfl ?_
        refine z_getR hM dX1_begin_73 fl_RX1_24 rfl rfl (vld_of (n := 1) rfl (by omega) (by omega)) ?_
        refine r_iconst hC dX1_begin_76 rfl ?_
        refine r_ldc hC dX1_begin_77 co_RX1_40 rfl ?_
        refine z_iastG hM dX1_begin_79 rfl (by omega) (by omega) ⟨Or.inr (by simp [DL]), Or.inl rfl⟩ (by first | trivial | (simp only [Okv]; omega) | (simp [Okv]; try omega)) (fun ρ6 a_ρ6 q_ρ6 => ?_)
        refine r_aload_n hC dX1_begin_80 rfl ?_
        refine z_getR hM dX1_begin_81 fl_RX1_24 rfl rfl (vld_of (n := 1) rfl (by omega) (by omega)) ?_
        refine r_iconst hC dX1_begin_84 rfl ?_
        refine r_ldc hC dX1_begin_85 co_RX1_40 rfl ?_
        refine z_iastU hM dX1_begin_87 rfl (by omega) (by omega) (by simp [Un, Tb, DL, DF, DR, DX]; try omega) (by simp [Okv]) ?_
        refine y_vret hK rfl dX1_begin_88 ?_
        exact k _ ((((Gx.rf).al a_ρ1 (by first | (simp; done) | omega | (simp; omega))).al a_ρ2 (by first | (simp; done) | omega | (simp; omega))).al a_ρ6 (by first | (simp; done) | omega | (simp; omega))) ⟨fun h => by have hq := ((a_ρ6 _ _ _ (by omega)).trans ((a_ρ2 _ _ _ (by omega)).trans q_ρ1)); have hr := q_ρ6; omega, fun h => by have hq := ((a_ρ6 _ _ _ (by omega)).trans ((a_ρ2 _ _ _ (by omega)).trans q_ρ1)); have hr := q_ρ6; omega⟩
    · refine r_iconst hC dX1_begin_43 rfl ?_
      refine r_istore_n hC dX1_begin_44 rfl ?_
      refine r_iload_n hC dX1_begin_45 rfl ?_
      refine r_iconst hC dX1_begin_46 rfl ?_
      refine r_icmp_ge (tgt := 63) hC dX1_begin_47 rfl (fun h7 => by omega) (fun h7 => ?_)
      refine r_aload_n hC dX1_begin_50 rfl ?_
      refine z_getR hM dX1_begin_51 fl_RX1_24 rfl rfl (vld_of (n := 1) rfl (by omega) (by omega)) ?_
      refine r_iload_n hC dX1_begin_54 rfl ?_
      refine r_iload_n hC dX1_begin_55 rfl ?_
      refine z_iastG hM dX1_begin_56 rfl (by omega) (by omega) ⟨Or.inr (by simp [DL]), Or.inl rfl⟩ (by first | trivial | (simp only [Okv]; omega) | (simp [Okv]; try omega)) (fun ρ8 a_ρ8 q_ρ8 => ?_)
      refine r_iincE hC (1) dX1_begin_57 rfl rfl (by omega) (by unfold inR; omega) ?_
      refine r_goto (tgt := 45) hC dX1_begin_60 rfl ?_
      refine r_iload_n hC dX1_begin_45 rfl ?_
      refine r_iconst hC dX1_begin_46 rfl ?_
      refine r_icmp_ge (tgt := 63) hC dX1_begin_47 rfl (fun h9 => by omega) (fun h9 => ?_)
      refine r_aload_n hC dX1_begin_50 rfl ?_
      refine z_getR hM dX1_begin_51 fl_RX1_24 rfl rfl (vld_of (n := 1) rfl (by omega) (by omega)) ?_
      refine r_iload_n hC dX1_begin_54 rfl ?_
      refine r_iload_n hC dX1_begin_55 rfl ?_
      refine z_iastU hM dX1_begin_56 rfl (by omega) (by omega) (by simp [Un, Tb, DL, DF, DR, DX]; try omega) (by simp [Okv]) ?_
      refine r_iincE hC (2) dX1_begin_57 rfl rfl (by omega) (by unfold inR; omega) ?_
      show K _ [_, _, _] _ _
      refine r_goto (tgt := 45) hC dX1_begin_60 rfl ?_
      refine r_iload_n hC dX1_begin_45 rfl ?_
      refine r_iconst hC dX1_begin_46 rfl ?_
      refine r_icmp_ge (tgt := 63) hC dX1_begin_47 rfl (fun h10 => by omega) (fun h10 => ?_)
      refine r_aload_n hC dX1_begin_50 rfl ?_
      refine z_getR hM dX1_begin_51 fl_RX1_24 rfl rfl (vld_of (n := 1) rfl (by omega) (by omega)) ?_
      refine r_iload_n hC dX1_begin_54 rfl ?_
      refine r_iload_n hC dX1_begin_55 rfl ?_
      refine z_iastU hM dX1_begin_56 rfl (by omega) (by omega) (by simp [Un, Tb, DL, DF, DR, DX]; try omega) (by simp [Okv]) ?_
      refine r_iincE hC (3) dX1_begin_57 rfl rfl (by omega) (by unfold inR; omega) ?_
      refine r_goto (tgt := 45) hC dX1_begin_60 rfl ?_
      refine r_iload_n hC dX1_begin_45 rfl ?_
      refine r_iconst hC dX1_begin_46 rfl ?_
      refine r_icmp_ge (tgt := 63) hC dX1_begin_47 rfl (fun h11 => by omega) (fun h11 => ?_)
      refine r_aload_n hC dX1_begin_50 rfl ?_
      refine z_getR hM dX1_begin_51 fl_RX1_24 rfl rfl (vld_of (n := 1) rfl (by omega) (by omega)) ?_
      refine r_iload_n hC dX1_begin_54 rfl ?_
      refine r_iload_n hC dX1_begin_55 rfl ?_
      refine z_iastU hM dX1_begin_56 rfl (by omega) (by omega) (by simp [Un, Tb, DL, DF, DR, DX]; try omega) (by simp [Okv]) ?_
      refine r_iincE hC (4) dX1_begin_57 rfl rfl (by omega) (by unfold inR; omega) ?_
      refine r_goto (tgt := 45) hC dX1_begin_60 rfl ?_
      refine r_iload_n hC dX1_begin_45 rfl ?_
      refine r_iconst hC dX1_begin_46 rfl ?_
      refine r_icmp_ge (tgt := 63) hC dX1_begin_47 rfl (fun h12 => ?_) (fun h12 => by omega)
      refine r_goto (tgt := 88) hC dX1_begin_63 rfl ?_
      refine y_vret hK rfl dX1_begin_88 ?_
      exact k _ ((((Gx.rf).al a_ρ1 (by first | (simp; done) | omega | (simp; omega))).al a_ρ2 (by first | (simp; done) | omega | (simp; omega))).al a_ρ8 (by first | (simp; done) | omega | (simp; omega))) ⟨fun h => by have hq := ((a_ρ8 _ _ _ (by omega)).trans ((a_ρ2 _ _ _ (by omega)).trans q_ρ1)); have hr := q_ρ8; omega, fun h => by have hq := ((a_ρ8 _ _ _ (by omega)).trans ((a_ρ2 _ _ _ (by omega)).trans q_ρ1)); have hr := q_ρ8; omega⟩
  · refine r_aload_n hC dX1_begin_28 rfl ?_
    refine z_getR hM dX1_begin_29 fl_RX1_24 rfl rfl (vld_of (n := 1) rfl (by omega) (by omega)) ?_
    refine r_iconst hC dX1_begin_32 rfl ?_
    refine r_iconst hC dX1_begin_33 rfl ?_
    refine z_iastG hM dX1_begin_34 rfl (by omega) (by omega) ⟨Or.inr (by simp [DL]), Or.inl rfl⟩ (by first | trivial | (simp only [Okv]; omega) | (simp [Okv]; try omega)) (fun ρ13 a_ρ13 q_ρ13 => ?_)
    refine r_goto (tgt := 88) hC dX1_begin_35 rfl ?_
    refine y_vret hK rfl dX1_begin_88 ?_
    exact k _ ((((Gx.rf).al a_ρ1 (by first | (simp; done) | omega | (simp; omega))).al a_ρ2 (by first | (simp; done) | omega | (simp; omega))).al a_ρ13 (by first | (simp; done) | omega | (simp; omega))) ⟨fun h => by have hq := ((a_ρ13 _ _ _ (by omega)).trans ((a_ρ2 _ _ _ (by omega)).trans q_ρ1)); have hr := q_ρ13; omega, fun h => by have hq := ((a_ρ13 _ _ _ (by omega)).trans ((a_ρ2 _ _ _ (by omega)).trans q_ρ1)); have hr := q_ρ13; omega⟩
theorem qs_begin {eb : Bool} {d : Nat} {P : Option Vl → Mm → Prop} {σ : Mm} {o : Int} (b_o : 0 ≤ o ∧ o ≤ 9) (k : P none σ) : WT (false, false, eb) (d + 2) 9 [vR 14 0, vI o] σ P := by
  refine WT_loose (false, true, eb) (fun h => h) (fun h => by cases h) (fun c j q => ?_) (fun ρ hL hF hT hO => ?_)
  · rcases q with q | q | q | q
    · exact Or.inl q
    · exact Or.inr (Or.inl q)
    · cases q.1
    · exact Or.inr (Or.inr (Or.inr q))
  · refine qs_beginS b_o (o0 := ρ 14 0 5) (hO 14 0 5 rfl) rfl (n0 := ρ 17 0 0) rfl (fun ρ2 g f => ⟨σ, k, fun q => Or.inl q, fun _ => Or.inr f, fun c i j q => ?_⟩)
    refine (g c i j ?_).trans (hT c i j q)
    rintro (⟨rfl, rfl, rfl⟩ | ⟨rfl, rfl, rfl⟩)
    all_goals
      rcases q with q | q | q | q
      · exact q
      · exact q.2
      · cases q.1
      · exact q.2
