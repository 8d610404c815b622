-- B: the class: MOVES, wide
theorem x_endMoveW {eb ec : Bool} {d : Nat} {P : Option Vl → Mm → Prop} {σ : Mm} {i c f m b l q s o : Int} (b_i : 0 ≤ i ∧ i ≤ 7) (b_c : 0 ≤ c ∧ c ≤ 1) (b_f : -1 ≤ f ∧ f ≤ 400) (qg0 : σ 11 i 0 = f) (b_m : 0 ≤ m ∧ m ≤ 400) (qg1 : σ 11 i 1 = m) (b_b : 0 ≤ b ∧ b ≤ 401) (qg2 : σ 11 i 2 = b) (b_l : 0 ≤ l ∧ l ≤ 1000) (qg3 : σ 11 i 3 = l) (qg4 : σ 11 i 4 = q) (qg5 : σ 11 i 5 = s) (qg6 : σ 11 i 6 = o)  (k : ∀ ρ : Mm, Gx (fun c x y => c = 11 ∧ x = i ∧ 0 ≤ y ∧ y ≤ 6) σ ρ → ρ 11 i 0 = (if (if m = 0 ∧ b > f then b + f else l) - min 3 (if m = 0 ∧ b > f then b + f else l) = 0 then f + (if m = 0 ∧ b > f then b else m) else f) → ρ 11 i 1 = (if (if m = 0 ∧ b > f then b + f else l) - min 3 (if m = 0 ∧ b > f then b + f else l) = 0 then 0 else (if m = 0 ∧ b > f then b else m)) → ρ 11 i 2 = (if m = 0 ∧ b > f then 0 else b) → ρ 11 i 3 = ((if m = 0 ∧ b > f then b + f else l) - min 3 (if m = 0 ∧ b > f then b + f else l)) → ρ 11 i 4 = (((if m = 0 ∧ b > f then c - 1 else c) + min 3 (if m = 0 ∧ b > f then b + f else l))) → ρ 11 i 5 = (wr (s + ((if m = 0 ∧ b > f then c - 1 else c) + min 3 (if m = 0 ∧ b > f then b + f else l)))) → ρ 11 i 6 = (max o ((if m = 0 ∧ b > f then c - 1 else c) + min 3 (if m = 0 ∧ b > f then b + f else l))) → P none ρ) : WT (true, eb, ec) (d + 2) 6 [vR 11 i, vI c] σ P := by
  refine WT_in fun K hK => ?_
  have hK : StpY (true, eb, ec) cX0_endMove RX0 (none) (WT (true, eb, ec) (d + 1)) P K := hK
  have hM := hK.1
  have hC := hK.1.1
  show K 0 [some (vR 11 i), some (vI c), none, none] [] σ
  refine r_iload_n hC dX0_endMove_0 rfl ?_
  refine r_istore_n hC dX0_endMove_1 rfl ?_
  refine r_aload_n hC dX0_endMove_2 rfl ?_
  refine z_getI (jz := 1) hM dX0_endMove_3 fl_RX0_15 rfl rfl rfl (fun v1 h_v1 o_v1 t_v1 => ?_)
  have e_v1 : m = v1 := ((t_v1 ((Or.inl (by first | exact trivial | exact tb7_ (by decide) | simp [Tb])))).trans qg1).symm
  clear t_v1
  subst e_v1
  refine r_if_ne (tgt := 49) hC dX0_endMove_6 rfl (fun h2 => ?_) (fun h2 => ?_)
  · refine r_iconst hC dX0_endMove_49 rfl ?_
    refine r_aload_n hC dX0_endMove_50 rfl ?_
    refine z_getI (jz := 3) hM dX0_endMove_51 fl_RX0_21 rfl rfl rfl (fun v3 h_v3 o_v3 t_v3 => ?_)
    have e_v3 : l = v3 := ((t_v3 ((Or.inl (by first | exact trivial | exact tb7_ (by decide) | simp [Tb])))).trans qg3).symm
    clear t_v3
    subst e_v3
    refine z_ins2 hM dX0_endMove_54 tl_RX0_43 rfl (Nat.le_of_ble_eq_true rfl) (Nat.le_of_ble_eq_true rfl) ?_
    refine x_min (fun v4 h_v4 => ?_)
    refine r_istore_n hC dX0_endMove_57 rfl ?_
    refine r_aload_n hC dX0_endMove_58 rfl ?_
    refine r_dup hC dX0_endMove_59 rfl ?_
    refine z_getI (jz := 3) hM dX0_endMove_60 fl_RX0_21 rfl rfl rfl (fun v5 h_v5 o_v5 t_v5 => ?_)
    have e_v5 : l = v5 := ((t_v5 ((Or.inl (by first | exact trivial | exact tb7_ (by decide) | simp [Tb])))).trans qg3).symm
    clear t_v5
    subst e_v5
    refine r_iload_n hC dX0_endMove_63 rfl ?_
    refine r_isubE hC ((l - v4)) dX0_endMove_64 (by omega) (by unfold inR; omega) ?_
    refine z_putIG (jz := 3) hM dX0_endMove_65 fw_RX0_21 rfl rfl rfl ⟨Or.inr (by first | exact id | exact dl7_ (by decide) | simp [DL]), Or.inr (by first | exact id | exact df14_ (by decide) | simp [DF])⟩ (by first | trivial | (simp only [Okv]; omega) | (simp [Okv]; try omega)) (fun ρ6 a_ρ6 q_ρ6 => ?_)
    refine r_iload_n hC dX0_endMove_68 rfl ?_
    refine r_iload_n hC dX0_endMove_69 rfl ?_
    refine r_iaddE hC ((c + v4)) dX0_endMove_70 (by omega) (by unfold inR; omega) ?_
    refine r_istore_n hC dX0_endMove_71 rfl ?_
    refine r_aload_n hC dX0_endMove_72 rfl ?_
    refine z_getI (jz := 3) hM dX0_endMove_73 fl_RX0_21 rfl rfl rfl (fun v7 h_v7 o_v7 t_v7 => ?_)
    have e_v7 : (l - v4) = v7 := ((t_v7 ((Or.inl (by first | exact trivial | exact tb7_ (by decide) | simp [Tb])))).trans q_ρ6).symm
    clear t_v7
    subst e_v7
    refine r_if_ne (tgt := 97) hC dX0_endMove_76 rfl (fun h8 => ?_) (fun h8 => ?_)
    · refine r_aload_n hC dX0_endMove_97 rfl ?_
      refine r_iload_n hC dX0_endMove_98 rfl ?_
      refine z_putIG (jz := 4) hM dX0_endMove_99 fw_RX0_24 rfl rfl rfl ⟨Or.inr (by first | exact id | exact dl7_ (by decide) | simp [DL]), Or.inr (by first | exact id | exact df14_ (by decide) | simp [DF])⟩ (by first | trivial | (simp only [Okv]; omega) | (simp [Okv]; try omega)) (fun ρ9 a_ρ9 q_ρ9 => ?_)
      refine r_aload_n hC dX0_endMove_102 rfl ?_
      refine r_dup hC dX0_endMove_103 rfl ?_
      refine z_getI (jz := 5) hM dX0_endMove_104 fl_RX0_27 rfl rfl rfl (fun v10 h_v10 o_v10 t_v10 => ?_)
      have e_v10 : s = v10 := ((t_v10 ((Or.inl (by first | exact trivial | exact tb7_ (by decide) | simp [Tb])))).trans ((a_ρ9 _ _ _ (by first | exact xs_ (by decide) | exact xc_ (by decide) | omega)).trans ((a_ρ6 _ _ _ (by first | exact xs_ (by decide) | exact xc_ (by decide) | omega)).trans qg5))).symm
      clear t_v10
      subst e_v10
      refine r_iload_n hC dX0_endMove_107 rfl ?_
      refine r_iadd hC dX0_endMove_108 ?_
      have f11 := inR_le (inR_wr (s + (c + v4)))
      refine z_putIG (jz := 5) hM dX0_endMove_109 fw_RX0_27 rfl rfl rfl ⟨Or.inr (by first | exact id | exact dl7_ (by decide) | simp [DL]), Or.inr (by first | exact id | exact df14_ (by decide) | simp [DF])⟩ (by first | trivial | (simp only [Okv]; omega) | (simp [Okv]; try omega)) (fun ρ12 a_ρ12 q_ρ12 => ?_)
      refine r_aload_n hC dX0_endMove_112 rfl ?_
      refine r_aload_n hC dX0_endMove_113 rfl ?_
      refine z_getI (jz := 6) hM dX0_endMove_114 fl_RX0_30 rfl rfl rfl (fun v13 h_v13 o_v13 t_v13 => ?_)
      have e_v13 : o = v13 := ((t_v13 ((Or.inl (by first | exact trivial | exact tb7_ (by decide) | simp [Tb])))).trans ((a_ρ12 _ _ _ (by first | exact xs_ (by decide) | exact xc_ (by decide) | omega)).trans ((a_ρ9 _ _ _ (by first | exact xs_ (by decide) | exact xc_ (by decide) | omega)).trans ((a_ρ6 _ _ _ (by first | exact xs_ (by decide) | exact xc_ (by decide) | omega)).trans qg6)))).symm
      clear t_v13
      subst e_v13
      refine r_iload_n hC dX0_endMove_117 rfl ?_
      refine z_ins2 hM dX0_endMove_118 tl_RX0_37 rfl (Nat.le_of_ble_eq_true rfl) (Nat.le_of_ble_eq_true rfl) ?_
      refine x_max (fun v14 h_v14 => ?_)
      refine z_putIG (jz := 6) hM dX0_endMove_121 fw_RX0_30 rfl rfl rfl ⟨Or.inr (by first | exact id | exact dl7_ (by decide) | simp [DL]), Or.inr (by first | exact id | exact df14_ (by decide) | simp [DF])⟩ (by first | trivial | (simp only [Okv]; omega) | (simp [Okv]; try omega)) (fun ρ15 a_ρ15 q_ρ15 => ?_)
      refine y_vret hK rfl dX0_endMove_124 ?_
      exact k _ (((((Gx.rf).al a_ρ6 (by first | (simp; done) | omega | (simp; omega))).al a_ρ9 (by first | (simp; done) | omega | (simp; omega))).al a_ρ12 (by first | (simp; done) | omega | (simp; omega))).al a_ρ15 (by first | (simp; done) | omega | (simp; omega))) (by have hq := ((a_ρ15 _ _ _ (by first | exact xs_ (by decide) | exact xc_ (by decide) | omega)).trans ((a_ρ12 _ _ _ (by first | exact xs_ (by decide) | exact xc_ (by decide) | omega)).trans ((a_ρ9 _ _ _ (by first | exact xs_ (by decide) | exact xc_ (by decide) | omega)).trans ((a_ρ6 _ _ _ (by first | exact xs_ (by decide) | exact xc_ (by decide) | omega)).trans qg0)))); refine hq.trans ?_; (repeat' split) <;> omega) (by have hq := ((a_ρ15 _ _ _ (by first | exact xs_ (by decide) | exact xc_ (by decide) | omega)).trans ((a_ρ12 _ _ _ (by first | exact xs_ (by decide) | exact xc_ (by decide) | omega)).trans ((a_ρ9 _ _ _ (by first | exact xs_ (by decide) | exact xc_ (by decide) | omega)).trans ((a_ρ6 _ _ _ (by first | exact xs_ (by decide) | exact xc_ (by decide) | omega)).trans qg1)))); refine hq.trans ?_; (repeat' split) <;> omega) (by have hq := ((a_ρ15 _ _ _ (by first | exact xs_ (by decide) | exact xc_ (by decide) | omega)).trans ((a_ρ12 _ _ _ (by first | exact xs_ (by decide) | exact xc_ (by decide) | omega)).trans ((a_ρ9 _ _ _ (by first | exact xs_ (by decide) | exact xc_ (by decide) | omega)).trans ((a_ρ6 _ _ _ (by first | exact xs_ (by decide) | exact xc_ (by decide) | omega)).trans qg2)))); refine hq.trans ?_; (repeat' split) <;> omega) (by have hq := ((a_ρ15 _ _ _ (by first | exact xs_ (by decide) | exact xc_ (by decide) | omega)).trans ((a_ρ12 _ _ _ (by first | exact xs_ (by decide) | exact xc_ (by decide) | omega)).trans ((a_ρ9 _ _ _ (by first | exact xs_ (by decide) | exact xc_ (by decide) | omega)).trans q_ρ6))); refine hq.trans ?_; (repeat' split) <;> omega) (by have hq := ((a_ρ15 _ _ _ (by first | exact xs_ (by decide) | exact xc_ (by decide) | omega)).trans ((a_ρ12 _ _ _ (by first | exact xs_ (by decide) | exact xc_ (by decide) | omega)).trans q_ρ9)); refine hq.trans ?_; (repeat' split) <;> omega) (by have hq := ((a_ρ15 _ _ _ (by first | exact xs_ (by decide) | exact xc_ (by decide) | omega)).trans q_ρ12); refine hq.trans (congrArg wr ?_); (repeat' split) <;> omega) (by have hq := q_ρ15; refine hq.trans ?_; (repeat' split) <;> omega)
    · refine r_aload_n hC dX0_endMove_79 rfl ?_
      refine r_dup hC dX0_endMove_80 rfl ?_
      refine z_getI (jz := 0) hM dX0_endMove_81 fl_RX0_9 rfl rfl rfl (fun v16 h_v16 o_v16 t_v16 => ?_)
      have e_v16 : f = v16 := ((t_v16 ((Or.inl (by first | exact trivial | exact tb7_ (by decide) | simp [Tb])))).trans ((a_ρ6 _ _ _ (by first | exact xs_ (by decide) | exact xc_ (by decide) | omega)).trans qg0)).symm
      clear t_v16
      subst e_v16
      refine r_aload_n hC dX0_endMove_84 rfl ?_
      refine z_getI (jz := 1) hM dX0_endMove_85 fl_RX0_15 rfl rfl rfl (fun v17 h_v17 o_v17 t_v17 => ?_)
      have e_v17 : m = v17 := ((t_v17 ((Or.inl (by first | exact trivial | exact tb7_ (by decide) | simp [Tb])))).trans ((a_ρ6 _ _ _ (by first | exact xs_ (by decide) | exact xc_ (by decide) | omega)).trans qg1)).symm
      clear t_v17
      subst e_v17
      refine r_iaddE hC ((f + m)) dX0_endMove_88 (by omega) (by unfold inR; omega) ?_
      refine z_putIG (jz := 0) hM dX0_endMove_89 fw_RX0_9 rfl rfl rfl ⟨Or.inr (by first | exact id | exact dl7_ (by decide) | simp [DL]), Or.inr (by first | exact id | exact df14_ (by decide) | simp [DF])⟩ (by first | trivial | (simp only [Okv]; omega) | (simp [Okv]; try omega)) (fun ρ18 a_ρ18 q_ρ18 => ?_)
      refine r_aload_n hC dX0_endMove_92 rfl ?_
      refine r_iconst hC dX0_endMove_93 rfl ?_
      refine z_putIG (jz := 1) hM dX0_endMove_94 fw_RX0_15 rfl rfl rfl ⟨Or.inr (by first | exact id | exact dl7_ (by decide) | simp [DL]), Or.inr (by first | exact id | exact df14_ (by decide) | simp [DF])⟩ (by first | trivial | (simp only [Okv]; omega) | (simp [Okv]; try omega)) (fun ρ19 a_ρ19 q_ρ19 => ?_)
      refine r_aload_n hC dX0_endMove_97 rfl ?_
      refine r_iload_n hC dX0_endMove_98 rfl ?_
      refine z_putIG (jz := 4) hM dX0_endMove_99 fw_RX0_24 rfl rfl rfl ⟨Or.inr (by first | exact id | exact dl7_ (by decide) | simp [DL]), Or.inr (by first | exact id | exact df14_ (by decide) | simp [DF])⟩ (by first | trivial | (simp only [Okv]; omega) | (simp [Okv]; try omega)) (fun ρ20 a_ρ20 q_ρ20 => ?_)
      refine r_aload_n hC dX0_endMove_102 rfl ?_
      refine r_dup hC dX0_endMove_103 rfl ?_
      refine z_getI (jz := 5) hM dX0_endMove_104 fl_RX0_27 rfl rfl rfl (fun v21 h_v21 o_v21 t_v21 => ?_)
      have e_v21 : s = v21 := ((t_v21 ((Or.inl (by first | exact trivial | exact tb7_ (by decide) | simp [Tb])))).trans ((a_ρ20 _ _ _ (by first | exact xs_ (by decide) | exact xc_ (by decide) | omega)).trans ((a_ρ19 _ _ _ (by first | exact xs_ (by decide) | exact xc_ (by decide) | omega)).trans ((a_ρ18 _ _ _ (by first | exact xs_ (by decide) | exact xc_ (by decide) | omega)).trans ((a_ρ6 _ _ _ (by first | exact xs_ (by decide) | exact xc_ (by decide) | omega)).trans qg5))))).symm
      clear t_v21
      subst e_v21
      refine r_iload_n hC dX0_endMove_107 rfl ?_
      refine r_iadd hC dX0_endMove_108 ?_
      have f22 := inR_le (inR_wr (s + (c + v4)))
      refine z_putIG (jz := 5) hM dX0_endMove_109 fw_RX0_27 rfl rfl rfl ⟨Or.inr (by first | exact id | exact dl7_ (by decide) | simp [DL]), Or.inr (by first | exact id | exact df14_ (by decide) | simp [DF])⟩ (by first | trivial | (simp only [Okv]; omega) | (simp [Okv]; try omega)) (fun ρ23 a_ρ23 q_ρ23 => ?_)
      refine r_aload_n hC dX0_endMove_112 rfl ?_
      refine r_aload_n hC dX0_endMove_113 rfl ?_
      refine z_getI (jz := 6) hM dX0_endMove_114 fl_RX0_30 rfl rfl rfl (fun v24 h_v24 o_v24 t_v24 => ?_)
      have e_v24 : o = v24 := ((t_v24 ((Or.inl (by first | exact trivial | exact tb7_ (by decide) | simp [Tb])))).trans ((a_ρ23 _ _ _ (by first | exact xs_ (by decide) | exact xc_ (by decide) | omega)).trans ((a_ρ20 _ _ _ (by first | exact xs_ (by decide) | exact xc_ (by decide) | omega)).trans ((a_ρ19 _ _ _ (by first | exact xs_ (by decide) | exact xc_ (by decide) | omega)).trans ((a_ρ18 _ _ _ (by first | exact xs_ (by decide) | exact xc_ (by decide) | omega)).trans ((a_ρ6 _ _ _ (by first | exact xs_ (by decide) | exact xc_ (by decide) | omega)).trans qg6)))))).symm
      clear t_v24
      subst e_v24
      refine r_iload_n hC dX0_endMove_117 rfl ?_
      refine z_ins2 hM dX0_endMove_118 tl_RX0_37 rfl (Nat.le_of_ble_eq_true rfl) (Nat.le_of_ble_eq_true rfl) ?_
      refine x_max (fun v25 h_v25 => ?_)
      refine z_putIG (jz := 6) hM dX0_endMove_121 fw_RX0_30 rfl rfl rfl ⟨Or.inr (by first | exact id | exact dl7_ (by decide) | simp [DL]), Or.inr (by first | exact id | exact df14_ (by decide) | simp [DF])⟩ (by first | trivial | (simp only [Okv]; omega) | (simp [Okv]; try omega)) (fun ρ26 a_ρ26 q_ρ26 => ?_)
      refine y_vret hK rfl dX0_endMove_124 ?_
      exact k _ (((((((Gx.rf).al a_ρ6 (by first | (simp; done) | omega | (simp; omega))).al a_ρ18 (by first | (simp; done) | omega | (simp; omega))).al a_ρ19 (by first | (simp; done) | omega | (simp; omega))).al a_ρ20 (by first | (simp; done) | omega | (simp; omega))).al a_ρ23 (by first | (simp; done) | omega | (simp; omega))).al a_ρ26 (by first | (simp; done) | omega | (simp; omega))) (by have hq := ((a_ρ26 _ _ _ (by first | exact xs_ (by decide) | exact xc_ (by decide) | omega)).trans ((a_ρ23 _ _ _ (by first | exact xs_ (by decide) | exact xc_ (by decide) | omega)).trans ((a_ρ20 _ _ _ (by first | exact xs_ (by decide) | exact xc_ (by decide) | omega)).trans ((a_ρ19 _ _ _ (by first | exact xs_ (by decide) | exact xc_ (by decide) | omega)).trans q_ρ18)))); refine hq.trans ?_; (repeat' split) <;> omega) (by have hq := ((a_ρ26 _ _ _ (by first | exact xs_ (by decide) | exact xc_ (by decide) | omega)).trans ((a_ρ23 _ _ _ (by first | exact xs_ (by decide) | exact xc_ (by decide) | omega)).trans ((a_ρ20 _ _ _ (by first | exact xs_ (by decide) | exact xc_ (by decide) | omega)).trans q_ρ19))); refine hq.trans ?_; (repeat' split) <;> omega) (by have hq := ((a_ρ26 _ _ _ (by first | exact xs_ (by decide) | exact xc_ (by decide) | omega)).trans ((a_ρ23 _ _ _ (by first | exact xs_ (by decide) | exact xc_ (by decide) | omega)).trans ((a_ρ20 _ _ _ (by first | exact xs_ (by decide) | exact xc_ (by decide) | omega)).trans ((a_ρ19 _ _ _ (by first | exact xs_ (by decide) | exact xc_ (by decide) | omega)).trans ((a_ρ18 _ _ _ (by first | exact xs_ (by decide) | exact xc_ (by decide) | omega)).trans ((a_ρ6 _ _ _ (by first | exact xs_ (by decide) | exact xc_ (by decide) | omega)).trans qg2)))))); refine hq.trans ?_; (repeat' split) <;> omega) (by have hq := ((a_ρ26 _ _ _ (by first | exact xs_ (by decide) | exact xc_ (by decide) | omega)).trans ((a_ρ23 _ _ _ (by first | exact xs_ (by decide) | exact xc_ (by decide) | omega)).trans ((a_ρ20 _ _ _ (by first | exact xs_ (by decide) | exact xc_ (by decide) | omega)).trans ((a_ρ19 _ _ _ (by first | exact xs_ (by decide) | exact xc_ (by decide) | omega)).trans ((a_ρ18 _ _ _ (by first | exact xs_ (by decide) | exact xc_ (by decide) | omega)).trans q_ρ6))))); refine hq.trans ?_; (repeat' split) <;> omega) (by have hq := ((a_ρ26 _ _ _ (by first | exact xs_ (by decide) | exact xc_ (by decide) | omega)).trans ((a_ρ23 _ _ _ (by first | exact xs_ (by decide) | exact xc_ (by decide) | omega)).trans q_ρ20)); refine hq.trans ?_; (repeat' split) <;> omega) (by have hq := ((a_ρ26 _ _ _ (by first | exact xs_ (by decide) | exact xc_ (by decide) | omega)).trans q_ρ23); refine hq.trans (congrArg wr ?_); (repeat' split) <;> omega) (by have hq := q_ρ26; refine hq.trans ?_; (repeat' split) <;> omega)
  · refine r_aload_n hC dX0_endMove_9 rfl ?_
    refine z_getI (jz := 2) hM dX0_endMove_10 fl_RX0_18 rfl rfl rfl (fun v27 h_v27 o_v27 t_v27 => ?_)
    have e_v27 : b = v27 := ((t_v27 ((Or.inl (by first | exact trivial | exact tb7_ (by decide) | simp [Tb])))).trans qg2).symm
    clear t_v27
    subst e_v27
    refine r_aload_n hC dX0_endMove_13 rfl ?_
    refine z_getI (jz := 0) hM dX0_endMove_14 fl_RX0_9 rfl rfl rfl (fun v28 h_v28 o_v28 t_v28 => ?_)
    have e_v28 : f = v28 := ((t_v28 ((Or.inl (by first | exact trivial | exact tb7_ (by decide) | simp [Tb])))).trans qg0).symm
    clear t_v28
    subst e_v28
    refine r_icmp_le (tgt := 49) hC dX0_endMove_17 rfl (fun h29 => ?_) (fun h29 => ?_)
    · refine r_iconst hC dX0_endMove_49 rfl ?_
      refine r_aload_n hC dX0_endMove_50 rfl ?_
      refine z_getI (jz := 3) hM dX0_endMove_51 fl_RX0_21 rfl rfl rfl (fun v30 h_v30 o_v30 t_v30 => ?_)
      have e_v30 : l = v30 := ((t_v30 ((Or.inl (by first | exact trivial | exact tb7_ (by decide) | simp [Tb])))).trans qg3).symm
      clear t_v30
      subst e_v30
      refine z_ins2 hM dX0_endMove_54 tl_RX0_43 rfl (Nat.le_of_ble_eq_true rfl) (Nat.le_of_ble_eq_true rfl) ?_
      refine x_min (fun v31 h_v31 => ?_)
      refine r_istore_n hC dX0_endMove_57 rfl ?_
      refine r_aload_n hC dX0_endMove_58 rfl ?_
      refine r_dup hC dX0_endMove_59 rfl ?_
      refine z_getI (jz := 3) hM dX0_endMove_60 fl_RX0_21 rfl rfl rfl (fun v32 h_v32 o_v32 t_v32 => ?_)
      have e_v32 : l = v32 := ((t_v32 ((Or.inl (by first | exact trivial | exact tb7_ (by decide) | simp [Tb])))).trans qg3).symm
      clear t_v32
      subst e_v32
      refine r_iload_n hC dX0_endMove_63 rfl ?_
      refine r_isubE hC ((l - v31)) dX0_endMove_64 (by omega) (by unfold inR; omega) ?_
      refine z_putIG (jz := 3) hM dX0_endMove_65 fw_RX0_21 rfl rfl rfl ⟨Or.inr (by first | exact id | exact dl7_ (by decide) | simp [DL]), Or.inr (by first | exact id | exact df14_ (by decide) | simp [DF])⟩ (by first | trivial | (simp only [Okv]; omega) | (simp [Okv]; try omega)) (fun ρ33 a_ρ33 q_ρ33 => ?_)
      refine r_iload_n hC dX0_endMove_68 rfl ?_
      refine r_iload_n hC dX0_endMove_69 rfl ?_
      refine r_iaddE hC ((c + v31)) dX0_endMove_70 (by omega) (by unfold inR; omega) ?_
      refine r_istore_n hC dX0_endMove_71 rfl ?_
      refine r_aload_n hC dX0_endMove_72 rfl ?_
      refine z_getI (jz := 3) hM dX0_endMove_73 fl_RX0_21 rfl rfl rfl (fun v34 h_v34 o_v34 t_v34 => ?_)
      have e_v34 : (l - v31) = v34 := ((t_v34 ((Or.inl (by first | exact trivial | exact tb7_ (by decide) | simp [Tb])))).trans q_ρ33).symm
      clear t_v34
      subst e_v34
      refine r_if_ne (tgt := 97) hC dX0_endMove_76 rfl (fun h35 => ?_) (fun h35 => ?_)
      · refine r_aload_n hC dX0_endMove_97 rfl ?_
        refine r_iload_n hC dX0_endMove_98 rfl ?_
        refine z_putIG (jz := 4) hM dX0_endMove_99 fw_RX0_24 rfl rfl rfl ⟨Or.inr (by first | exact id | exact dl7_ (by decide) | simp [DL]), Or.inr (by first | exact id | exact df14_ (by decide) | simp [DF])⟩ (by first | trivial | (simp only [Okv]; omega) | (simp [Okv]; try omega)) (fun ρ36 a_ρ36 q_ρ36 => ?_)
        refine r_aload_n hC dX0_endMove_102 rfl ?_
        refine r_dup hC dX0_endMove_103 rfl ?_
        refine z_getI (jz := 5) hM dX0_endMove_104 fl_RX0_27 rfl rfl rfl (fun v37 h_v37 o_v37 t_v37 => ?_)
        have e_v37 : s = v37 := ((t_v37 ((Or.inl (by first | exact trivial | exact tb7_ (by decide) | simp [Tb])))).trans ((a_ρ36 _ _ _ (by first | exact xs_ (by decide) | exact xc_ (by decide) | omega)).trans ((a_ρ33 _ _ _ (by first | exact xs_ (by decide) | exact xc_ (by decide) | omega)).trans qg5))).symm
        clear t_v37
        subst e_v37
        refine r_iload_n hC dX0_endMove_107 rfl ?_
        refine r_iadd hC dX0_endMove_108 ?_
        have f38 := inR_le (inR_wr (s + (c + v31)))
        refine z_putIG (jz := 5) hM dX0_endMove_109 fw_RX0_27 rfl rfl rfl ⟨Or.inr (by first | exact id | exact dl7_ (by decide) | simp [DL]), Or.inr (by first | exact id | exact df14_ (by decide) | simp [DF])⟩ (by first | trivial | (simp only [Okv]; omega) | (simp [Okv]; try omega)) (fun ρ39 a_ρ39 q_ρ39 => ?_)
        refine r_aload_n hC dX0_endMove_112 rfl ?_
        refine r_aload_n hC dX0_endMove_113 rfl ?_
        refine z_getI (jz := 6) hM dX0_endMove_114 fl_RX0_30 rfl rfl rfl (fun v40 h_v40 o_v40 t_v40 => ?_)
        have e_v40 : o = v40 := ((t_v40 ((Or.inl (by first | exact trivial | exact tb7_ (by decide) | simp [Tb])))).trans ((a_ρ39 _ _ _ (by first | exact xs_ (by decide) | exact xc_ (by decide) | omega)).trans ((a_ρ36 _ _ _ (by first | exact xs_ (by decide) | exact xc_ (by decide) | omega)).trans ((a_ρ33 _ _ _ (by first | exact xs_ (by decide) | exact xc_ (by decide) | omega)).trans qg6)))).symm
        clear t_v40
        subst e_v40
        refine r_iload_n hC dX0_endMove_117 rfl ?_
        refine z_ins2 hM dX0_endMove_118 tl_RX0_37 rfl (Nat.le_of_ble_eq_true rfl) (Nat.le_of_ble_eq_true rfl) ?_
        refine x_max (fun v41 h_v41 => ?_)
        refine z_putIG (jz := 6) hM dX0_endMove_121 fw_RX0_30 rfl rfl rfl ⟨Or.inr (by first | exact id | exact dl7_ (by decide) | simp [DL]), Or.inr (by first | exact id | exact df14_ (by decide) | simp [DF])⟩ (by first | trivial | (simp only [Okv]; omega) | (simp [Okv]; try omega)) (fun ρ42 a_ρ42 q_ρ42 => ?_)
        refine y_vret hK rfl dX0_endMove_124 ?_
        exact k _ (((((Gx.rf).al a_ρ33 (by first | (simp; done) | omega | (simp; omega))).al a_ρ36 (by first | (simp; done) | omega | (simp; omega))).al a_ρ39 (by first | (simp; done) | omega | (simp; omega))).al a_ρ42 (by first | (simp; done) | omega | (simp; omega))) (by have hq := ((a_ρ42 _ _ _ (by first | exact xs_ (by decide) | exact xc_ (by decide) | omega)).trans ((a_ρ39 _ _ _ (by first | exact xs_ (by decide) | exact xc_ (by decide) | omega)).trans ((a_ρ36 _ _ _ (by first | exact xs_ (by decide) | exact xc_ (by decide) | omega)).trans ((a_ρ33 _ _ _ (by first | exact xs_ (by decide) | exact xc_ (by decide) | omega)).trans qg0)))); refine hq.trans ?_; (repeat' split) <;> omega) (by have hq := ((a_ρ42 _ _ _ (by first | exact xs_ (by decide) | exact xc_ (by decide) | omega)).trans ((a_ρ39 _ _ _ (by first | exact xs_ (by decide) | exact xc_ (by decide) | omega)).trans ((a_ρ36 _ _ _ (by first | exact xs_ (by decide) | exact xc_ (by decide) | omega)).trans ((a_ρ33 _ _ _ (by first | exact xs_ (by decide) | exact xc_ (by decide) | omega)).trans qg1)))); refine hq.trans ?_; (repeat' split) <;> omega) (by have hq := ((a_ρ42 _ _ _ (by first | exact xs_ (by decide) | exact xc_ (by decide) | omega)).trans ((a_ρ39 _ _ _ (by first | exact xs_ (by decide) | exact xc_ (by decide) | omega)).trans ((a_ρ36 _ _ _ (by first | exact xs_ (by decide) | exact xc_ (by decide) | omega)).trans ((a_ρ33 _ _ _ (by first | exact xs_ (by decide) | exact xc_ (by decide) | omega)).trans qg2)))); refine hq.trans ?_; (repeat' split) <;> omega) (by have hq := ((a_ρ42 _ _ _ (by first | exact xs_ (by decide) | exact xc_ (by decide) | omega)).trans ((a_ρ39 _ _ _ (by first | exact xs_ (by decide) | exact xc_ (by decide) | omega)).trans ((a_ρ36 _ _ _ (by first | exact xs_ (by decide) | exact xc_ (by decide) | omega)).trans q_ρ33))); refine hq.trans ?_; (repeat' split) <;> omega) (by have hq := ((a_ρ42 _ _ _ (by first | exact xs_ (by decide) | exact xc_ (by decide) | omega)).trans ((a_ρ39 _ _ _ (by first | exact xs_ (by decide) | exact xc_ (by decide) | omega)).trans q_ρ36)); refine hq.trans ?_; (repeat' split) <;> omega) (by have hq := ((a_ρ42 _ _ _ (by first | exact xs_ (by decide) | exact xc_ (by decide) | omega)).trans q_ρ39); refine hq.trans (congrArg wr ?_); (repeat' split) <;> omega) (by have hq := q_ρ42; refine hq.trans ?_; (repeat' split) <;> omega)
      · refine r_aload_n hC dX0_endMove_79 rfl ?_
        refine r_dup hC dX0_endMove_80 rfl ?_
        refine z_getI (jz := 0) hM dX0_endMove_81 fl_RX0_9 rfl rfl rfl (fun v43 h_v43 o_v43 t_v43 => ?_)
        have e_v43 : f = v43 := ((t_v43 ((Or.inl (by first | exact trivial | exact tb7_ (by decide) | simp [Tb])))).trans ((a_ρ33 _ _ _ (by first | exact xs_ (by decide) | exact xc_ (by decide) | omega)).trans qg0)).symm
        clear t_v43
        subst e_v43
        refine r_aload_n hC dX0_endMove_84 rfl ?_
        refine z_getI (jz := 1) hM dX0_endMove_85 fl_RX0_15 rfl rfl rfl (fun v44 h_v44 o_v44 t_v44 => ?_)
        have e_v44 : m = v44 := ((t_v44 ((Or.inl (by first | exact trivial | exact tb7_ (by decide) | simp [Tb])))).trans ((a_ρ33 _ _ _ (by first | exact xs_ (by decide) | exact xc_ (by decide) | omega)).trans qg1)).symm
        clear t_v44
        subst e_v44
        refine r_iaddE hC ((f + m)) dX0_endMove_88 (by omega) (by unfold inR; omega) ?_
        refine z_putIG (jz := 0) hM dX0_endMove_89 fw_RX0_9 rfl rfl rfl ⟨Or.inr (by first | exact id | exact dl7_ (by decide) | simp [DL]), Or.inr (by first | exact id | exact df14_ (by decide) | simp [DF])⟩ (by first | trivial | (simp only [Okv]; omega) | (simp [Okv]; try omega)) (fun ρ45 a_ρ45 q_ρ45 => ?_)
        refine r_aload_n hC dX0_endMove_92 rfl ?_
        refine r_iconst hC dX0_endMove_93 rfl ?_
        refine z_putIG (jz := 1) hM dX0_endMove_94 fw_RX0_15 rfl rfl rfl ⟨Or.inr (by first | exact id | exact dl7_ (by decide) | simp [DL]), Or.inr (by first | exact id | exact df14_ (by decide) | simp [DF])⟩ (by first | trivial | (simp only [Okv]; omega) | (simp [Okv]; try omega)) (fun ρ46 a_ρ46 q_ρ46 => ?_)
        refine r_aload_n hC dX0_endMove_97 rfl ?_
        refine r_iload_n hC dX0_endMove_98 rfl ?_
        refine z_putIG (jz := 4) hM dX0_endMove_99 fw_RX0_24 rfl rfl rfl ⟨Or.inr (by first | exact id | exact dl7_ (by decide) | simp [DL]), Or.inr (by first | exact id | exact df14_ (by decide) | simp [DF])⟩ (by first | trivial | (simp only [Okv]; omega) | (simp [Okv]; try omega)) (fun ρ47 a_ρ47 q_ρ47 => ?_)
        refine r_aload_n hC dX0_endMove_102 rfl ?_
        refine r_dup hC dX0_endMove_103 rfl ?_
        refine z_getI (jz := 5) hM dX0_endMove_104 fl_RX0_27 rfl rfl rfl (fun v48 h_v48 o_v48 t_v48 => ?_)
        have e_v48 : s = v48 := ((t_v48 ((Or.inl (by first | exact trivial | exact tb7_ (by decide) | simp [Tb])))).trans ((a_ρ47 _ _ _ (by first | exact xs_ (by decide) | exact xc_ (by decide) | omega)).trans ((a_ρ46 _ _ _ (by first | exact xs_ (by decide) | exact xc_ (by decide) | omega)).trans ((a_ρ45 _ _ _ (by first | exact xs_ (by decide) | exact xc_ (by decide) | omega)).trans ((a_ρ33 _ _ _ (by first | exact xs_ (by decide) | exact xc_ (by decide) | omega)).trans qg5))))).symm
        clear t_v48
        subst e_v48
        refine r_iload_n hC dX0_endMove_107 rfl ?_
        refine r_iadd hC dX0_endMove_108 ?_
        have f49 := inR_le (inR_wr (s + (c + v31)))
        refine z_putIG (jz := 5) hM dX0_endMove_109 fw_RX0_27 rfl rfl rfl ⟨Or.inr (by first | exact id | exact dl7_ (by decide) | simp [DL]), Or.inr (by first | exact id | exact df14_ (by decide) | simp [DF])⟩ (by first | trivial | (simp only [Okv]; omega) | (simp [Okv]; try omega)) (fun ρ50 a_ρ50 q_ρ50 => ?_)
        refine r_aload_n hC dX0_endMove_112 rfl ?_
        refine r_aload_n hC dX0_endMove_113 rfl ?_
        refine z_getI (jz := 6) hM dX0_endMove_114 fl_RX0_30 rfl rfl rfl (fun v51 h_v51 o_v51 t_v51 => ?_)
        have e_v51 : o = v51 := ((t_v51 ((Or.inl (by first | exact trivial | exact tb7_ (by decide) | simp [Tb])))).trans ((a_ρ50 _ _ _ (by first | exact xs_ (by decide) | exact xc_ (by decide) | omega)).trans ((a_ρ47 _ _ _ (by first | exact xs_ (by decide) | exact xc_ (by decide) | omega)).trans ((a_ρ46 _ _ _ (by first | exact xs_ (by decide) | exact xc_ (by decide) | omega)).trans ((a_ρ45 _ _ _ (by first | exact xs_ (by decide) | exact xc_ (by decide) | omega)).trans ((a_ρ33 _ _ _ (by first | exact xs_ (by decide) | exact xc_ (by decide) | omega)).trans qg6)))))).symm
        clear t_v51
        subst e_v51
        refine r_iload_n hC dX0_endMove_117 rfl ?_
        refine z_ins2 hM dX0_endMove_118 tl_RX0_37 rfl (Nat.le_of_ble_eq_true rfl) (Nat.le_of_ble_eq_true rfl) ?_
        refine x_max (fun v52 h_v52 => ?_)
        refine z_putIG (jz := 6) hM dX0_endMove_121 fw_RX0_30 rfl rfl rfl ⟨Or.inr (by first | exact id | exact dl7_ (by decide) | simp [DL]), Or.inr (by first | exact id | exact df14_ (by decide) | simp [DF])⟩ (by first | trivial | (simp only [Okv]; omega) | (simp [Okv]; try omega)) (fun ρ53 a_ρ53 q_ρ53 => ?_)
        refine y_vret hK rfl dX0_endMove_124 ?_
        exact k _ (((((((Gx.rf).al a_ρ33 (by first | (simp; done) | omega | (simp; omega))).al a_ρ45 (by first | (simp; done) | omega | (simp; omega))).al a_ρ46 (by first | (simp; done) | omega | (simp; omega))).al a_ρ47 (by first | (simp; done) | omega | (simp; omega))).al a_ρ50 (by first | (simp; done) | omega | (simp; omega))).al a_ρ53 (by first | (simp; done) | omega | (simp; omega))) (by have hq := ((a_ρ53 _ _ _ (by first | exact xs_ (by decide) | exact xc_ (by decide) | omega)).trans ((a_ρ50 _ _ _ (by first | exact xs_ (by decide) | exact xc_ (by decide) | omega)).trans ((a_ρ47 _ _ _ (by first | exact xs_ (by decide) | exact xc_ (by decide) | omega)).trans ((a_ρ46 _ _ _ (by first | exact xs_ (by decide) | exact xc_ (by decide) | omega)).trans q_ρ45)))); refine hq.trans ?_; (repeat' split) <;> omega) (by have hq := ((a_ρ53 _ _ _ (by first | exact xs_ (by decide) | exact xc_ (by decide) | omega)).trans ((a_ρ50 _ _ _ (by first | exact xs_ (by decide) | exact xc_ (by decide) | omega)).trans ((a_ρ47 _ _ _ (by first | exact xs_ (by decide) | exact xc_ (by decide) | omega)).trans q_ρ46))); refine hq.trans ?_; (repeat' split) <;> omega) (by have hq := ((a_ρ53 _ _ _ (by first | exact xs_ (by decide) | exact xc_ (by decide) | omega)).trans ((a_ρ50 _ _ _ (by first | exact xs_ (by decide) | exact xc_ (by decide) | omega)).trans ((a_ρ47 _ _ _ (by first | exact xs_ (by decide) | exact xc_ (by decide) | omega)).trans ((a_ρ46 _ _ _ (by first | exact xs_ (by decide) | exact xc_ (by decide) | omega)).trans ((a_ρ45 _ _ _ (by first | exact xs_ (by decide) | exact xc_ (by decide) | omega)).trans ((a_ρ33 _ _ _ (by first | exact xs_ (by decide) | exact xc_ (by decide) | omega)).trans qg2)))))); refine hq.trans ?_; (repeat' split) <;> omega) (by have hq := ((a_ρ53 _ _ _ (by first | exact xs_ (by decide) | exact xc_ (by decide) | omega)).trans ((a_ρ50 _ _ _ (by first | exact xs_ (by decide) | exact xc_ (by decide) | omega)).trans ((a_ρ47 _ _ _ (by first | exact xs_ (by decide) | exact xc_ (by decide) | omega)).trans ((a_ρ46 _ _ _ (by first | exact xs_ (by decide) | exact xc_ (by decide) | omega)).trans ((a_ρ45 _ _ _ (by first | exact xs_ (by decide) | exact xc_ (by decide) | omega)).trans q_ρ33))))); refine hq.trans ?_; (repeat' split) <;> omega) (by have hq := ((a_ρ53 _ _ _ (by first | exact xs_ (by decide) | exact xc_ (by decide) | omega)).trans ((a_ρ50 _ _ _ (by first | exact xs_ (by decide) | exact xc_ (by decide) | omega)).trans q_ρ47)); refine hq.trans ?_; (repeat' split) <;> omega) (by have hq := ((a_ρ53 _ _ _ (by first | exact xs_ (by decide) | exact xc_ (by decide) | omega)).trans q_ρ50); refine hq.trans (congrArg wr ?_); (repeat' split) <;> omega) (by have hq := q_ρ53; refine hq.trans ?_; (repeat' split) <;> omega)
    · refine r_aload_n hC dX0_endMove_20 rfl ?_
      refine r_aload_n hC dX0_endMove_21 rfl ?_
      refine z_getI (jz := 2) hM dX0_endMove_22 fl_RX0_18 rfl rfl rfl (fun v54 h_v54 o_v54 t_v54 => ?_)
      have e_v54 : b = v54 := ((t_v54 ((Or.inl (by first | exact trivial | exact tb7_ (by decide) | simp [Tb])))).trans qg2).symm
      clear t_v54
      subst e_v54
      refine z_putIG (jz := 1) hM dX0_endMove_25 fw_RX0_15 rfl rfl rfl ⟨Or.inr (by first | exact id | exact dl7_ (by decide) | simp [DL]), Or.inr (by first | exact id | exact df14_ (by decide) | simp [DF])⟩ (by first | trivial | (simp only [Okv]; omega) | (simp [Okv]; try omega)) (fun ρ55 a_ρ55 q_ρ55 => ?_)
      refine r_aload_n hC dX0_endMove_28 rfl ?_
      refine r_iconst hC dX0_endMove_29 rfl ?_
      refine z_putIG (jz := 2) hM dX0_endMove_30 fw_RX0_18 rfl rfl rfl ⟨Or.inr (by first | exact id | exact dl7_ (by decide) | simp [DL]), Or.inr (by first | exact id | exact df14_ (by decide) | simp [DF])⟩ (by first | trivial | (simp only [Okv]; omega) | (simp [Okv]; try omega)) (fun ρ56 a_ρ56 q_ρ56 => ?_)
      refine r_aload_n hC dX0_endMove_33 rfl ?_
      refine r_aload_n hC dX0_endMove_34 rfl ?_
      refine z_getI (jz := 1) hM dX0_endMove_35 fl_RX0_15 rfl rfl rfl (fun v57 h_v57 o_v57 t_v57 => ?_)
      have e_v57 : b = v57 := ((t_v57 ((Or.inl (by first | exact trivial | exact tb7_ (by decide) | simp [Tb])))).trans ((a_ρ56 _ _ _ (by first | exact xs_ (by decide) | exact xc_ (by decide) | omega)).trans q_ρ55)).symm
      clear t_v57
      subst e_v57
      refine r_aload_n hC dX0_endMove_38 rfl ?_
      refine z_getI (jz := 0) hM dX0_endMove_39 fl_RX0_9 rfl rfl rfl (fun v58 h_v58 o_v58 t_v58 => ?_)
      have e_v58 : f = v58 := ((t_v58 ((Or.inl (by first | exact trivial | exact tb7_ (by decide) | simp [Tb])))).trans ((a_ρ56 _ _ _ (by first | exact xs_ (by decide) | exact xc_ (by decide) | omega)).trans ((a_ρ55 _ _ _ (by first | exact xs_ (by decide) | exact xc_ (by decide) | omega)).trans qg0))).symm
      clear t_v58
      subst e_v58
      refine r_iaddE hC ((b + f)) dX0_endMove_42 (by omega) (by unfold inR; omega) ?_
      refine z_putIG (jz := 3) hM dX0_endMove_43 fw_RX0_21 rfl rfl rfl ⟨Or.inr (by first | exact id | exact dl7_ (by decide) | simp [DL]), Or.inr (by first | exact id | exact df14_ (by decide) | simp [DF])⟩ (by first | trivial | (simp only [Okv]; omega) | (simp [Okv]; try omega)) (fun ρ59 a_ρ59 q_ρ59 => ?_)
      refine r_iincE hC ((c - 1)) dX0_endMove_46 rfl rfl (by omega) (by unfold inR; omega) ?_
      refine r_iconst hC dX0_endMove_49 rfl ?_
      refine r_aload_n hC dX0_endMove_50 rfl ?_
      refine z_getI (jz := 3) hM dX0_endMove_51 fl_RX0_21 rfl rfl rfl (fun v60 h_v60 o_v60 t_v60 => ?_)
      have e_v60 : (b + f) = v60 := ((t_v60 ((Or.inl (by first | exact trivial | exact tb7_ (by decide) | simp [Tb])))).trans q_ρ59).symm
      clear t_v60
      subst e_v60
      refine z_ins2 hM dX0_endMove_54 tl_RX0_43 rfl (Nat.le_of_ble_eq_true rfl) (Nat.le_of_ble_eq_true rfl) ?_
      refine x_min (fun v61 h_v61 => ?_)
      refine r_istore_n hC dX0_endMove_57 rfl ?_
      refine r_aload_n hC dX0_endMove_58 rfl ?_
      refine r_dup hC dX0_endMove_59 rfl ?_
      refine z_getI (jz := 3) hM dX0_endMove_60 fl_RX0_21 rfl rfl rfl (fun v62 h_v62 o_v62 t_v62 => ?_)
      have e_v62 : (b + f) = v62 := ((t_v62 ((Or.inl (by first | exact trivial | exact tb7_ (by decide) | simp [Tb])))).trans q_ρ59).symm
      clear t_v62
      subst e_v62
      refine r_iload_n hC dX0_endMove_63 rfl ?_
      refine r_isubE hC (((b + f) - v61)) dX0_endMove_64 (by omega) (by unfold inR; omega) ?_
      refine z_putIG (jz := 3) hM dX0_endMove_65 fw_RX0_21 rfl rfl rfl ⟨Or.inr (by first | exact id | exact dl7_ (by decide) | simp [DL]), Or.inr (by first | exact id | exact df14_ (by decide) | simp [DF])⟩ (by first | trivial | (simp only [Okv]; omega) | (simp [Okv]; try omega)) (fun ρ63 a_ρ63 q_ρ63 => ?_)
      refine r_iload_n hC dX0_endMove_68 rfl ?_
      refine r_iload_n hC dX0_endMove_69 rfl ?_
      refine r_iaddE hC (((c - 1) + v61)) dX0_endMove_70 (by omega) (by unfold inR; omega) ?_
      refine r_istore_n hC dX0_endMove_71 rfl ?_
      show K _ [_, _, _, _] _ _
      refine r_aload_n hC dX0_endMove_72 rfl ?_
      refine z_getI (jz := 3) hM dX0_endMove_73 fl_RX0_21 rfl rfl rfl (fun v64 h_v64 o_v64 t_v64 => ?_)
      have e_v64 : ((b + f) - v61) = v64 := ((t_v64 ((Or.inl (by first | exact trivial | exact tb7_ (by decide) | simp [Tb])))).trans q_ρ63).symm
      clear t_v64
      subst e_v64
      refine r_if_ne (tgt := 97) hC dX0_endMove_76 rfl (fun h65 => ?_) (fun h65 => ?_)
      · refine r_aload_n hC dX0_endMove_97 rfl ?_
        refine r_iload_n hC dX0_endMove_98 rfl ?_
        refine z_putIG (jz := 4) hM dX0_endMove_99 fw_RX0_24 rfl rfl rfl ⟨Or.inr (by first | exact id | exact dl7_ (by decide) | simp [DL]), Or.inr (by first | exact id | exact df14_ (by decide) | simp [DF])⟩ (by first | trivial | (simp only [Okv]; omega) | (simp [Okv]; try omega)) (fun ρ66 a_ρ66 q_ρ66 => ?_)
        refine r_aload_n hC dX0_endMove_102 rfl ?_
        refine r_dup hC dX0_endMove_103 rfl ?_
        refine z_getI (jz := 5) hM dX0_endMove_104 fl_RX0_27 rfl rfl rfl (fun v67 h_v67 o_v67 t_v67 => ?_)
        have e_v67 : s = v67 := ((t_v67 ((Or.inl (by first | exact trivial | exact tb7_ (by decide) | simp [Tb])))).trans ((a_ρ66 _ _ _ (by first | exact xs_ (by decide) | exact xc_ (by decide) | omega)).trans ((a_ρ63 _ _ _ (by first | exact xs_ (by decide) | exact xc_ (by decide) | omega)).trans ((a_ρ59 _ _ _ (by first | exact xs_ (by decide) | exact xc_ (by decide) | omega)).trans ((a_ρ56 _ _ _ (by first | exact xs_ (by decide) | exact xc_ (by decide) | omega)).trans ((a_ρ55 _ _ _ (by first | exact xs_ (by decide) | exact xc_ (by decide) | omega)).trans qg5)))))).symm
        clear t_v67
        subst e_v67
        refine r_iload_n hC dX0_endMove_107 rfl ?_
        refine r_iadd hC dX0_endMove_108 ?_
        have f68 := inR_le (inR_wr (s + ((c - 1) + v61)))
        refine z_putIG (jz := 5) hM dX0_endMove_109 fw_RX0_27 rfl rfl rfl ⟨Or.inr (by first | exact id | exact dl7_ (by decide) | simp [DL]), Or.inr (by first | exact id | exact df14_ (by decide) | simp [DF])⟩ (by first | trivial | (simp only [Okv]; omega) | (simp [Okv]; try omega)) (fun ρ69 a_ρ69 q_ρ69 => ?_)
        refine r_aload_n hC dX0_endMove_112 rfl ?_
        refine r_aload_n hC dX0_endMove_113 rfl ?_
        refine z_getI (jz := 6) hM dX0_endMove_114 fl_RX0_30 rfl rfl rfl (fun v70 h_v70 o_v70 t_v70 => ?_)
        have e_v70 : o = v70 := ((t_v70 ((Or.inl (by first | exact trivial | exact tb7_ (by decide) | simp [Tb])))).trans ((a_ρ69 _ _ _ (by first | exact xs_ (by decide) | exact xc_ (by decide) | omega)).trans ((a_ρ66 _ _ _ (by first | exact xs_ (by decide) | exact xc_ (by decide) | omega)).trans ((a_ρ63 _ _ _ (by first | exact xs_ (by decide) | exact xc_ (by decide) | omega)).trans ((a_ρ59 _ _ _ (by first | exact xs_ (by decide) | exact xc_ (by decide) | omega)).trans ((a_ρ56 _ _ _ (by first | exact xs_ (by decide) | exact xc_ (by decide) | omega)).trans ((a_ρ55 _ _ _ (by first | exact xs_ (by decide) | exact xc_ (by decide) | omega)).trans qg6))))))).symm
        clear t_v70
        subst e_v70
        refine r_iload_n hC dX0_endMove_117 rfl ?_
        refine z_ins2 hM dX0_endMove_118 tl_RX0_37 rfl (Nat.le_of_ble_eq_true rfl) (Nat.le_of_ble_eq_true rfl) ?_
        refine x_max (fun v71 h_v71 => ?_)
        refine z_putIG (jz := 6) hM dX0_endMove_121 fw_RX0_30 rfl rfl rfl ⟨Or.inr (by first | exact id | exact dl7_ (by decide) | simp [DL]), Or.inr (by first | exact id | exact df14_ (by decide) | simp [DF])⟩ (by first | trivial | (simp only [Okv]; omega) | (simp [Okv]; try omega)) (fun ρ72 a_ρ72 q_ρ72 => ?_)
        refine y_vret hK rfl dX0_endMove_124 ?_
        exact k _ ((((((((Gx.rf).al a_ρ55 (by first | (simp; done) | omega | (simp; omega))).al a_ρ56 (by first | (simp; done) | omega | (simp; omega))).al a_ρ59 (by first | (simp; done) | omega | (simp; omega))).al a_ρ63 (by first | (simp; done) | omega | (simp; omega))).al a_ρ66 (by first | (simp; done) | omega | (simp; omega))).al a_ρ69 (by first | (simp; done) | omega | (simp; omega))).al a_ρ72 (by first | (simp; done) | omega | (simp; omega))) (by have hq := ((a_ρ72 _ _ _ (by first | exact xs_ (by decide) | exact xc_ (by decide) | omega)).trans ((a_ρ69 _ _ _ (by first | exact xs_ (by decide) | exact xc_ (by decide) | omega)).trans ((a_ρ66 _ _ _ (by first | exact xs_ (by decide) | exact xc_ (by decide) | omega)).trans ((a_ρ63 _ _ _ (by first | exact xs_ (by decide) | exact xc_ (by decide) | omega)).trans ((a_ρ59 _ _ _ (by first | exact xs_ (by decide) | exact xc_ (by decide) | omega)).trans ((a_ρ56 _ _ _ (by first | exact xs_ (by decide) | exact xc_ (by decide) | omega)).trans ((a_ρ55 _ _ _ (by first | exact xs_ (by decide) | exact xc_ (by decide) | omega)).trans qg0))))))); refine hq.trans ?_; (repeat' split) <;> omega) (by have hq := ((a_ρ72 _ _ _ (by first | exact xs_ (by decide) | exact xc_ (by decide) | omega)).trans ((a_ρ69 _ _ _ (by first | exact xs_ (by decide) | exact xc_ (by decide) | omega)).trans ((a_ρ66 _ _ _ (by first | exact xs_ (by decide) | exact xc_ (by decide) | omega)).trans ((a_ρ63 _ _ _ (by first | exact xs_ (by decide) | exact xc_ (by decide) | omega)).trans ((a_ρ59 _ _ _ (by first | exact xs_ (by decide) | exact xc_ (by decide) | omega)).trans ((a_ρ56 _ _ _ (by first | exact xs_ (by decide) | exact xc_ (by decide) | omega)).trans q_ρ55)))))); refine hq.trans ?_; (repeat' split) <;> omega) (by have hq := ((a_ρ72 _ _ _ (by first | exact xs_ (by decide) | exact xc_ (by decide) | omega)).trans ((a_ρ69 _ _ _ (by first | exact xs_ (by decide) | exact xc_ (by decide) | omega)).trans ((a_ρ66 _ _ _ (by first | exact xs_ (by decide) | exact xc_ (by decide) | omega)).trans ((a_ρ63 _ _ _ (by first | exact xs_ (by decide) | exact xc_ (by decide) | omega)).trans ((a_ρ59 _ _ _ (by first | exact xs_ (by decide) | exact xc_ (by decide) | omega)).trans q_ρ56))))); refine hq.trans ?_; (repeat' split) <;> omega) (by have hq := ((a_ρ72 _ _ _ (by first | exact xs_ (by decide) | exact xc_ (by decide) | omega)).trans ((a_ρ69 _ _ _ (by first | exact xs_ (by decide) | exact xc_ (by decide) | omega)).trans ((a_ρ66 _ _ _ (by first | exact xs_ (by decide) | exact xc_ (by decide) | omega)).trans q_ρ63))); refine hq.trans ?_; (repeat' split) <;> omega) (by have hq := ((a_ρ72 _ _ _ (by first | exact xs_ (by decide) | exact xc_ (by decide) | omega)).trans ((a_ρ69 _ _ _ (by first | exact xs_ (by decide) | exact xc_ (by decide) | omega)).trans q_ρ66)); refine hq.trans ?_; (repeat' split) <;> omega) (by have hq := ((a_ρ72 _ _ _ (by first | exact xs_ (by decide) | exact xc_ (by decide) | omega)).trans q_ρ69); refine hq.trans (congrArg wr ?_); (repeat' split) <;> omega) (by have hq := q_ρ72; refine hq.trans ?_; (repeat' split) <;> omega)
      · refine r_aload_n hC dX0_endMove_79 rfl ?_
        refine r_dup hC dX0_endMove_80 rfl ?_
        refine z_getI (jz := 0) hM dX0_endMove_81 fl_RX0_9 rfl rfl rfl (fun v73 h_v73 o_v73 t_v73 => ?_)
        have e_v73 : f = v73 := ((t_v73 ((Or.inl (by first | exact trivial | exact tb7_ (by decide) | simp [Tb])))).trans ((a_ρ63 _ _ _ (by first | exact xs_ (by decide) | exact xc_ (by decide) | omega)).trans ((a_ρ59 _ _ _ (by first | exact xs_ (by decide) | exact xc_ (by decide) | omega)).trans ((a_ρ56 _ _ _ (by first | exact xs_ (by decide) | exact xc_ (by decide) | omega)).trans ((a_ρ55 _ _ _ (by first | exact xs_ (by decide) | exact xc_ (by decide) | omega)).trans qg0))))).symm
        clear t_v73
        subst e_v73
        refine r_aload_n hC dX0_endMove_84 rfl ?_
        refine z_getI (jz := 1) hM dX0_endMove_85 fl_RX0_15 rfl rfl rfl (fun v74 h_v74 o_v74 t_v74 => ?_)
        have e_v74 : b = v74 := ((t_v74 ((Or.inl (by first | exact trivial | exact tb7_ (by decide) | simp [Tb])))).trans ((a_ρ63 _ _ _ (by first | exact xs_ (by decide) | exact xc_ (by decide) | omega)).trans ((a_ρ59 _ _ _ (by first | exact xs_ (by decide) | exact xc_ (by decide) | omega)).trans ((a_ρ56 _ _ _ (by first | exact xs_ (by decide) | exact xc_ (by decide) | omega)).trans q_ρ55)))).symm
        clear t_v74
        subst e_v74
        refine r_iaddE hC ((f + b)) dX0_endMove_88 (by omega) (by unfold inR; omega) ?_
        refine z_putIG (jz := 0) hM dX0_endMove_89 fw_RX0_9 rfl rfl rfl ⟨Or.inr (by first | exact id | exact dl7_ (by decide) | simp [DL]), Or.inr (by first | exact id | exact df14_ (by decide) | simp [DF])⟩ (by first | trivial | (simp only [Okv]; omega) | (simp [Okv]; try omega)) (fun ρ75 a_ρ75 q_ρ75 => ?_)
        refine r_aload_n hC dX0_endMove_92 rfl ?_
        refine r_iconst hC dX0_endMove_93 rfl ?_
        refine z_putIG (jz := 1) hM dX0_endMove_94 fw_RX0_15 rfl rfl rfl ⟨Or.inr (by first | exact id | exact dl7_ (by decide) | simp [DL]), Or.inr (by first | exact id | exact df14_ (by decide) | simp [DF])⟩ (by first | trivial | (simp only [Okv]; omega) | (simp [Okv]; try omega)) (fun ρ76 a_ρ76 q_ρ76 => ?_)
        refine r_aload_n hC dX0_endMove_97 rfl ?_
        refine r_iload_n hC dX0_endMove_98 rfl ?_
        refine z_putIG (jz := 4) hM dX0_endMove_99 fw_RX0_24 rfl rfl rfl ⟨Or.inr (by first | exact id | exact dl7_ (by decide) | simp [DL]), Or.inr (by first | exact id | exact df14_ (by decide) | simp [DF])⟩ (by first | trivial | (simp only [Okv]; omega) | (simp [Okv]; try omega)) (fun ρ77 a_ρ77 q_ρ77 => ?_)
        refine r_aload_n hC dX0_endMove_102 rfl ?_
        refine r_dup hC dX0_endMove_103 rfl ?_
        refine z_getI (jz := 5) hM dX0_endMove_104 fl_RX0_27 rfl rfl rfl (fun v78 h_v78 o_v78 t_v78 => ?_)
        have e_v78 : s = v78 := ((t_v78 ((Or.inl (by first | exact trivial | exact tb7_ (by decide) | simp [Tb])))).trans ((a_ρ77 _ _ _ (by first | exact xs_ (by decide) | exact xc_ (by decide) | omega)).trans ((a_ρ76 _ _ _ (by first | exact xs_ (by decide) | exact xc_ (by decide) | omega)).trans ((a_ρ75 _ _ _ (by first | exact xs_ (by decide) | exact xc_ (by decide) | omega)).trans ((a_ρ63 _ _ _ (by first | exact xs_ (by decide) | exact xc_ (by decide) | omega)).trans ((a_ρ59 _ _ _ (by first | exact xs_ (by decide) | exact xc_ (by decide) | omega)).trans ((a_ρ56 _ _ _ (by first | exact xs_ (by decide) | exact xc_ (by decide) | omega)).trans ((a_ρ55 _ _ _ (by first | exact xs_ (by decide) | exact xc_ (by decide) | omega)).trans qg5)))))))).symm
        clear t_v78
        subst e_v78
        refine r_iload_n hC dX0_endMove_107 rfl ?_
        refine r_iadd hC dX0_endMove_108 ?_
        have f79 := inR_le (inR_wr (s + ((c - 1) + v61)))
        refine z_putIG (jz := 5) hM dX0_endMove_109 fw_RX0_27 rfl rfl rfl ⟨Or.inr (by first | exact id | exact dl7_ (by decide) | simp [DL]), Or.inr (by first | exact id | exact df14_ (by decide) | simp [DF])⟩ (by first | trivial | (simp only [Okv]; omega) | (simp [Okv]; try omega)) (fun ρ80 a_ρ80 q_ρ80 => ?_)
        refine r_aload_n hC dX0_endMove_112 rfl ?_
        refine r_aload_n hC dX0_endMove_113 rfl ?_
        refine z_getI (jz := 6) hM dX0_endMove_114 fl_RX0_30 rfl rfl rfl (fun v81 h_v81 o_v81 t_v81 => ?_)
        have e_v81 : o = v81 := ((t_v81 ((Or.inl (by first | exact trivial | exact tb7_ (by decide) | simp [Tb])))).trans ((a_ρ80 _ _ _ (by first | exact xs_ (by decide) | exact xc_ (by decide) | omega)).trans ((a_ρ77 _ _ _ (by first | exact xs_ (by decide) | exact xc_ (by decide) | omega)).trans ((a_ρ76 _ _ _ (by first | exact xs_ (by decide) | exact xc_ (by decide) | omega)).trans ((a_ρ75 _ _ _ (by first | exact xs_ (by decide) | exact xc_ (by decide) | omega)).trans ((a_ρ63 _ _ _ (by first | exact xs_ (by decide) | exact xc_ (by decide) | omega)).trans ((a_ρ59 _ _ _ (by first | exact xs_ (by decide) | exact xc_ (by decide) | omega)).trans ((a_ρ56 _ _ _ (by first | exact xs_ (by decide) | exact xc_ (by decide) | omega)).trans ((a_ρ55 _ _ _ (by first | exact xs_ (by decide) | exact xc_ (by decide) | omega)).trans qg6))))))))).symm
        clear t_v81
        subst e_v81
        refine r_iload_n hC dX0_endMove_117 rfl ?_
        refine z_ins2 hM dX0_endMove_118 tl_RX0_37 rfl (Nat.le_of_ble_eq_true rfl) (Nat.le_of_ble_eq_true rfl) ?_
        refine x_max (fun v82 h_v82 => ?_)
        refine z_putIG (jz := 6) hM dX0_endMove_121 fw_RX0_30 rfl rfl rfl ⟨Or.inr (by first | exact id | exact dl7_ (by decide) | simp [DL]), Or.inr (by first | exact id | exact df14_ (by decide) | simp [DF])⟩ (by first | trivial | (simp only [Okv]; omega) | (simp [Okv]; try omega)) (fun ρ83 a_ρ83 q_ρ83 => ?_)
        refine y_vret hK rfl dX0_endMove_124 ?_
        exact k _ ((((((((((Gx.rf).al a_ρ55 (by first | (simp; done) | omega | (simp; omega))).al a_ρ56 (by first | (simp; done) | omega | (simp; omega))).al a_ρ59 (by first | (simp; done) | omega | (simp; omega))).al a_ρ63 (by first | (simp; done) | omega | (simp; omega))).al a_ρ75 (by first | (simp; done) | omega | (simp; omega))).al a_ρ76 (by first | (simp; done) | omega | (simp; omega))).al a_ρ77 (by first | (simp; done) | omega | (simp; omega))).al a_ρ80 (by first | (simp; done) | omega | (simp; omega))).al a_ρ83 (by first | (simp; done) | omega | (simp; omega))) (by have hq := ((a_ρ83 _ _ _ (by first | exact xs_ (by decide) | exact xc_ (by decide) | omega)).trans ((a_ρ80 _ _ _ (by first | exact xs_ (by decide) | exact xc_ (by decide) | omega)).trans ((a_ρ77 _ _ _ (by first | exact xs_ (by decide) | exact xc_ (by decide) | omega)).trans ((a_ρ76 _ _ _ (by first | exact xs_ (by decide) | exact xc_ (by decide) | omega)).trans q_ρ75)))); refine hq.trans ?_; (repeat' split) <;> omega) (by have hq := ((a_ρ83 _ _ _ (by first | exact xs_ (by decide) | exact xc_ (by decide) | omega)).trans ((a_ρ80 _ _ _ (by first | exact xs_ (by decide) | exact xc_ (by decide) | omega)).trans ((a_ρ77 _ _ _ (by first | exact xs_ (by decide) | exact xc_ (by decide) | omega)).trans q_ρ76))); refine hq.trans ?_; (repeat' split) <;> omega) (by have hq := ((a_ρ83 _ _ _ (by first | exact xs_ (by decide) | exact xc_ (by decide) | omega)).trans ((a_ρ80 _ _ _ (by first | exact xs_ (by decide) | exact xc_ (by decide) | omega)).trans ((a_ρ77 _ _ _ (by first | exact xs_ (by decide) | exact xc_ (by decide) | omega)).trans ((a_ρ76 _ _ _ (by first | exact xs_ (by decide) | exact xc_ (by decide) | omega)).trans ((a_ρ75 _ _ _ (by first | exact xs_ (by decide) | exact xc_ (by decide) | omega)).trans ((a_ρ63 _ _ _ (by first | exact xs_ (by decide) | exact xc_ (by decide) | omega)).trans ((a_ρ59 _ _ _ (by first | exact xs_ (by decide) | exact xc_ (by decide) | omega)).trans q_ρ56))))))); refine hq.trans ?_; (repeat' split) <;> omega) (by have hq := ((a_ρ83 _ _ _ (by first | exact xs_ (by decide) | exact xc_ (by decide) | omega)).trans ((a_ρ80 _ _ _ (by first | exact xs_ (by decide) | exact xc_ (by decide) | omega)).trans ((a_ρ77 _ _ _ (by first | exact xs_ (by decide) | exact xc_ (by decide) | omega)).trans ((a_ρ76 _ _ _ (by first | exact xs_ (by decide) | exact xc_ (by decide) | omega)).trans ((a_ρ75 _ _ _ (by first | exact xs_ (by decide) | exact xc_ (by decide) | omega)).trans q_ρ63))))); refine hq.trans ?_; (repeat' split) <;> omega) (by have hq := ((a_ρ83 _ _ _ (by first | exact xs_ (by decide) | exact xc_ (by decide) | omega)).trans ((a_ρ80 _ _ _ (by first | exact xs_ (by decide) | exact xc_ (by decide) | omega)).trans q_ρ77)); refine hq.trans ?_; (repeat' split) <;> omega) (by have hq := ((a_ρ83 _ _ _ (by first | exact xs_ (by decide) | exact xc_ (by decide) | omega)).trans q_ρ80); refine hq.trans (congrArg wr ?_); (repeat' split) <;> omega) (by have hq := q_ρ83; refine hq.trans ?_; (repeat' split) <;> omega)
theorem x_endMoveMW {eb ec : Bool} {d : Nat} {P : Option Vl → Mm → Prop} {σ : Mm} {i c f m b l : Int} (b_i : 0 ≤ i ∧ i ≤ 7) (b_c : 0 ≤ c ∧ c ≤ 1) (q0 : σ 11 i 0 = f) (q1 : σ 11 i 1 = m) (q2 : σ 11 i 2 = b) (q3 : σ 11 i 3 = l) (b_f : -1 ≤ f ∧ f ≤ 400) (b_m : 0 ≤ m ∧ m ≤ 400) (b_b : 0 ≤ b ∧ b ≤ 401) (b_l : 0 ≤ l ∧ l ≤ 1000) (k : P none (su σ 11 i (emR c (σ 11 i)))) : WT (true, eb, ec) (d + 2) 6 [vR 11 i, vI c] σ P := by
  refine x_endMoveW (q := σ 11 i 4) (s := σ 11 i 5) (o := σ 11 i 6) b_i b_c b_f q0 b_m q1 b_b q2 b_l q3 rfl rfl rfl (fun ρ g h0 h1 h2 h3 h4 h5 h6 => ?_)
  subst q0 q1 q2 q3
  have e : ρ = su σ 11 i (emR c (σ 11 i)) := mu7 g h0 h1 h2 h3 h4 h5 h6
  rw [e]
  exact k
theorem x_addW {eb ec : Bool} {d : Nat} {P : Option Vl → Mm → Prop} {σ : Mm} {i : Int} (b_i : 0 ≤ i ∧ i ≤ 7) (hF : (0 ≤ σ 11 i 0 ∧ σ 11 i 0 ≤ 400) ∧ (0 ≤ σ 11 i 1 ∧ σ 11 i 1 ≤ 400) ∧ (0 ≤ σ 11 i 2 ∧ σ 11 i 2 ≤ 400) ∧ 0 ≤ σ 11 i 3 ∧ σ 11 i 3 ≤ 1000)  (k : P none (adM σ i)) : WT (true, eb, ec) (d + 3) 3 [vR 11 i] σ P := by
  refine WT_in fun K hK => ?_
  have hK : StpY (true, eb, ec) cX0_add RX0 (none) (WT (true, eb, ec) (d + 2)) P K := hK
  have hM := hK.1
  have hC := hK.1.1
  show K 0 [some (vR 11 i), none] [] σ
  refine r_aload_n hC dX0_add_0 rfl ?_
  refine z_getI (jz := 2) hM dX0_add_1 fl_RX0_18 rfl rfl rfl (fun v1 h_v1 o_v1 t_v1 => ?_)
  have w_v1 := ((t_v1 (Or.inl (by first | exact trivial | exact tb7_ (by decide) | simp [Tb]))).trans (rfl)).symm
  clear t_v1
  subst w_v1
  refine r_if_le (tgt := 11) hC dX0_add_4 rfl (fun h2 => ?_) (fun h2 => ?_)
  · refine r_iconst hC dX0_add_11 rfl ?_
    refine r_istore_n hC dX0_add_12 rfl ?_
    refine r_aload_n hC dX0_add_13 rfl ?_
    refine r_dup hC dX0_add_14 rfl ?_
    refine z_getI (jz := 2) hM dX0_add_15 fl_RX0_18 rfl rfl rfl (fun v3 h_v3 o_v3 t_v3 => ?_)
    have w_v3 := ((t_v3 (Or.inl (by first | exact trivial | exact tb7_ (by decide) | simp [Tb]))).trans (rfl)).symm
    clear t_v3
    subst w_v3
    refine r_iconst hC dX0_add_18 rfl ?_
    refine r_iaddE hC (((σ 11 i 2) + 1)) dX0_add_19 (by omega) (by unfold inR; omega) ?_
    refine z_putIT (jz := 2) hM dX0_add_20 fw_RX0_18 rfl rfl rfl ⟨Or.inr (by first | exact id | exact dl7_ (by decide) | simp [DL]), Or.inr (by first | exact id | exact df14_ (by decide) | simp [DF])⟩ (by first | trivial | (simp only [Okv]; omega) | (simp [Okv]; try omega)) ?_
    refine r_aload_n hC dX0_add_23 rfl ?_
    refine r_iload_n hC dX0_add_24 rfl ?_
    refine z_inv1 hM dX0_add_25 vl_RX0_33 rfl rfl rfl (Nat.le_of_ble_eq_true rfl) (Nat.le_of_ble_eq_true rfl) ?_
    refine x_endMoveMW (by omega) (by omega) ((mu_ne (by omega)).trans (rfl)) ((mu_ne (by omega)).trans (rfl)) (mu_self _ _ _ _ _) ((mu_ne (by omega)).trans (rfl)) (by omega) (by omega) (by omega) (by omega) ?_
    refine y_vret hK rfl dX0_add_28 ?_
    have hm : adM σ i = (su (mu σ 11 i 2 ((σ 11 i 2) + 1)) 11 i (emR 0 ((mu σ 11 i 2 ((σ 11 i 2) + 1)) 11 i))) := by first | exact adM_1 (by omega) | exact adM_0 (by omega)
    rw [hm] at k
    exact k
  · refine r_iconst hC dX0_add_7 rfl ?_
    refine r_goto (tgt := 12) hC dX0_add_8 rfl ?_
    refine r_istore_n hC dX0_add_12 rfl ?_
    refine r_aload_n hC dX0_add_13 rfl ?_
    refine r_dup hC dX0_add_14 rfl ?_
    refine z_getI (jz := 2) hM dX0_add_15 fl_RX0_18 rfl rfl rfl (fun v4 h_v4 o_v4 t_v4 => ?_)
    have w_v4 := ((t_v4 (Or.inl (by first | exact trivial | exact tb7_ (by decide) | simp [Tb]))).trans (rfl)).symm
    clear t_v4
    subst w_v4
    refine r_iconst hC dX0_add_18 rfl ?_
    refine r_iaddE hC (((σ 11 i 2) + 1)) dX0_add_19 (by omega) (by unfold inR; omega) ?_
    refine z_putIT (jz := 2) hM dX0_add_20 fw_RX0_18 rfl rfl rfl ⟨Or.inr (by first | exact id | exact dl7_ (by decide) | simp [DL]), Or.inr (by first | exact id | exact df14_ (by decide) | simp [DF])⟩ (by first | trivial | (simp only [Okv]; omega) | (simp [Okv]; try omega)) ?_
    refine r_aload_n hC dX0_add_23 rfl ?_
    refine r_iload_n hC dX0_add_24 rfl ?_
    refine z_inv1 hM dX0_add_25 vl_RX0_33 rfl rfl rfl (Nat.le_of_ble_eq_true rfl) (Nat.le_of_ble_eq_true rfl) ?_
    refine x_endMoveMW (by omega) (by omega) ((mu_ne (by omega)).trans (rfl)) ((mu_ne (by omega)).trans (rfl)) (mu_self _ _ _ _ _) ((mu_ne (by omega)).trans (rfl)) (by omega) (by omega) (by omega) (by omega) ?_
    refine y_vret hK rfl dX0_add_28 ?_
    have hm : adM σ i = (su (mu σ 11 i 2 ((σ 11 i 2) + 1)) 11 i (emR 1 ((mu σ 11 i 2 ((σ 11 i 2) + 1)) 11 i))) := by first | exact adM_1 (by omega) | exact adM_0 (by omega)
    rw [hm] at k
    exact k
-- B: moves that are never made
def cst (f : Int → Int) : Nat → Int → Int
  | 0 => f
  | n + 1 => adR (cst f n)
def cs0 (V : Mm) (l : Int) : Int → Int := r7 (V 11 l 0) (V 11 l 1) (V 11 l 2) (V 11 l 3) (V 11 l 4) 0 0 (fun _ => 0)
abbrev csC (V : Mm) (l m w : Int) : Prop := opV V l ∧ (0 ≤ m ∧ m ≤ 200) ∧ 0 ≤ w ∧ w ≤ 1
def csR (V : Mm) (l m w : Int) : Int := if csC V l m w then (if w = 0 then cst (cs0 V l) m.toNat 5 else cst (cs0 V l) m.toNat 6) else -1
theorem r7_4 {a0 a1 a2 a3 a4 a5 a6 : Int} {g : Int → Int} : r7 a0 a1 a2 a3 a4 a5 a6 g 4 = a4 := rfl
theorem r7_5 {a0 a1 a2 a3 a4 a5 a6 : Int} {g : Int → Int} : r7 a0 a1 a2 a3 a4 a5 a6 g 5 = a5 := rfl
theorem r7_6 {a0 a1 a2 a3 a4 a5 a6 : Int} {g : Int → Int} : r7 a0 a1 a2 a3 a4 a5 a6 g 6 = a6 := rfl
theorem emL_cg {f g : Int → Int} (h : ∀ y : Int, 0 ≤ y → y ≤ 3 → g y = f y) : emL g = emL f := by
  unfold emL
  rw [h 0 (by omega) (by omega), h 1 (by omega) (by omega), h 2 (by omega) (by omega), h 3 (by omega) (by omega)]
theorem emM_cg {f g : Int → Int} (h : ∀ y : Int, 0 ≤ y → y ≤ 3 → g y = f y) : emM g = emM f := by
  unfold emM
  rw [h 0 (by omega) (by omega), h 1 (by omega) (by omega), h 2 (by omega) (by omega)]
theorem emT_cg {f g : Int → Int} (c : Int) (h : ∀ y : Int, 0 ≤ y → y ≤ 3 → g y = f y) : emT c g = emT c f := by
  unfold emT
  rw [emL_cg h, h 0 (by omega) (by omega), h 1 (by omega) (by omega), h 2 (by omega) (by omega)]
theorem emR_cg {f g : Int → Int} (c : Int) (h : ∀ y : Int, 0 ≤ y → y ≤ 3 → g y = f y) : ∀ y : Int, 0 ≤ y → y ≤ 4 → emR c g y = emR c f y := fun y a b => by
  unfold emR
  rw [emL_cg h, emM_cg h, emT_cg c h, h 0 (by omega) (by omega), h 1 (by omega) (by omega), h 2 (by omega) (by omega)]
  rcases (by omega : y = 0 ∨ y = 1 ∨ y = 2 ∨ y = 3 ∨ y = 4) with rfl | rfl | rfl | rfl | rfl <;> rfl
theorem ft_cg {f g : Int → Int} {j a : Int} {n : Int} (h : ∀ y : Int, 0 ≤ y → y ≤ n → g y = f y) : ∀ y : Int, 0 ≤ y → y ≤ n → ft g j a y = ft f j a y := fun y p q => by
  unfold ft
  rw [h y p q]
theorem adR_cg {f g : Int → Int} (h : ∀ y : Int, 0 ≤ y → y ≤ 3 → g y = f y) : ∀ y : Int, 0 ≤ y → y ≤ 4 → adR g y = adR f y := by
  unfold adR
  rw [h 2 (by omega) (by omega)]
  exact emR_cg _ (ft_cg h)
theorem adR_5 (f : Int → Int) : adR f 5 = wr (f 5 + adR f 4) := by
  unfold adR emR
  rw [r7_5, r7_4]
  rfl
theorem adR_6 (f : Int → Int) : adR f 6 = max (f 6) (adR f 4) := by
  unfold adR emR
  rw [r7_6, r7_4]
  rfl
theorem cst_s (f : Int → Int) {i : Int} (h : 0 ≤ i) : cst f (i + 1).toNat = adR (cst f i.toNat) := by
  rw [show (i + 1).toNat = i.toNat + 1 from by omega]
  rfl
theorem cst_FI {f : Int → Int} {h : Int} (p : FI f h) : ∀ n : Nat, FI (cst f n) (h + n)
  | 0 => by
    rw [show h + ((0 : Nat) : Int) = h from by omega]
    exact p
  | n + 1 => by
    rw [show h + ((n + 1 : Nat) : Int) = h + n + 1 from by omega]
    exact FI_ad (cst_FI p n)
theorem FIW {f : Int → Int} {h : Int} (p : FI f h) (hh : h ≤ 320) : (0 ≤ f 0 ∧ f 0 ≤ 320) ∧ (0 ≤ f 1 ∧ f 1 ≤ 320) ∧ (0 ≤ f 2 ∧ f 2 ≤ 320) ∧ 0 ≤ f 3 ∧ f 3 ≤ 700 := by
  unfold FI at p
  omega
theorem adT {f : Int → Int} {h : Int} (p : FI f h) : 0 ≤ adR f 4 ∧ adR f 4 ≤ 4 := by
  have a0 : ft f 2 (f 2 + 1) 0 = f 0 := if_neg (by decide)
  have a1 : ft f 2 (f 2 + 1) 1 = f 1 := if_neg (by decide)
  have a2 : ft f 2 (f 2 + 1) 2 = f 2 + 1 := if_pos rfl
  have a3 : ft f 2 (f 2 + 1) 3 = f 3 := if_neg (by decide)
  unfold FI at p
  unfold adR emR
  rw [r7_4]
  unfold emT emL
  simp only [a0, a1, a2, a3]
  (repeat' split) <;> omega
theorem cs0_FI {V : Mm} {l h : Int} (p : FI (V 11 l) h) : FI (cs0 V l) h := FI_c p (fun y a b => by
  unfold cs0
  rcases (by omega : y = 0 ∨ y = 1 ∨ y = 2 ∨ y = 3) with rfl | rfl | rfl | rfl <;> rfl)
theorem adR_cg6 {f g : Int → Int} (h : ∀ y : Int, 0 ≤ y → y ≤ 6 → g y = f y) : ∀ y : Int, 0 ≤ y → y ≤ 6 → adR g y = adR f y := fun y a b => by
  have q := adR_cg (f := f) (g := g) (fun y a b => h y a (by omega))
  by_cases h5 : y = 5
  · subst h5
    rw [adR_5, adR_5, q 4 (by omega) (by omega), h 5 (by omega) (by omega)]
  by_cases h6 : y = 6
  · subst h6
    rw [adR_6, adR_6, q 4 (by omega) (by omega), h 6 (by omega) (by omega)]
  exact q y a (by omega)
-- the LANE tried, held against nothing of the class's
theorem SB.dn7 {σ0 V W ρ : Mm} (h : SB 7 σ0 W ρ) (e : ∀ (c : Nat) (x y : Int), c < 30 → ¬ (x = 7 ∧ (c = 7 ∨ c = 8 ∨ c = 9 ∨ c = 10 ∨ c = 11)) → W c x y = V c x y) : SB 6 σ0 V ρ := by
  obtain ⟨q1, q2, q3, q4, q5, q6, q7, q8⟩ := h
  refine ⟨fun m u g x y z => ?_, fun m u g x y z => ?_, fun m u x y z k => ?_, fun k x y => ?_, fun k x y => ?_, fun k x y => ?_, fun k x y => ?_, fun c x y z => ?_⟩
  · rw [← e 7 m u (by omega) (by omega)]; exact q1 m u g x (by omega) z
  · rw [← e 11 m u (by omega) (by omega)]; exact q2 m u g x (by omega) z
  · rw [← e 8 m u (by omega) (by omega), ← e 9 m u (by omega) (by omega), ← e 10 m u (by omega) (by omega)]; exact q3 m u x (by omega) z k
  · rw [← e 12 k 0 (by omega) (by omega), ← e 12 k 1 (by omega) (by omega), ← e 12 k 2 (by omega) (by omega), ← e 12 k 3 (by omega) (by omega), ← e 12 k 4 (by omega) (by omega), ← e 12 k 5 (by omega) (by omega)]; exact q4 k x y
  · rw [← e 13 k 0 (by omega) (by omega), ← e 13 k 1 (by omega) (by omega), ← e 13 k 2 (by omega) (by omega), ← e 13 k 3 (by omega) (by omega)]; exact q5 k x y
  · rw [← e 15 0 k (by omega) (by omega)]; exact q6 k x y
  · rw [← e 16 0 k (by omega) (by omega)]; exact q7 k x y
  · exact q8 c x y z
theorem RS.dn7 {σ0 V W ρ : Mm} (h : RS 7 σ0 W ρ) (e : ∀ (c : Nat) (x y : Int), c < 30 → ¬ (x = 7 ∧ (c = 7 ∨ c = 8 ∨ c = 9 ∨ c = 10 ∨ c = 11)) → W c x y = V c x y) : RS 6 σ0 V ρ :=
  ⟨h.1.dn7 e, fun l a b => by rw [← e 11 l 3 (by omega) (by omega)]; exact h.2.1 l a (by omega), fun l a b c => by rw [← e 7 l 0 (by omega) (by omega)]; exact h.2.2 l a b (by rw [e 7 l 1 (by omega) (by omega)]; exact c)⟩
/-- as V, but LANE 7 as the reference's own LANE 7 -/
def up7 (V ρ : Mm) : Mm := fun c x y => if x = 7 then (if c = 7 then ρ 31 0 (154 + (if y = 1 then 0 else if y = 2 then 1 else if y = 3 then 2 else if y = 4 then 3 else if y = 5 then 4 else if y = 6 then 5 else if y = 10 then 6 else if y = 12 then 8 else if y = 13 then 9 else if y = 14 then 10 else 11)) else if c = 11 then ρ 31 0 (154 + (if y = 0 then 12 else if y = 1 then 13 else if y = 2 then 14 else if y = 3 then 15 else if y = 4 then 18 else if y = 5 then 19 else 20)) else if c = 8 then ρ 32 0 (847 + y) else if c = 9 then ρ 33 0 (847 + y) else if c = 10 then ρ 34 0 (847 + y) else V c x y) else V c x y
theorem up7_ne {V ρ : Mm} {c : Nat} {x y : Int} (h : ¬ (x = 7 ∧ (c = 7 ∨ c = 8 ∨ c = 9 ∨ c = 10 ∨ c = 11))) : up7 V ρ c x y = V c x y := by
  unfold up7
  by_cases hx : x = 7
  · rw [if_pos hx, if_neg (by omega), if_neg (by omega), if_neg (by omega), if_neg (by omega), if_neg (by omega)]
  · rw [if_neg hx]
theorem up7_7 {V ρ : Mm} {y : Int} : up7 V ρ 7 7 y = ρ 31 0 (154 + (if y = 1 then 0 else if y = 2 then 1 else if y = 3 then 2 else if y = 4 then 3 else if y = 5 then 4 else if y = 6 then 5 else if y = 10 then 6 else if y = 12 then 8 else if y = 13 then 9 else if y = 14 then 10 else 11)) := by
  unfold up7
  rw [if_pos rfl, if_pos rfl]
theorem up7_11 {V ρ : Mm} {y : Int} : up7 V ρ 11 7 y = ρ 31 0 (154 + (if y = 0 then 12 else if y = 1 then 13 else if y = 2 then 14 else if y = 3 then 15 else if y = 4 then 18 else if y = 5 then 19 else 20)) := by
  unfold up7
  rw [if_pos rfl, if_neg (by decide), if_pos rfl]
theorem SB.up7 {σ0 V ρ : Mm} (h : SB 6 σ0 V ρ) : SB 7 σ0 (up7 V ρ) ρ := by
  obtain ⟨q1, q2, q3, q4, q5, q6, q7, q8⟩ := h
  refine ⟨fun m u g x y z => ?_, fun m u g x y z => ?_, fun m u x y z k => ?_, fun k x y => ?_, fun k x y => ?_, fun k x y => ?_, fun k x y => ?_, fun c x y z => ?_⟩
  · by_cases e : m = 7
    · subst e
      rw [up7_7]
      unfold P7 at z
      rcases z with ⟨rfl, rfl⟩ | ⟨rfl, rfl⟩ | ⟨rfl, rfl⟩ | ⟨rfl, rfl⟩ | ⟨rfl, rfl⟩ | ⟨rfl, rfl⟩ | ⟨rfl, rfl⟩ | ⟨rfl, rfl⟩ | ⟨rfl, rfl⟩ | ⟨rfl, rfl⟩ | ⟨rfl, rfl⟩ <;> rfl
    · rw [up7_ne (by omega)]; exact q1 m u g x (by omega) z
  · by_cases e : m = 7
    · subst e
      rw [up7_11]
      unfold P11 at z
      rcases z with ⟨rfl, rfl⟩ | ⟨rfl, rfl⟩ | ⟨rfl, rfl⟩ | ⟨rfl, rfl⟩ | ⟨rfl, rfl⟩ | ⟨rfl, rfl⟩ | ⟨rfl, rfl⟩ <;> rfl
    · rw [up7_ne (by omega)]; exact q2 m u g x (by omega) z
  · by_cases e : m = 7
    · subst e
      exact ⟨rfl, rfl, rfl⟩
    · rw [up7_ne (by omega), up7_ne (by omega), up7_ne (by omega)]; exact q3 m u x (by omega) z k
  · rw [up7_ne (by omega), up7_ne (by omega), up7_ne (by omega), up7_ne (by omega), up7_ne (by omega), up7_ne (by omega)]; exact q4 k x y
  · rw [up7_ne (by omega), up7_ne (by omega), up7_ne (by omega), up7_ne (by omega)]; exact q5 k x y
  · rw [up7_ne (by omega)]; exact q6 k x y
  · rw [up7_ne (by omega)]; exact q7 k x y
  · exact q8 c x y z
theorem RS.up7 {σ0 V ρ : Mm} (h : RS 6 σ0 V ρ) : SB 7 σ0 (up7 V ρ) ρ ∧ KX 7 7 (up7 V ρ) ρ ∧ FB (up7 V ρ) ρ :=
  ⟨h.1.up7, fun m a b c => by rw [up7_ne (by omega)]; exact h.2.1 m a (by omega), fun l a b c => by
    rw [up7_ne (by omega)] at c
    rw [up7_ne (by omega)]
    exact h.2.2 l a b c⟩
theorem LK_drps {l : Int} : ∀ (n : Nat) {V : Mm}, LK V l → (V 7 l 3 = 1 → 0 ≤ V 7 l 4) → LK (drps l n V) l
  | 0, _, h, _ => h
  | n + 1, V, h, hz => by
    show LK (if goV V l then drps l n (dpM V l) else V) l
    split
    · rename_i hg
      exact LK_drps n (LK_dp h (by rcases hg with q | q <;> omega)) (by rw [dpM_ne (by omega), dpM_ne (by omega)]; exact hz)
    · exact h
theorem LK_pl {V : Mm} {l t v : Int} (h : LK V l) (h6 : V 7 l 6 ≤ 120) (hv : -1000 ≤ v ∧ v ≤ 1000) (hz : V 7 l 3 = 1 → 0 ≤ V 7 l 4) : LK (plM V l t v) l :=
  LK_drps _ (LK_en h h6 hv) (by rw [enM_nx (by unfold PS; omega), enM_nx (by unfold PS; omega)]; exact hz)
-- B: the class: cost
theorem x_cost {ec : Bool} {d : Nat} {P : Option Vl → Mm → Prop} {σ : Mm} {l m w : Int}  (hG : GI σ)  (k : ∀ ρ : Mm, (∀ (c : Nat) (x y : Int), ¬ (c = 11 ∧ x = 7) → ρ c x y = σ c x y) → P (some (vI (csR σ l m w))) ρ) : WT (true, false, ec) (d + 4) 96 [vR 2 0, vI l, vI m, vI w] σ P := by
  refine WT_in fun K hK => ?_
  have hK : StpY (true, false, ec) cX5_cost RX5 (some .int) (WT (true, false, ec) (d + 3)) P K := hK
  have hM := hK.1
  have hC := hK.1.1
  show K 0 [some (vR 2 0), some (vI l), some (vI m), some (vI w), none, none] [] σ
  refine r_rngz hC (fun g0 => ?_)
  have r_l : -2147483648 ≤ l ∧ l ≤ 2147483647 := inR_le (g0 (vI l) (by simp))
  have r_m : -2147483648 ≤ m ∧ m ≤ 2147483647 := inR_le (g0 (vI m) (by simp))
  have r_w : -2147483648 ≤ w ∧ w ≤ 2147483647 := inR_le (g0 (vI w) (by simp))
  refine r_aload_n hC dX5_cost_0 rfl ?_
  refine r_iload_n hC dX5_cost_1 rfl ?_
  refine z_inv1 hM dX5_cost_2 vl_RX5_123 rfl rfl rfl (Nat.le_of_ble_eq_true rfl) (Nat.le_of_ble_eq_true rfl) ?_
  refine x_openLane (fun h1 => ?_) (fun h1 => ?_)
  · -- h1
    refine r_astore hC dX5_cost_5 rfl ?_
    refine r_aload hC dX5_cost_7 rfl ?_
    refine r_ifnullR hC dX5_cost_9 ?_
    refine r_iload_n hC dX5_cost_12 rfl ?_
    refine r_iconst hC dX5_cost_13 rfl ?_
    refine r_sipush hC dX5_cost_14 rfl ?_
    refine z_ins3 hM dX5_cost_17 tl_RX5_59 rfl (Nat.le_of_ble_eq_true rfl) (Nat.le_of_ble_eq_true rfl) ?_
    refine s_within (fun h3 => ?_) (fun h3 => ?_)
    · refine r_if_eq (tgt := 32) hC dX5_cost_20 rfl (fun h4 => by omega) (fun h4 => ?_)
      refine r_iload_n hC dX5_cost_23 rfl ?_
      refine r_iconst hC dX5_cost_24 rfl ?_
      refine r_iconst hC dX5_cost_25 rfl ?_
      refine z_ins3 hM dX5_cost_26 tl_RX5_59 rfl (Nat.le_of_ble_eq_true rfl) (Nat.le_of_ble_eq_true rfl) ?_
      refine s_within (fun h6 => ?_) (fun h6 => ?_)
      · refine r_if_ne (tgt := 34) hC dX5_cost_29 rfl (fun h7 => ?_) (fun h7 => by omega)
        have h6_l := hG.1.h7 (l := l) (by omega) (by omega)
        refine r_aload_n hC dX5_cost_34 rfl ?_
        refine z_getR hM dX5_cost_35 fl_RX5_47 rfl rfl (vld_of (n := 8) rfl (by omega) (by omega)) ?_
        refine r_aload hC dX5_cost_38 rfl ?_
        refine z_getR hM dX5_cost_40 fl_RX5_189 rfl rfl (vld_of (n := 8) rfl (by omega) (by omega)) ?_
        refine z_inv1 hM dX5_cost_43 vl_RX5_300 rfl rfl rfl (Nat.le_of_ble_eq_true rfl) (Nat.le_of_ble_eq_true rfl) ?_
        refine x_copyFrom (by omega) (by omega) (by omega) ?_
        refine r_aload_n hC dX5_cost_46 rfl ?_
        refine z_getR hM dX5_cost_47 fl_RX5_47 rfl rfl (vld_of (n := 8) rfl (by omega) (by omega)) ?_
        refine r_iconst hC dX5_cost_50 rfl ?_
        refine z_putIT (jz := 5) hM dX5_cost_51 fw_RX5_304 rfl rfl rfl ⟨Or.inr (by simp [DL]), Or.inr (by simp [DF])⟩ (by first | trivial | (simp only [Okv]; omega) | (simp [Okv]; try omega)) ?_
        refine r_aload_n hC dX5_cost_54 rfl ?_
        refine z_getR hM dX5_cost_55 fl_RX5_47 rfl rfl (vld_of (n := 8) rfl (by omega) (by omega)) ?_
        refine r_iconst hC dX5_cost_58 rfl ?_
        refine z_putIT (jz := 6) hM dX5_cost_59 fw_RX5_307 rfl rfl rfl ⟨Or.inr (by simp [DL]), Or.inr (by simp [DF])⟩ (by first | trivial | (simp only [Okv]; omega) | (simp [Okv]; try omega)) ?_
        refine r_iconst hC dX5_cost_62 rfl ?_
        refine r_istore hC dX5_cost_63 rfl ?_
        have L65 : ∀ (n65 : Nat) (w8 : Int) (ρ9 : Mm), 0 ≤ w8 ∧ w8 ≤ 200 → ((w8) ≤ m) → 200 - w8 < (n65 : Int) → (∀ (c : Nat) (x y : Int), ¬ (c = 11 ∧ x = 7) → ρ9 c x y = σ c x y) → (∀ y : Int, 0 ≤ y → y ≤ 6 → ρ9 11 7 y = cst (cs0 σ l) ((w8)).toNat y) → K 65 [some (vR 2 0), some (vI l), some (vI m), some (vI w), some (vR 7 l), some (vI w8)] [] ρ9 := by
          intro n65
          induction n65 with
          | zero => intro w8 ρ9 f_w8 i0_65 hm  m0_65 m1_65; omega
          | succ n65 ih65 =>
            intro w8 ρ9 f_w8 i0_65 hm65  m0_65 m1_65
            refine r_iload hC dX5_cost_65 rfl ?_
            refine r_iload_n hC dX5_cost_67 rfl ?_
            refine r_icmp_ge (tgt := 84) hC dX5_cost_68 rfl (fun h10 => ?_) (fun h10 => ?_)
            · refine r_iload_n hC dX5_cost_84 rfl ?_
              refine r_if_ne (tgt := 98) hC dX5_cost_85 rfl (fun h11 => ?_) (fun h11 => ?_)
              · refine r_aload_n hC dX5_cost_98 rfl ?_
                refine z_getR hM dX5_cost_99 fl_RX5_47 rfl rfl (vld_of (n := 8) rfl (by omega) (by omega)) ?_
                refine z_getI (jz := 6) hM dX5_cost_102 fl_RX5_307 rfl rfl rfl (fun v12 h_v12 o_v12 t_v12 => ?_)
                have w_v12 := ((t_v12 (Or.inl (by simp [Tb]))).trans (rfl)).symm
                subst w_v12
                refine y_iret hK rfl dX5_cost_105 ?_
                have hRr : csR σ l m w = (ρ9 11 7 6) := by
                  unfold csR
                  rw [if_pos ⟨by unfold opV; omega, by omega, by omega⟩, if_neg (by omega), show m.toNat = (w8).toNat from by omega]
                  exact (m1_65 6 (by omega) (by omega)).symm
                rw [hRr] at k
                exact k _ m0_65
              · refine r_aload_n hC dX5_cost_88 rfl ?_
                refine z_getR hM dX5_cost_89 fl_RX5_47 rfl rfl (vld_of (n := 8) rfl (by omega) (by omega)) ?_
                refine z_getI (jz := 5) hM dX5_cost_92 fl_RX5_304 rfl rfl rfl (fun v13 h_v13 o_v13 t_v13 => ?_)
                have w_v13 := ((t_v13 (Or.inl (by simp [Tb]))).trans (rfl)).symm
                subst w_v13
                refine r_goto (tgt := 105) hC dX5_cost_95 rfl ?_
                refine y_iret hK rfl dX5_cost_105 ?_
                have hRr : csR σ l m w = (ρ9 11 7 5) := by
                  unfold csR
                  rw [if_pos ⟨by unfold opV; omega, by omega, by omega⟩, if_pos (by omega), show m.toNat = (w8).toNat from by omega]
                  exact (m1_65 5 (by omega) (by omega)).symm
                rw [hRr] at k
                exact k _ m0_65
            · refine r_aload_n hC dX5_cost_71 rfl ?_
              refine z_getR hM dX5_cost_72 fl_RX5_47 rfl rfl (vld_of (n := 8) rfl (by omega) (by omega)) ?_
              refine z_inv0 hM dX5_cost_75 vl_RX5_192 rfl rfl rfl (Nat.le_of_ble_eq_true rfl) (Nat.le_of_ble_eq_true rfl) ?_
              have fw := FIW (cst_FI (cs0_FI (hG.1.2.1 l (by omega) (by omega))) (w8).toNat) (by omega)
              have a0 := m1_65 0 (by omega) (by omega)
              have a1 := m1_65 1 (by omega) (by omega)
              have a2 := m1_65 2 (by omega) (by omega)
              have a3 := m1_65 3 (by omega) (by omega)
              refine x_addW (by omega) (by rw [a0, a1, a2, a3]; omega) ?_
              refine r_iincE hC ((w8 + 1)) dX5_cost_78 rfl rfl (by omega) (by unfold inR; omega) ?_
              refine r_goto (tgt := 65) hC dX5_cost_81 rfl ?_
              exact ih65 ((w8 + 1)) (adM ρ9 7) (by omega) (by omega) (by omega)  (fun c x y q => (adM_ne (by omega)).trans (m0_65 c x y q)) (fun y a b => by rw [cst_s _ (by omega)]; exact (su_at).trans (adR_cg6 m1_65 y a b))
        exact L65 202 (0) (mu (mu (su σ 11 7 (r7 (σ 11 l 0) (σ 11 l 1) (σ 11 l 2) (σ 11 l 3) (σ 11 l 4) (σ 11 l 5) (σ 11 l 6) (σ 11 7))) 11 7 5 0) 11 7 6 0) (by omega) (by omega) (by omega)  (fun c x y q => (mu_ne (by omega)).trans ((mu_ne (by omega)).trans (su_ne (by omega)))) (fun y a b => by rcases (by omega : y = 0 ∨ y = 1 ∨ y = 2 ∨ y = 3 ∨ y = 4 ∨ y = 5 ∨ y = 6) with rfl | rfl | rfl | rfl | rfl | rfl | rfl <;> rfl)
      · refine r_if_ne (tgt := 34) hC dX5_cost_29 rfl (fun h14 => by omega) (fun h14 => ?_)
        refine r_iconst hC dX5_cost_32 rfl ?_
        refine y_iret hK rfl dX5_cost_33 ?_
        have hRr : csR σ l m w = -1 := if_neg (by unfold csC opV; omega)
        rw [hRr] at k
        exact k _ (fun _ _ _ _ => rfl)
    · refine r_if_eq (tgt := 32) hC dX5_cost_20 rfl (fun h15 => ?_) (fun h15 => by omega)
      refine r_iconst hC dX5_cost_32 rfl ?_
      refine y_iret hK rfl dX5_cost_33 ?_
      have hRr : csR σ l m w = -1 := if_neg (by unfold csC opV; omega)
      rw [hRr] at k
      exact k _ (fun _ _ _ _ => rfl)
  · -- h1
    refine r_astoreN hC dX5_cost_5 rfl ?_
    refine r_aloadN hC dX5_cost_7 rfl ?_
    refine r_ifnullN (tgt := 32) hC dX5_cost_9 rfl ?_
    refine r_iconst hC dX5_cost_32 rfl ?_
    refine y_iret hK rfl dX5_cost_33 ?_
    have hRr : csR σ l m w = -1 := if_neg (by unfold csC opV; omega)
    rw [hRr] at k
    exact k _ (fun _ _ _ _ => rfl)
-- B: the reference: a LANE tried
/-- what is known of a LANE that is copied to be tried -/
theorem cp7 {V U ρ W : Mm} {l n : Int} (hU : U = up7 V ρ) (hW : W = mu (cpM U l 7) 7 7 0 n) (hl : 0 ≤ l ∧ l ≤ 3) : (∀ y : Int, (1 ≤ y ∧ y ≤ 6) ∨ y = 10 ∨ (12 ≤ y ∧ y ≤ 15) → W 7 7 y = V 7 l y) ∧ (∀ (c : Nat) (y : Int), c = 8 ∨ c = 9 ∨ c = 10 → 0 ≤ y → y < V 7 l 6 → W c 7 y = V c l y) ∧ (∀ y : Int, 0 ≤ y → y ≤ 6 → W 11 7 y = V 11 l y) ∧ (∀ (c : Nat) (x y : Int), ¬ (x = 7 ∧ (c = 7 ∨ c = 8 ∨ c = 9 ∨ c = 10 ∨ c = 11)) → W c x y = V c x y) ∧ ∀ y : Int, ¬ (0 ≤ y ∧ y < V 7 l 6) → W 9 7 y = ρ 33 0 (847 + y) := by
  have e : ∀ (c : Nat) (y : Int), U c l y = V c l y := fun c y => by rw [hU]; exact up7_ne (by first | assumption | decide | exact xs_ (by decide) | exact xc_ (by decide) | exact x31_ (by decide) | omega)
  have e6 : U 7 l 6 = V 7 l 6 := e 7 6
  subst hW
  refine ⟨fun y hy => ?_, fun c y hc a b => ?_, fun y a b => ?_, fun c x y h => ?_, fun y h => ?_⟩
  · rw [mu_ne (by first | assumption | decide | exact xs_ (by decide) | exact xc_ (by decide) | exact x31_ (by decide) | omega)]
    unfold cpM
    rw [if_pos rfl, if_pos rfl, if_pos (by unfold cpS; omega)]
    exact e 7 y
  · rw [mu_ne (by first | assumption | decide | exact xs_ (by decide) | exact xc_ (by decide) | exact x31_ (by decide) | omega)]
    unfold cpM
    rw [if_pos rfl, if_neg (by first | assumption | decide | exact xs_ (by decide) | exact xc_ (by decide) | exact x31_ (by decide) | omega), if_pos hc, if_pos (by first | assumption | decide | exact xs_ (by decide) | exact xc_ (by decide) | exact x31_ (by decide) | omega)]
    exact e c y
  · rw [mu_ne (by first | assumption | decide | exact xs_ (by decide) | exact xc_ (by decide) | exact x31_ (by decide) | omega)]
    unfold cpM
    rw [if_pos rfl, if_neg (by decide), if_neg (by decide), if_pos rfl, if_pos ⟨a, b⟩]
    exact e 11 y
  · rw [mu_ne (by first | assumption | decide | exact xs_ (by decide) | exact xc_ (by decide) | exact x31_ (by decide) | omega)]
    unfold cpM
    by_cases hx : x = 7
    · rw [if_pos hx, if_neg (by first | assumption | decide | exact xs_ (by decide) | exact xc_ (by decide) | exact x31_ (by decide) | omega), if_neg (by first | assumption | decide | exact xs_ (by decide) | exact xc_ (by decide) | exact x31_ (by decide) | omega), if_neg (by first | assumption | decide | exact xs_ (by decide) | exact xc_ (by decide) | exact x31_ (by decide) | omega), hU]
      exact up7_ne h
    · rw [if_neg hx, hU]
      exact up7_ne h
  · rw [mu_ne (by first | assumption | decide | exact xs_ (by decide) | exact xc_ (by decide) | exact x31_ (by decide) | omega)]
    unfold cpM
    rw [if_pos rfl, if_neg (by decide), if_pos (by decide), if_neg (by first | assumption | decide | exact xs_ (by decide) | exact xc_ (by decide) | exact x31_ (by decide) | omega), hU]
    unfold up7
    rw [if_pos rfl, if_neg (by decide), if_neg (by decide), if_neg (by decide), if_pos rfl]
theorem LK7 {V U ρ W : Mm} {l n : Int} (hG : GI V) (hU : U = up7 V ρ) (hW : W = mu (cpM U l 7) 7 7 0 n) (hl : 0 ≤ l ∧ l ≤ 3) (hb : ∀ j : Int, 0 ≤ j → j ≤ 120 → -1000 ≤ ρ 33 0 (847 + j) ∧ ρ 33 0 (847 + j) ≤ 1000) : LK W 7 ∧ FI (W 11 7) (W 7 7 6) ∧ So (W 8 7) (W 7 7 6) ∧ (0 ≤ W 7 7 6 ∧ W 7 7 6 ≤ 120) ∧ (W 7 7 3 = 1 → 0 ≤ W 7 7 4) := by
  obtain ⟨c1, c2, c3, c4, c5⟩ := cp7 hU hW hl
  have h6 := hG.1.h7 (l := l) (by first | assumption | decide | exact xs_ (by decide) | exact xc_ (by decide) | exact x31_ (by decide) | omega) (by first | assumption | decide | exact xs_ (by decide) | exact xc_ (by decide) | exact x31_ (by decide) | omega)
  have hk := hG.2.1.lk hG.1 (l := l) (by first | assumption | decide | exact xs_ (by decide) | exact xc_ (by decide) | exact x31_ (by decide) | omega) (by first | assumption | decide | exact xs_ (by decide) | exact xc_ (by decide) | exact x31_ (by decide) | omega)
  have e6 := c1 6 (by first | assumption | decide | exact xs_ (by decide) | exact xc_ (by decide) | exact x31_ (by decide) | omega)
  refine ⟨⟨?_, ?_, fun j a b => ?_, fun j a b => ?_, fun w a b c => ?_, fun w a b => ?_⟩, ?_, ?_, ?_, ?_⟩
  · rw [c1 2 (by first | assumption | decide | exact xs_ (by decide) | exact xc_ (by decide) | exact x31_ (by decide) | omega)]; exact hk.1
  · rw [e6]; omega
  · by_cases z : j < V 7 l 6
    · rw [c2 9 j (by first | assumption | decide | exact xs_ (by decide) | exact xc_ (by decide) | exact x31_ (by decide) | omega) a z]; exact hk.2.2.1 j a b
    · rw [c5 j (by first | assumption | decide | exact xs_ (by decide) | exact xc_ (by decide) | exact x31_ (by decide) | omega)]; exact hb j a b
  · rw [c4 15 0 j (by first | assumption | decide | exact xs_ (by decide) | exact xc_ (by decide) | exact x31_ (by decide) | omega)]; exact hk.2.2.2.1 j a b
  · rw [c4 12 w 0 (by first | assumption | decide | exact xs_ (by decide) | exact xc_ (by decide) | exact x31_ (by decide) | omega)] at c
    have := (hG.2.1.2.2.2.2.2.2.1 w a b).1
    unfold opV at this
    omega
  · rw [c4 12 w 3 (by first | assumption | decide | exact xs_ (by decide) | exact xc_ (by decide) | exact x31_ (by decide) | omega)]; exact hk.2.2.2.2.2 w a b
  · rw [e6]; exact FI_c (hG.1.2.1 l hl.1 (by first | assumption | decide | exact xs_ (by decide) | exact xc_ (by decide) | exact x31_ (by decide) | omega)) (fun y a b => c3 y a (by first | assumption | decide | exact xs_ (by decide) | exact xc_ (by decide) | exact x31_ (by decide) | omega))
  · rw [e6]; exact fun j a b => by rw [c2 8 j (by first | assumption | decide | exact xs_ (by decide) | exact xc_ (by decide) | exact x31_ (by decide) | omega) a (by first | assumption | decide | exact xs_ (by decide) | exact xc_ (by decide) | exact x31_ (by decide) | omega), c2 8 (j + 1) (by first | assumption | decide | exact xs_ (by decide) | exact xc_ (by decide) | exact x31_ (by decide) | omega) (by first | assumption | decide | exact xs_ (by decide) | exact xc_ (by decide) | exact x31_ (by decide) | omega) b]; exact hG.2.1.1 l hl.1 (by first | assumption | decide | exact xs_ (by decide) | exact xc_ (by decide) | exact x31_ (by decide) | omega) j a b
  · rw [e6]; exact h6
  · rw [c1 3 (by first | assumption | decide | exact xs_ (by decide) | exact xc_ (by decide) | exact x31_ (by decide) | omega), c1 4 (by first | assumption | decide | exact xs_ (by decide) | exact xc_ (by decide) | exact x31_ (by decide) | omega)]; intro q; have := hG.1.size (i := l) hl.1 (by first | assumption | decide | exact xs_ (by decide) | exact xc_ (by decide) | exact x31_ (by decide) | omega) q; omega
theorem rg7 {W : Mm} (h : ∀ w : Int, 0 ≤ w → w ≤ 7 → W 12 w 0 ≠ 7) : rgM W 7 = W := rgM_id (fun w a b => h w a (by first | assumption | decide | exact xs_ (by decide) | exact xc_ (by decide) | exact x31_ (by decide) | omega))
abbrev wrC (V : Mm) (l z v w : Int) : Prop := lwC V l w ∧ (0 ≤ z ∧ z ≤ 100000) ∧ (-1000 ≤ v ∧ v ≤ 1000) ∧ ¬ (0 ≤ V 7 l 10 ∧ z < wr (V 7 l 10 - V 7 l 5)) ∧ ¬ (V 7 l 3 ≠ 1 ∧ V 7 l 6 = 120)
/-- what the reference answers: it tries -/
def wrY (V : Mm) (l z v w r : Int) : Prop := (¬ wrC V l z v w → r = -2147483648) ∧ (wrC V l z v w → ∃ U ρ W : Mm, ∃ n : Int, U = up7 V ρ ∧ W = mu (cpM U l 7) 7 7 0 n ∧ r = ptV (plM W 7 z v) 7 0 (plM W 7 z v 7 7 6) w)
theorem rg7d {W : Mm} {i : Int} (h : ∀ w : Int, 0 ≤ w → w ≤ 7 → W 12 w 0 ≠ i) : rgM W i = W := rgM_id (fun w a b => h w a (by first | assumption | decide | exact xs_ (by decide) | exact xc_ (by decide) | exact x31_ (by decide) | omega))
theorem dp_12 {W : Mm} {i : Int} (h : ∀ w : Int, 0 ≤ w → w ≤ 7 → W 12 w 0 ≠ i) (x y : Int) : dpM W i 12 x y = W 12 x y := by
  have e : ∀ a b : Int, dfM (mu (remM W i 0) 7 i 13 (wr (W 7 i 13 + 1))) i 12 a b = W 12 a b := fun a b => by rw [dfM_ne (by first | assumption | decide | exact xs_ (by decide) | exact xc_ (by decide) | exact x31_ (by decide) | omega), mu_ne (by first | assumption | decide | exact xs_ (by decide) | exact xc_ (by decide) | exact x31_ (by decide) | omega), remM_ne (by first | assumption | decide | exact xs_ (by decide) | exact xc_ (by decide) | exact x31_ (by decide) | omega)]
  unfold dpM
  rw [rg7d (fun w a b => by rw [e]; exact h w a b)]
  exact e x y
theorem drps_12 {i : Int} : ∀ (n : Nat) {W : Mm}, (∀ w : Int, 0 ≤ w → w ≤ 7 → W 12 w 0 ≠ i) → ∀ x y : Int, drps i n W 12 x y = W 12 x y
  | 0, _, _, _, _ => rfl
  | n + 1, W, h, x, y => by
    show (if goV W i then drps i n (dpM W i) else W) 12 x y = W 12 x y
    split
    · rw [drps_12 n (fun w a b => by rw [dp_12 h]; exact h w a b), dp_12 h]
    · rfl
theorem pl_12 {W : Mm} {i t v : Int} (h : ∀ w : Int, 0 ≤ w → w ≤ 7 → W 12 w 0 ≠ i) (x y : Int) : plM W i t v 12 x y = W 12 x y := by
  have e : ∀ a b : Int, enM W i t v 12 a b = W 12 a b := fun a b => by
    unfold enM
    have q : ∀ a b : Int, (if hU W i t = W 7 i 6 then adM (insM W i (hU W i t) t v) i else lyM (insM W i (hU W i t) t v) i (W 7 i 6 + 1)) 12 a b = W 12 a b := fun a b => by
      split
      · rw [adM_ne (by first | assumption | decide | exact xs_ (by decide) | exact xc_ (by decide) | exact x31_ (by decide) | omega), insM_ne (by first | assumption | decide | exact xs_ (by decide) | exact xc_ (by decide) | exact x31_ (by decide) | omega)]
      · rw [lyM_ne (by first | assumption | decide | exact xs_ (by decide) | exact xc_ (by decide) | exact x31_ (by decide) | omega), insM_ne (by first | assumption | decide | exact xs_ (by decide) | exact xc_ (by decide) | exact x31_ (by decide) | omega)]
    rw [rg7d (fun w a b => by rw [q]; exact h w a b)]
    exact q a b
  unfold plM
  rw [drps_12 _ (fun w a b => by rw [e]; exact h w a b)]
  exact e x y
theorem plM_nx7 {V W : Mm} {t v : Int} {c : Nat} {x y : Int} (_ : True) (hc : c < 30) (hn : ¬ (x = 7 ∧ (c = 7 ∨ c = 8 ∨ c = 9 ∨ c = 10 ∨ c = 11))) (hW : ∀ (c : Nat) (x y : Int), ¬ (x = 7 ∧ (c = 7 ∨ c = 8 ∨ c = 9 ∨ c = 10 ∨ c = 11)) → W c x y = V c x y) (h : ∀ w : Int, 0 ≤ w → w ≤ 7 → W 12 w 0 ≠ 7) : plM W 7 t v c x y = V c x y := by
  by_cases e : c = 12
  · subst e
    rw [pl_12 h]
    exact hW _ _ _ hn
  · rw [plM_nx (by unfold PS; omega)]
    exact hW _ _ _ hn
theorem y_were {eb : Bool} {V : Mm} {d : Nat} {P : Option Vl → Mm → Prop} {σ : Mm} {l z v w : Int}  {σ0 : Mm} (ht : (6 : Int) ≤ 6 ∧ (6 : Int) ≤ 7) (hR : RS 6 σ0 V σ) (hG : GI V)  (k : ∀ (r : Int) (ρ : Mm), wrY V l z v w r → RS 6 σ0 V ρ → P (some (vI r)) ρ) : WT (true, eb, true) (d + 10) 241 [vR 30 0, vI l, vI z, vI v, vI w] σ P := by
  refine WT_in fun K hK => ?_
  have hK : StpY (true, eb, true) cX6_were RX6 (some .int) (WT (true, eb, true) (d + 9)) P K := hK
  have hM := hK.1
  have hC := hK.1.1
  show K 0 [some (vR 30 0), some (vI l), some (vI z), some (vI v), some (vI w), none] [] σ
  refine z_ok hM (fun hok => ?_)
  refine r_rngz hC (fun g0 => ?_)
  have r_l : -2147483648 ≤ l ∧ l ≤ 2147483647 := inR_le (g0 (vI l) (by simp))
  have r_z : -2147483648 ≤ z ∧ z ≤ 2147483647 := inR_le (g0 (vI z) (by simp))
  have r_v : -2147483648 ≤ v ∧ v ≤ 2147483647 := inR_le (g0 (vI v) (by simp))
  have r_w : -2147483648 ≤ w ∧ w ≤ 2147483647 := inR_le (g0 (vI w) (by simp))
  refine r_aload_n hC dX6_were_0 rfl ?_
  refine r_iload_n hC dX6_were_1 rfl ?_
  refine r_iload hC dX6_were_2 rfl ?_
  refine z_inv2 hM dX6_were_4 vl_RX6_207 rfl rfl rfl (Nat.le_of_ble_eq_true rfl) (Nat.le_of_ble_eq_true rfl) ?_
  refine y_isNumber (V := V) ht ⟨hR.1, hR.2.1, hR.2.2⟩ (fun l a b => (hG.2.1.2.2.2.1 l a b).2) (fun h1 => ?_) (fun h1 => ?_)
  · unfold lwC opV at h1
    have n_h1 := numF_rng (V 7 l 2)
    refine r_if_eq (tgt := 50) hC dX6_were_7 rfl (fun h2 => by omega) (fun h2 => ?_)
    refine r_iload_n hC dX6_were_10 rfl ?_
    refine r_iconst hC dX6_were_11 rfl ?_
    refine r_ldc hC dX6_were_12 co_RX6_239 rfl ?_
    refine z_ins3 hM dX6_were_14 tl_RX6_76 rfl (Nat.le_of_ble_eq_true rfl) (Nat.le_of_ble_eq_true rfl) ?_
    refine m_isIn (fun h4 => ?_) (fun h4 => ?_)
    · refine r_if_eq (tgt := 50) hC dX6_were_17 rfl (fun h5 => by omega) (fun h5 => ?_)
      refine r_iload_n hC dX6_were_20 rfl ?_
      refine r_sipush hC dX6_were_21 rfl ?_
      refine r_sipush hC dX6_were_24 rfl ?_
      refine z_ins3 hM dX6_were_27 tl_RX6_76 rfl (Nat.le_of_ble_eq_true rfl) (Nat.le_of_ble_eq_true rfl) ?_
      refine m_isIn (fun h7 => ?_) (fun h7 => ?_)
      · refine r_if_eq (tgt := 50) hC dX6_were_30 rfl (fun h8 => by omega) (fun h8 => ?_)
        refine r_aload_n hC dX6_were_33 rfl ?_
        refine r_iload_n hC dX6_were_34 rfl ?_
        refine r_iload_n hC dX6_were_35 rfl ?_
        refine z_inv2 hM dX6_were_36 vl_RX6_247 rfl rfl rfl (Nat.le_of_ble_eq_true rfl) (Nat.le_of_ble_eq_true rfl) ?_
        refine y_isLost (V := V) (by first | assumption | decide | exact xs_ (by decide) | exact xc_ (by decide) | exact x31_ (by decide) | omega) ht ⟨hR.1, hR.2.1, hR.2.2⟩ (by first | assumption | decide | exact xs_ (by decide) | exact xc_ (by decide) | exact x31_ (by decide) | omega) (fun h9 => ?_) (fun h9 => ?_)
        · refine r_if_ne (tgt := 50) hC dX6_were_39 rfl (fun h10 => ?_) (fun h10 => by omega)
          refine r_ldc hC dX6_were_50 co_RX6_160 rfl ?_
          refine y_iret hK rfl dX6_were_52 ?_
          exact k _ _ ⟨fun _ => rfl, fun q => absurd q (by unfold wrC lwC opV; omega)⟩ ⟨hR.1, hR.2.1, hR.2.2⟩
        · refine r_if_ne (tgt := 50) hC dX6_were_39 rfl (fun h11 => by omega) (fun h11 => ?_)
          refine r_aload_n hC dX6_were_42 rfl ?_
          refine r_iload_n hC dX6_were_43 rfl ?_
          refine z_inv1 hM dX6_were_44 vl_RX6_250 rfl rfl rfl (Nat.le_of_ble_eq_true rfl) (Nat.le_of_ble_eq_true rfl) ?_
          refine y_isFull (V := V) (by first | assumption | decide | exact xs_ (by decide) | exact xc_ (by decide) | exact x31_ (by decide) | omega) ht ⟨hR.1, hR.2.1, hR.2.2⟩ (by first | assumption | decide | exact xs_ (by decide) | exact xc_ (by decide) | exact x31_ (by decide) | omega) (fun h12 => ?_) (fun h12 => ?_)
          · refine r_if_eq (tgt := 53) hC dX6_were_47 rfl (fun h13 => by omega) (fun h13 => ?_)
            refine r_ldc hC dX6_were_50 co_RX6_160 rfl ?_
            refine y_iret hK rfl dX6_were_52 ?_
            exact k _ _ ⟨fun _ => rfl, fun q => absurd q (by unfold wrC lwC opV; omega)⟩ ⟨hR.1, hR.2.1, hR.2.2⟩
          · refine r_if_eq (tgt := 53) hC dX6_were_47 rfl (fun h14 => ?_) (fun h14 => by omega)
            refine r_aload_n hC dX6_were_53 rfl ?_
            refine r_iload_n hC dX6_were_54 rfl ?_
            refine r_bipush hC dX6_were_55 rfl ?_
            refine z_inv2 hM dX6_were_57 vl_RX6_292 rfl rfl rfl (Nat.le_of_ble_eq_true rfl) (Nat.le_of_ble_eq_true rfl) ?_
            have hb7 : ∀ j : Int, 0 ≤ j → j ≤ 120 → -1000 ≤ σ 33 0 (847 + j) ∧ σ 33 0 (847 + j) ≤ 1000 := fun j a b => hok 33 0 (847 + j) (Or.inl trivial)
            obtain ⟨U, hU⟩ : ∃ U : Mm, U = up7 V σ := ⟨_, rfl⟩
            have uR := RS.up7 ⟨hR.1, hR.2.1, hR.2.2⟩
            rw [← hU] at uR
            refine y_copyLaneG (V := U) (l := l) (m := 7) (by first | assumption | decide | exact xs_ (by decide) | exact xc_ (by decide) | exact x31_ (by decide) | omega) (by first | assumption | decide | exact xs_ (by decide) | exact xc_ (by decide) | exact x31_ (by decide) | omega) ⟨by omega, by omega⟩ uR.1 uR.2.1 uR.2.2 (by first | assumption | decide | exact xs_ (by decide) | exact xc_ (by decide) | exact x31_ (by decide) | omega) (by first | assumption | decide | exact xs_ (by decide) | exact xc_ (by decide) | exact x31_ (by decide) | omega) (fun n7 ρc Rc => ?_)
            obtain ⟨W, hW⟩ : ∃ W : Mm, W = mu (cpM U l 7) 7 7 0 n7 := ⟨_, rfl⟩
            rw [← hW] at Rc
            have hcp := cp7 hU hW (by first | assumption | decide | exact xs_ (by decide) | exact xc_ (by decide) | exact x31_ (by decide) | omega)
            have hlk7 := LK7 hG hU hW (by first | assumption | decide | exact xs_ (by decide) | exact xc_ (by decide) | exact x31_ (by decide) | omega) hb7
            clear ht
            have ht : (6 : Int) ≤ 7 ∧ (7 : Int) ≤ 7 := by omega
            refine r_aload_n hC dX6_were_60 rfl ?_
            refine r_bipush hC dX6_were_61 rfl ?_
            refine r_iload_n hC dX6_were_63 rfl ?_
            refine r_iload_n hC dX6_were_64 rfl ?_
            refine z_inv3 hM dX6_were_65 vl_RX6_253 rfl rfl rfl (Nat.le_of_ble_eq_true rfl) (Nat.le_of_ble_eq_true rfl) ?_
            refine y_enter (V := W) (l := 7) (z := z) (v := v) (by first | assumption | decide | exact xs_ (by decide) | exact xc_ (by decide) | exact x31_ (by decide) | omega) (by first | assumption | decide | exact xs_ (by decide) | exact xc_ (by decide) | exact x31_ (by decide) | omega) (by first | assumption | decide | exact xs_ (by decide) | exact xc_ (by decide) | exact x31_ (by decide) | omega) ht Rc (by first | assumption | decide | exact xs_ (by decide) | exact xc_ (by decide) | exact x31_ (by decide) | omega) hlk7.1 hlk7.2.1 hlk7.2.2.1 (by first | assumption | decide | exact xs_ (by decide) | exact xc_ (by decide) | exact x31_ (by decide) | omega) hlk7.2.2.2.2 (fun ρe Re => ?_)
            obtain ⟨X, hX7⟩ : ∃ X : Mm, X = plM W 7 z v := ⟨_, rfl⟩
            rw [← hX7] at Re
            have hlX : LK X 7 := by rw [hX7]; exact LK_pl hlk7.1 (by first | assumption | decide | exact xs_ (by decide) | exact xc_ (by decide) | exact x31_ (by decide) | omega) (by first | assumption | decide | exact xs_ (by decide) | exact xc_ (by decide) | exact x31_ (by decide) | omega) hlk7.2.2.2.2
            have h6X := hlX.2.1
            have hw2 : X 7 7 2 = V 7 l 2 := by rw [hX7, plM_nx (by unfold PS; omega)]; exact hcp.1 2 (by first | assumption | decide | exact xs_ (by decide) | exact xc_ (by decide) | exact x31_ (by decide) | omega)
            refine r_aload_n hC dX6_were_68 rfl ?_
            refine r_bipush hC dX6_were_69 rfl ?_
            refine r_iconst hC dX6_were_71 rfl ?_
            refine r_aload_n hC dX6_were_72 rfl ?_
            refine r_bipush hC dX6_were_73 rfl ?_
            refine z_inv1 hM dX6_were_75 vl_RX6_116 rfl rfl rfl (Nat.le_of_ble_eq_true rfl) (Nat.le_of_ble_eq_true rfl) ?_
            refine y_heldOf (by first | assumption | decide | exact xs_ (by decide) | exact xc_ (by decide) | exact x31_ (by decide) | omega) (fun o15 => ?_)
            have e16 : ρe 31 0 (22 * 7 + 5) = (X 7 7 6) := (Re.1.a7 (s := 6) (f := 5) (by first | assumption | decide | exact xs_ (by decide) | exact xc_ (by decide) | exact x31_ (by decide) | omega) (by first | assumption | decide | exact xs_ (by decide) | exact xc_ (by decide) | exact x31_ (by decide) | omega) (by first | assumption | decide | exact xs_ (by decide) | exact xc_ (by decide) | exact x31_ (by decide) | omega)).trans (rfl)
            rw [e16] at o15 ⊢
            have qo15 : 0 ≤ (X 7 7 6) ∧ (X 7 7 6) ≤ 121 := o15.1 (by first | assumption | decide | exact xs_ (by decide) | exact xc_ (by decide) | exact x31_ (by decide) | omega)
            refine r_iconst hC dX6_were_78 rfl ?_
            refine r_isubE hC (((X 7 7 6) - 1)) dX6_were_79 (by first | assumption | decide | exact xs_ (by decide) | exact xc_ (by decide) | exact x31_ (by decide) | omega) (by unfold inR; omega) ?_
            refine r_iload hC dX6_were_80 rfl ?_
            refine z_inv4 hM dX6_were_82 vl_RX6_243 rfl rfl rfl (Nat.le_of_ble_eq_true rfl) (Nat.le_of_ble_eq_true rfl) ?_
            have n7_ := numF_rng (V 7 l 2)
            refine y_comesFrom (V := X) (by first | assumption | decide | exact xs_ (by decide) | exact xc_ (by decide) | exact x31_ (by decide) | omega) (by first | assumption | decide | exact xs_ (by decide) | exact xc_ (by decide) | exact x31_ (by decide) | omega) (by first | assumption | decide | exact xs_ (by decide) | exact xc_ (by decide) | exact x31_ (by decide) | omega) (by first | assumption | decide | exact xs_ (by decide) | exact xc_ (by decide) | exact x31_ (by decide) | omega) ht ⟨Re.1, Re.2.1, Re.2.2⟩ (by first | assumption | decide | exact xs_ (by decide) | exact xc_ (by decide) | exact x31_ (by decide) | omega) hlX (by rw [hw2]; omega) (fun ρf Rf => ?_)
            have eP : cm (X 16 0) (X 15 0) (X 7 7 2) (fun j => X 9 7 (0 + j)) (X 7 7 6 - 1 + 1 - 0).toNat w = ptV X 7 0 (X 7 7 6) w := by unfold ptV; rw [show (X 7 7 6 - 1 + 1 - 0 : Int) = X 7 7 6 - 0 from by omega]
            rw [eP]
            refine r_istore hC dX6_were_85 rfl ?_
            refine r_aload_n hC dX6_were_87 rfl ?_
            refine r_bipush hC dX6_were_88 rfl ?_
            refine r_iconst hC dX6_were_90 rfl ?_
            refine r_iconst hC dX6_were_91 rfl ?_
            refine z_inv3 hM dX6_were_92 vl_RX6_173 rfl rfl rfl (Nat.le_of_ble_eq_true rfl) (Nat.le_of_ble_eq_true rfl) ?_
            refine y_set (by first | assumption | decide | exact xs_ (by decide) | exact xc_ (by decide) | exact x31_ (by decide) | omega) (by first | assumption | decide | exact xs_ (by decide) | exact xc_ (by decide) | exact x31_ (by decide) | omega) ⟨fun h => by omega, fun h => by omega⟩ ?_
            obtain ⟨ρ17, e_ρ17⟩ : ∃ zz_, zz_ = mu ρf 31 0 ((22 * 7) + 0) 0 := ⟨_, rfl⟩
            rw [← e_ρ17]
            have Sρ17 : SB 7 σ0 (mu X 7 7 1 0) ρ17 := by rw [e_ρ17, show (((22 * 7) + 0) : Int) = 22 * 7 + 0 from by omega]; exact Rf.1.p7 (by first | assumption | decide | exact xs_ (by decide) | exact xc_ (by decide) | exact x31_ (by decide) | omega) (by first | assumption | decide | exact xs_ (by decide) | exact xc_ (by decide) | exact x31_ (by decide) | omega) (by first | assumption | decide | exact xs_ (by decide) | exact xc_ (by decide) | exact x31_ (by decide) | omega)
            have Kρ17 : KF 7 (mu X 7 7 1 0) ρ17 := by rw [e_ρ17]; exact (Rf.2.1).e (fun l a b => ⟨mu_ne (by first | assumption | decide | exact xs_ (by decide) | exact xc_ (by decide) | exact x31_ (by decide) | omega), mu_ne (by first | assumption | decide | exact xs_ (by decide) | exact xc_ (by decide) | exact x31_ (by decide) | omega)⟩) |>.v (fun l => mu_ne (by first | assumption | decide | exact xs_ (by decide) | exact xc_ (by decide) | exact x31_ (by decide) | omega))
            have Fρ17 : FB (mu X 7 7 1 0) ρ17 := by rw [e_ρ17]; exact (Rf.2.2).e (fun l a b => mu_ne (by first | assumption | decide | exact xs_ (by decide) | exact xc_ (by decide) | exact x31_ (by decide) | omega)) |>.v (fun l y a b c => mu_ne (by first | assumption | decide | exact xs_ (by decide) | exact xc_ (by decide) | exact x31_ (by decide) | omega))
            clear e_ρ17
            refine r_iload hC dX6_were_95 rfl ?_
            refine y_iret hK rfl dX6_were_97 ?_
            have hA : wrY V l z v w (ptV X 7 0 (X 7 7 6) w) := ⟨fun q => absurd (by unfold wrC lwC opV; omega) q, fun _ => ⟨U, _, W, n7, hU, hW, by rw [← hX7]⟩⟩
            exact k _ _ hA (RS.dn7 ⟨Sρ17, Kρ17, Fρ17⟩ (fun c x y hc hn => (mu_ne (by first | assumption | decide | exact xs_ (by decide) | exact xc_ (by decide) | exact x31_ (by decide) | omega)).trans (by rw [hX7]; exact (plM_nx7 trivial hc hn hcp.2.2.2.1 (fun w a b => by rw [hcp.2.2.2.1 12 w 0 (by first | assumption | decide | exact xs_ (by decide) | exact xc_ (by decide) | exact x31_ (by decide) | omega)]; have := (hG.2.1.2.2.2.2.2.2.1 w a b).1; unfold opV at this; omega)))))
      · refine r_if_eq (tgt := 50) hC dX6_were_30 rfl (fun h18 => ?_) (fun h18 => by omega)
        refine r_ldc hC dX6_were_50 co_RX6_160 rfl ?_
        refine y_iret hK rfl dX6_were_52 ?_
        exact k _ _ ⟨fun _ => rfl, fun q => absurd q (by unfold wrC lwC opV; omega)⟩ ⟨hR.1, hR.2.1, hR.2.2⟩
    · refine r_if_eq (tgt := 50) hC dX6_were_17 rfl (fun h19 => ?_) (fun h19 => by omega)
      refine r_ldc hC dX6_were_50 co_RX6_160 rfl ?_
      refine y_iret hK rfl dX6_were_52 ?_
      exact k _ _ ⟨fun _ => rfl, fun q => absurd q (by unfold wrC lwC opV; omega)⟩ ⟨hR.1, hR.2.1, hR.2.2⟩
  · unfold lwC opV at h1
    have n_h1 := numF_rng (V 7 l 2)
    refine r_if_eq (tgt := 50) hC dX6_were_7 rfl (fun h20 => ?_) (fun h20 => by omega)
    refine r_ldc hC dX6_were_50 co_RX6_160 rfl ?_
    refine y_iret hK rfl dX6_were_52 ?_
    exact k _ _ ⟨fun _ => rfl, fun q => absurd q (by unfold wrC lwC opV; omega)⟩ ⟨hR.1, hR.2.1, hR.2.2⟩
theorem y_cost {eb : Bool} {V : Mm} {d : Nat} {P : Option Vl → Mm → Prop} {σ : Mm} {l m w : Int}  {σ0 : Mm} (ht : (6 : Int) ≤ 6 ∧ (6 : Int) ≤ 7) (hR : RS 6 σ0 V σ) (hG : GI V)  (k : ∀ ρ : Mm, RS 6 σ0 V ρ → P (some (vI (csR V l m w))) ρ) : WT (true, eb, true) (d + 8) 242 [vR 30 0, vI l, vI m, vI w] σ P := by
  refine WT_in fun K hK => ?_
  have hK : StpY (true, eb, true) cX6_cost RX6 (some .int) (WT (true, eb, true) (d + 7)) P K := hK
  have hM := hK.1
  have hC := hK.1.1
  show K 0 [some (vR 30 0), some (vI l), some (vI m), some (vI w), none, none, none, none] [] σ
  refine z_ok hM (fun hok => ?_)
  refine r_rngz hC (fun g0 => ?_)
  have r_l : -2147483648 ≤ l ∧ l ≤ 2147483647 := inR_le (g0 (vI l) (by simp))
  have r_m : -2147483648 ≤ m ∧ m ≤ 2147483647 := inR_le (g0 (vI m) (by simp))
  have r_w : -2147483648 ≤ w ∧ w ≤ 2147483647 := inR_le (g0 (vI w) (by simp))
  refine r_aload_n hC dX6_cost_0 rfl ?_
  refine r_iload_n hC dX6_cost_1 rfl ?_
  refine z_inv1 hM dX6_cost_2 vl_RX6_124 rfl rfl rfl (Nat.le_of_ble_eq_true rfl) (Nat.le_of_ble_eq_true rfl) ?_
  refine y_isLane (V := V) ht ⟨hR.1, hR.2.1, hR.2.2⟩ (fun h1 => ?_) (fun h1 => ?_)
  · unfold opV at h1
    refine r_if_eq (tgt := 28) hC dX6_cost_5 rfl (fun h2 => by omega) (fun h2 => ?_)
    refine r_iload_n hC dX6_cost_8 rfl ?_
    refine r_iconst hC dX6_cost_9 rfl ?_
    refine r_sipush hC dX6_cost_10 rfl ?_
    refine z_ins3 hM dX6_cost_13 tl_RX6_76 rfl (Nat.le_of_ble_eq_true rfl) (Nat.le_of_ble_eq_true rfl) ?_
    refine m_isIn (fun h4 => ?_) (fun h4 => ?_)
    · refine r_if_eq (tgt := 28) hC dX6_cost_16 rfl (fun h5 => by omega) (fun h5 => ?_)
      refine r_iload_n hC dX6_cost_19 rfl ?_
      refine r_iconst hC dX6_cost_20 rfl ?_
      refine r_iconst hC dX6_cost_21 rfl ?_
      refine z_ins3 hM dX6_cost_22 tl_RX6_76 rfl (Nat.le_of_ble_eq_true rfl) (Nat.le_of_ble_eq_true rfl) ?_
      refine m_isIn (fun h7 => ?_) (fun h7 => ?_)
      · refine r_if_ne (tgt := 30) hC dX6_cost_25 rfl (fun h8 => ?_) (fun h8 => by omega)
        refine r_aload_n hC dX6_cost_30 rfl ?_
        refine r_iload_n hC dX6_cost_31 rfl ?_
        refine r_bipush hC dX6_cost_32 rfl ?_
        refine z_inv2 hM dX6_cost_34 vl_RX6_292 rfl rfl rfl (Nat.le_of_ble_eq_true rfl) (Nat.le_of_ble_eq_true rfl) ?_
        have hb7 : ∀ j : Int, 0 ≤ j → j ≤ 120 → -1000 ≤ σ 33 0 (847 + j) ∧ σ 33 0 (847 + j) ≤ 1000 := fun j a b => hok 33 0 (847 + j) (Or.inl trivial)
        obtain ⟨U, hU⟩ : ∃ U : Mm, U = up7 V σ := ⟨_, rfl⟩
        have uR := RS.up7 ⟨hR.1, hR.2.1, hR.2.2⟩
        rw [← hU] at uR
        refine y_copyLaneG (V := U) (l := l) (m := 7) (by first | assumption | decide | exact xs_ (by decide) | exact xc_ (by decide) | exact x31_ (by decide) | omega) (by first | assumption | decide | exact xs_ (by decide) | exact xc_ (by decide) | exact x31_ (by decide) | omega) ⟨by omega, by omega⟩ uR.1 uR.2.1 uR.2.2 (by first | assumption | decide | exact xs_ (by decide) | exact xc_ (by decide) | exact x31_ (by decide) | omega) (by first | assumption | decide | exact xs_ (by decide) | exact xc_ (by decide) | exact x31_ (by decide) | omega) (fun n7 ρc Rc => ?_)
        obtain ⟨W, hW⟩ : ∃ W : Mm, W = mu (cpM U l 7) 7 7 0 n7 := ⟨_, rfl⟩
        rw [← hW] at Rc
        have hcp := cp7 hU hW (by first | assumption | decide | exact xs_ (by decide) | exact xc_ (by decide) | exact x31_ (by decide) | omega)
        have hlk7 := LK7 hG hU hW (by first | assumption | decide | exact xs_ (by decide) | exact xc_ (by decide) | exact x31_ (by decide) | omega) hb7
        clear ht
        have ht : (6 : Int) ≤ 7 ∧ (7 : Int) ≤ 7 := by omega
        refine r_iconst hC dX6_cost_37 rfl ?_
        refine r_istore hC dX6_cost_38 rfl ?_
        refine r_iconst hC dX6_cost_40 rfl ?_
        refine r_istore hC dX6_cost_41 rfl ?_
        refine r_iconst hC dX6_cost_43 rfl ?_
        refine r_istore hC dX6_cost_44 rfl ?_
        have L46 : ∀ (n46 : Nat) (w9 w10 w11 : Int) (ρ12 W12 : Mm), 0 ≤ w9 ∧ w9 ≤ 800 → 0 ≤ w10 ∧ w10 ≤ 200 → 0 ≤ w11 ∧ w11 ≤ 4 → ((w10) ≤ m) → ((w9) = cst (cs0 V l) ((w10)).toNat 5) → ((w11) = cst (cs0 V l) ((w10)).toNat 6) → ((w9) ≤ 4 * (w10)) → 200 - w10 < (n46 : Int) → (RS 7 σ0 W12 ρ12) → (∀ (c : Nat) (x y : Int), c < 30 → ¬ (x = 7 ∧ (c = 7 ∨ c = 8 ∨ c = 9 ∨ c = 10 ∨ c = 11)) → W12 c x y = V c x y) → (∀ y : Int, 0 ≤ y → y ≤ 4 → W12 11 7 y = cst (cs0 V l) ((w10)).toNat y) → (LK W12 7) → K 46 [some (vR 30 0), some (vI l), some (vI m), some (vI w), some (vI w9), some (vI w11), some (vI w10), none] [] ρ12 := by
          intro n46
          induction n46 with
          | zero => intro w9 w10 w11 ρ12 W12 f_w9 f_w10 f_w11 i0_46 i1_46 i2_46 i3_46 hm  m0_46 m1_46 m2_46 m3_46; omega
          | succ n46 ih46 =>
            intro w9 w10 w11 ρ12 W12 f_w9 f_w10 f_w11 i0_46 i1_46 i2_46 i3_46 hm46  m0_46 m1_46 m2_46 m3_46
            have h6V := hG.1.h7 (l := l) (by first | assumption | decide | exact xs_ (by decide) | exact xc_ (by decide) | exact x31_ (by decide) | omega) (by first | assumption | decide | exact xs_ (by decide) | exact xc_ (by decide) | exact x31_ (by decide) | omega)
            have fi := cst_FI (cs0_FI (hG.1.2.1 l (by first | assumption | decide | exact xs_ (by decide) | exact xc_ (by decide) | exact x31_ (by decide) | omega) (by first | assumption | decide | exact xs_ (by decide) | exact xc_ (by decide) | exact x31_ (by decide) | omega))) (w10).toNat
            have fw := FIW fi (by first | assumption | decide | exact xs_ (by decide) | exact xc_ (by decide) | exact x31_ (by decide) | omega)
            have b0 := m2_46 0 (by first | assumption | decide | exact xs_ (by decide) | exact xc_ (by decide) | exact x31_ (by decide) | omega) (by first | assumption | decide | exact xs_ (by decide) | exact xc_ (by decide) | exact x31_ (by decide) | omega)
            have b1 := m2_46 1 (by first | assumption | decide | exact xs_ (by decide) | exact xc_ (by decide) | exact x31_ (by decide) | omega) (by first | assumption | decide | exact xs_ (by decide) | exact xc_ (by decide) | exact x31_ (by decide) | omega)
            have b2 := m2_46 2 (by first | assumption | decide | exact xs_ (by decide) | exact xc_ (by decide) | exact x31_ (by decide) | omega) (by first | assumption | decide | exact xs_ (by decide) | exact xc_ (by decide) | exact x31_ (by decide) | omega)
            have b3 := m2_46 3 (by first | assumption | decide | exact xs_ (by decide) | exact xc_ (by decide) | exact x31_ (by decide) | omega) (by first | assumption | decide | exact xs_ (by decide) | exact xc_ (by decide) | exact x31_ (by decide) | omega)
            have hb7_ : (0 ≤ W12 11 7 0 ∧ W12 11 7 0 ≤ 320) ∧ (0 ≤ W12 11 7 1 ∧ W12 11 7 1 ≤ 320) ∧ (0 ≤ W12 11 7 2 ∧ W12 11 7 2 ≤ 320) ∧ 0 ≤ W12 11 7 3 ∧ W12 11 7 3 ≤ 700 := by rw [b0, b1, b2, b3]; omega
            have fiW : FI (W12 11 7) (V 7 l 6 + ((w10).toNat : Int)) := FI_c fi (fun y a b => m2_46 y a (by first | assumption | decide | exact xs_ (by decide) | exact xc_ (by decide) | exact x31_ (by decide) | omega))
            refine r_iload hC dX6_cost_46 rfl ?_
            refine r_iload_n hC dX6_cost_48 rfl ?_
            refine r_icmp_ge (tgt := 129) hC dX6_cost_49 rfl (fun h13 => ?_) (fun h13 => ?_)
            · refine r_aload_n hC dX6_cost_129 rfl ?_
              refine r_bipush hC dX6_cost_130 rfl ?_
              refine r_iconst hC dX6_cost_132 rfl ?_
              refine r_iconst hC dX6_cost_133 rfl ?_
              refine z_inv3 hM dX6_cost_134 vl_RX6_173 rfl rfl rfl (Nat.le_of_ble_eq_true rfl) (Nat.le_of_ble_eq_true rfl) ?_
              refine y_set (by first | assumption | decide | exact xs_ (by decide) | exact xc_ (by decide) | exact x31_ (by decide) | omega) (by first | assumption | decide | exact xs_ (by decide) | exact xc_ (by decide) | exact x31_ (by decide) | omega) ⟨fun h => by omega, fun h => by omega⟩ ?_
              obtain ⟨ρ14, e_ρ14⟩ : ∃ zz_, zz_ = mu ρ12 31 0 ((22 * 7) + 0) 0 := ⟨_, rfl⟩
              rw [← e_ρ14]
              have Sρ14 : SB 7 σ0 (mu W12 7 7 1 0) ρ14 := by rw [e_ρ14, show (((22 * 7) + 0) : Int) = 22 * 7 + 0 from by omega]; exact m0_46.1.p7 (by first | assumption | decide | exact xs_ (by decide) | exact xc_ (by decide) | exact x31_ (by decide) | omega) (by first | assumption | decide | exact xs_ (by decide) | exact xc_ (by decide) | exact x31_ (by decide) | omega) (by first | assumption | decide | exact xs_ (by decide) | exact xc_ (by decide) | exact x31_ (by decide) | omega)
              have Kρ14 : KF 7 (mu W12 7 7 1 0) ρ14 := by rw [e_ρ14]; exact (m0_46.2.1).e (fun l a b => ⟨mu_ne (by first | assumption | decide | exact xs_ (by decide) | exact xc_ (by decide) | exact x31_ (by decide) | omega), mu_ne (by first | assumption | decide | exact xs_ (by decide) | exact xc_ (by decide) | exact x31_ (by decide) | omega)⟩) |>.v (fun l => mu_ne (by first | assumption | decide | exact xs_ (by decide) | exact xc_ (by decide) | exact x31_ (by decide) | omega))
              have Fρ14 : FB (mu W12 7 7 1 0) ρ14 := by rw [e_ρ14]; exact (m0_46.2.2).e (fun l a b => mu_ne (by first | assumption | decide | exact xs_ (by decide) | exact xc_ (by decide) | exact x31_ (by decide) | omega)) |>.v (fun l y a b c => mu_ne (by first | assumption | decide | exact xs_ (by decide) | exact xc_ (by decide) | exact x31_ (by decide) | omega))
              clear e_ρ14
              refine r_iload_n hC dX6_cost_137 rfl ?_
              refine r_if_ne (tgt := 146) hC dX6_cost_138 rfl (fun h15 => ?_) (fun h15 => ?_)
              · refine r_iload hC dX6_cost_146 rfl ?_
                refine y_iret hK rfl dX6_cost_148 ?_
                have hRr : csR V l m w = w11 := by
                  unfold csR
                  rw [if_pos ⟨by unfold opV; omega, by omega, by omega⟩, if_neg (by first | assumption | decide | exact xs_ (by decide) | exact xc_ (by decide) | exact x31_ (by decide) | omega), show m.toNat = (w10).toNat from by omega]
                  exact i2_46.symm
                rw [hRr] at k
                exact k _ (RS.dn7 ⟨Sρ14, Kρ14, Fρ14⟩ (fun c x y hc hn => (mu_ne (by first | assumption | decide | exact xs_ (by decide) | exact xc_ (by decide) | exact x31_ (by decide) | omega)).trans (m1_46 c x y hc hn)))
              · refine r_iload hC dX6_cost_141 rfl ?_
                refine r_goto (tgt := 148) hC dX6_cost_143 rfl ?_
                refine y_iret hK rfl dX6_cost_148 ?_
                have hRr : csR V l m w = w9 := by
                  unfold csR
                  rw [if_pos ⟨by unfold opV; omega, by omega, by omega⟩, if_pos (by first | assumption | decide | exact xs_ (by decide) | exact xc_ (by decide) | exact x31_ (by decide) | omega), show m.toNat = (w10).toNat from by omega]
                  exact i1_46.symm
                rw [hRr] at k
                exact k _ (RS.dn7 ⟨Sρ14, Kρ14, Fρ14⟩ (fun c x y hc hn => (mu_ne (by first | assumption | decide | exact xs_ (by decide) | exact xc_ (by decide) | exact x31_ (by decide) | omega)).trans (m1_46 c x y hc hn)))
            · refine r_aload_n hC dX6_cost_52 rfl ?_
              refine r_bipush hC dX6_cost_53 rfl ?_
              refine r_bipush hC dX6_cost_55 rfl ?_
              refine z_inv2 hM dX6_cost_57 vl_RX6_80 rfl rfl rfl (Nat.le_of_ble_eq_true rfl) (Nat.le_of_ble_eq_true rfl) ?_
              refine y_of (by first | assumption | decide | exact xs_ (by decide) | exact xc_ (by decide) | exact x31_ (by decide) | omega) (by first | assumption | decide | exact xs_ (by decide) | exact xc_ (by decide) | exact x31_ (by decide) | omega) (by first | assumption | decide | exact xs_ (by decide) | exact xc_ (by decide) | exact x31_ (by decide) | omega) (fun o16 => ?_)
              have e17 : ρ12 31 0 (22 * 7 + 14) = (W12 11 7 2) := (m0_46.1.a11 (s := 2) (f := 14) (by first | assumption | decide | exact xs_ (by decide) | exact xc_ (by decide) | exact x31_ (by decide) | omega) (by first | assumption | decide | exact xs_ (by decide) | exact xc_ (by decide) | exact x31_ (by decide) | omega) (by first | assumption | decide | exact xs_ (by decide) | exact xc_ (by decide) | exact x31_ (by decide) | omega)).trans (rfl)
              rw [e17] at o16 ⊢
              refine r_if_le (tgt := 67) hC dX6_cost_60 rfl (fun h18 => ?_) (fun h18 => ?_)
              · refine r_iconst hC dX6_cost_67 rfl ?_
                refine r_istore hC dX6_cost_68 rfl ?_
                refine r_aload_n hC dX6_cost_70 rfl ?_
                refine r_bipush hC dX6_cost_71 rfl ?_
                refine r_bipush hC dX6_cost_73 rfl ?_
                refine r_iconst hC dX6_cost_75 rfl ?_
                refine z_inv3 hM dX6_cost_76 vl_RX6_188 rfl rfl rfl (Nat.le_of_ble_eq_true rfl) (Nat.le_of_ble_eq_true rfl) ?_
                refine y_moreE (a := (W12 11 7 2)) (by first | assumption | decide | exact xs_ (by decide) | exact xc_ (by decide) | exact x31_ (by decide) | omega) (by first | assumption | decide | exact xs_ (by decide) | exact xc_ (by decide) | exact x31_ (by decide) | omega) (by first | assumption | decide | exact xs_ (by decide) | exact xc_ (by decide) | exact x31_ (by decide) | omega) ⟨fun h => by omega, by omega⟩ ((m0_46.1.a11 (s := 2) (f := 14) (by first | assumption | decide | exact xs_ (by decide) | exact xc_ (by decide) | exact x31_ (by decide) | omega) (by first | assumption | decide | exact xs_ (by decide) | exact xc_ (by decide) | exact x31_ (by decide) | omega) (by first | assumption | decide | exact xs_ (by decide) | exact xc_ (by decide) | exact x31_ (by decide) | omega)).trans (rfl)) (by first | assumption | decide | exact xs_ (by decide) | exact xc_ (by decide) | exact x31_ (by decide) | omega) ?_
                rw [show (W12 11 7 2) + 1 = ((W12 11 7 2) + 1) from by omega]
                obtain ⟨ρ19, e_ρ19⟩ : ∃ zz_, zz_ = mu ρ12 31 0 ((22 * 7) + 14) ((W12 11 7 2) + 1) := ⟨_, rfl⟩
                rw [← e_ρ19]
                have Sρ19 : SB 7 σ0 (mu W12 11 7 2 ((W12 11 7 2) + 1)) ρ19 := by rw [e_ρ19, show (((22 * 7) + 14) : Int) = 22 * 7 + 14 from by omega]; exact m0_46.1.p11 (by first | assumption | decide | exact xs_ (by decide) | exact xc_ (by decide) | exact x31_ (by decide) | omega) (by first | assumption | decide | exact xs_ (by decide) | exact xc_ (by decide) | exact x31_ (by decide) | omega) (by first | assumption | decide | exact xs_ (by decide) | exact xc_ (by decide) | exact x31_ (by decide) | omega)
                have Kρ19 : KF 7 (mu W12 11 7 2 ((W12 11 7 2) + 1)) ρ19 := by rw [e_ρ19]; exact (m0_46.2.1).e (fun l a b => ⟨mu_ne (by first | assumption | decide | exact xs_ (by decide) | exact xc_ (by decide) | exact x31_ (by decide) | omega), mu_ne (by first | assumption | decide | exact xs_ (by decide) | exact xc_ (by decide) | exact x31_ (by decide) | omega)⟩) |>.v (fun l => mu_ne (by first | assumption | decide | exact xs_ (by decide) | exact xc_ (by decide) | exact x31_ (by decide) | omega))
                have Fρ19 : FB (mu W12 11 7 2 ((W12 11 7 2) + 1)) ρ19 := by rw [e_ρ19]; exact (m0_46.2.2).e (fun l a b => mu_ne (by first | assumption | decide | exact xs_ (by decide) | exact xc_ (by decide) | exact x31_ (by decide) | omega)) |>.v (fun l y a b c => mu_ne (by first | assumption | decide | exact xs_ (by decide) | exact xc_ (by decide) | exact x31_ (by decide) | omega))
                clear e_ρ19
                refine r_aload_n hC dX6_cost_79 rfl ?_
                refine r_bipush hC dX6_cost_80 rfl ?_
                refine r_iload hC dX6_cost_82 rfl ?_
                refine z_inv2 hM dX6_cost_84 vl_RX6_221 rfl rfl rfl (Nat.le_of_ble_eq_true rfl) (Nat.le_of_ble_eq_true rfl) ?_
                have hRn : RS 7 σ0 (mu W12 11 7 2 ((W12 11 7 2) + 1)) ρ19 := ⟨Sρ19, Kρ19, Fρ19⟩
                clear Sρ19 Kρ19 Fρ19
                have hkf := hRn.2.1 7 (by first | assumption | decide | exact xs_ (by decide) | exact xc_ (by decide) | exact x31_ (by decide) | omega) (by first | assumption | decide | exact xs_ (by decide) | exact xc_ (by decide) | exact x31_ (by decide) | omega)
                have q0 : (mu W12 11 7 2 ((W12 11 7 2) + 1)) 11 7 0 = W12 11 7 0 := mu_ne (by first | assumption | decide | exact xs_ (by decide) | exact xc_ (by decide) | exact x31_ (by decide) | omega)
                have q1 : (mu W12 11 7 2 ((W12 11 7 2) + 1)) 11 7 1 = W12 11 7 1 := mu_ne (by first | assumption | decide | exact xs_ (by decide) | exact xc_ (by decide) | exact x31_ (by decide) | omega)
                have q2 : (mu W12 11 7 2 ((W12 11 7 2) + 1)) 11 7 2 = W12 11 7 2 + 1 := mu_self _ _ _ _ _
                have q3 : (mu W12 11 7 2 ((W12 11 7 2) + 1)) 11 7 3 = W12 11 7 3 := mu_ne (by first | assumption | decide | exact xs_ (by decide) | exact xc_ (by decide) | exact x31_ (by decide) | omega)
                have hFI2 := fiW
                unfold FI at hFI2
                have hfl : ∃ fl : Int, fl = (if (mu W12 11 7 2 ((W12 11 7 2) + 1)) 11 7 3 = 0 then 0 else 1) := ⟨_, rfl⟩
                obtain ⟨fl, hfl⟩ := hfl
                have hfl2 : (fl = 0 ∧ (mu W12 11 7 2 ((W12 11 7 2) + 1)) 11 7 3 = 0) ∨ (fl = 1 ∧ (mu W12 11 7 2 ((W12 11 7 2) + 1)) 11 7 3 ≠ 0) := by rw [hfl]; split <;> omega
                have hLn : LK (mu W12 11 7 2 ((W12 11 7 2) + 1)) 7 := m3_46.to (fun c2 x y h => mu_ne (by first | assumption | decide | exact xs_ (by decide) | exact xc_ (by decide) | exact x31_ (by decide) | omega))
                refine y_endMoveW (V := (mu W12 11 7 2 ((W12 11 7 2) + 1))) (l := 7) (c := 0) (fl := fl) (fr := 0) (by first | assumption | decide | exact xs_ (by decide) | exact xc_ (by decide) | exact x31_ (by decide) | omega) (by first | assumption | decide | exact xs_ (by decide) | exact xc_ (by decide) | exact x31_ (by decide) | omega) ht hRn.1 (hRn.2.1.kx 7) hRn.2.2 (by first | assumption | decide | exact xs_ (by decide) | exact xc_ (by decide) | exact x31_ (by decide) | omega) hLn (by first | assumption | decide | exact xs_ (by decide) | exact xc_ (by decide) | exact x31_ (by decide) | omega) (by first | assumption | decide | exact xs_ (by decide) | exact xc_ (by decide) | exact x31_ (by decide) | omega) (hkf.1.trans hfl.symm) hkf.2 (fun ρm Rm => ?_)
                rw [rg7d (fun w a b => by rw [su_ne (by first | assumption | decide | exact xs_ (by decide) | exact xc_ (by decide) | exact x31_ (by decide) | omega), mu_ne (by first | assumption | decide | exact xs_ (by decide) | exact xc_ (by decide) | exact x31_ (by decide) | omega), m1_46 12 w 0 (by first | assumption | decide | exact xs_ (by decide) | exact xc_ (by decide) | exact x31_ (by decide) | omega) (by first | assumption | decide | exact xs_ (by decide) | exact xc_ (by decide) | exact x31_ (by decide) | omega)]; have := (hG.2.1.2.2.2.2.2.2.1 w a b).1; unfold opV at this; omega)] at Rm
                have hadR : emR 0 ((mu W12 11 7 2 ((W12 11 7 2) + 1)) 11 7) = adR (W12 11 7) := by unfold adR; rw [mu_row]; congr 1; first | (rw [if_pos (by first | assumption | decide | exact xs_ (by decide) | exact xc_ (by decide) | exact x31_ (by decide) | omega)]; done) | (rw [if_neg (by first | assumption | decide | exact xs_ (by decide) | exact xc_ (by decide) | exact x31_ (by decide) | omega)]; done)
                have hadm : ∀ y : Int, 0 ≤ y → y ≤ 4 → su (mu W12 11 7 2 ((W12 11 7 2) + 1)) 11 7 (emR 0 ((mu W12 11 7 2 ((W12 11 7 2) + 1)) 11 7)) 11 7 y = adR (W12 11 7) y := fun y a b => by rw [su_at, hadR]
                have hT4 := adT fiW
                have hlat : su (mu W12 11 7 2 ((W12 11 7 2) + 1)) 11 7 (emR 0 ((mu W12 11 7 2 ((W12 11 7 2) + 1)) 11 7)) 11 7 4 = adR (W12 11 7) 4 := hadm 4 (by first | assumption | decide | exact xs_ (by decide) | exact xc_ (by decide) | exact x31_ (by decide) | omega) (by first | assumption | decide | exact xs_ (by decide) | exact xc_ (by decide) | exact x31_ (by decide) | omega)
                refine r_iload hC dX6_cost_87 rfl ?_
                refine r_aload_n hC dX6_cost_89 rfl ?_
                refine r_bipush hC dX6_cost_90 rfl ?_
                refine r_bipush hC dX6_cost_92 rfl ?_
                refine z_inv2 hM dX6_cost_94 vl_RX6_80 rfl rfl rfl (Nat.le_of_ble_eq_true rfl) (Nat.le_of_ble_eq_true rfl) ?_
                refine y_of (by first | assumption | decide | exact xs_ (by decide) | exact xc_ (by decide) | exact x31_ (by decide) | omega) (by first | assumption | decide | exact xs_ (by decide) | exact xc_ (by decide) | exact x31_ (by decide) | omega) (by first | assumption | decide | exact xs_ (by decide) | exact xc_ (by decide) | exact x31_ (by decide) | omega) (fun o20 => ?_)
                have e21 : ρm 31 0 (22 * 7 + 18) = (adR (W12 11 7) 4) := (Rm.1.a11 (s := 4) (f := 18) (by first | assumption | decide | exact xs_ (by decide) | exact xc_ (by decide) | exact x31_ (by decide) | omega) (by first | assumption | decide | exact xs_ (by decide) | exact xc_ (by decide) | exact x31_ (by decide) | omega) (by first | assumption | decide | exact xs_ (by decide) | exact xc_ (by decide) | exact x31_ (by decide) | omega)).trans (hlat)
                rw [e21] at o20 ⊢
                refine r_iaddE hC ((w9 + (adR (W12 11 7) 4))) dX6_cost_97 (by first | assumption | decide | exact xs_ (by decide) | exact xc_ (by decide) | exact x31_ (by decide) | omega) (by unfold inR; omega) ?_
                refine r_istore hC dX6_cost_98 rfl ?_
                refine r_aload_n hC dX6_cost_100 rfl ?_
                refine r_bipush hC dX6_cost_101 rfl ?_
                refine r_bipush hC dX6_cost_103 rfl ?_
                refine z_inv2 hM dX6_cost_105 vl_RX6_80 rfl rfl rfl (Nat.le_of_ble_eq_true rfl) (Nat.le_of_ble_eq_true rfl) ?_
                refine y_of (by first | assumption | decide | exact xs_ (by decide) | exact xc_ (by decide) | exact x31_ (by decide) | omega) (by first | assumption | decide | exact xs_ (by decide) | exact xc_ (by decide) | exact x31_ (by decide) | omega) (by first | assumption | decide | exact xs_ (by decide) | exact xc_ (by decide) | exact x31_ (by decide) | omega) (fun o22 => ?_)
                have e23 : ρm 31 0 (22 * 7 + 18) = (adR (W12 11 7) 4) := (Rm.1.a11 (s := 4) (f := 18) (by first | assumption | decide | exact xs_ (by decide) | exact xc_ (by decide) | exact x31_ (by decide) | omega) (by first | assumption | decide | exact xs_ (by decide) | exact xc_ (by decide) | exact x31_ (by decide) | omega) (by first | assumption | decide | exact xs_ (by decide) | exact xc_ (by decide) | exact x31_ (by decide) | omega)).trans (hlat)
                rw [e23] at o22 ⊢
                refine r_iload hC dX6_cost_108 rfl ?_
                refine r_icmp_le (tgt := 123) hC dX6_cost_110 rfl (fun h24 => ?_) (fun h24 => ?_)
                · refine r_iincE hC ((w10 + 1)) dX6_cost_123 rfl rfl (by first | assumption | decide | exact xs_ (by decide) | exact xc_ (by decide) | exact x31_ (by decide) | omega) (by unfold inR; omega) ?_
                  refine r_goto (tgt := 46) hC dX6_cost_126 rfl ?_
                  refine r_forget hC (ls2 := [some (vR 30 0), some (vI l), some (vI m), some (vI w), some (vI (w9 + (adR (W12 11 7) 4))), some (vI w11), some (vI (w10 + 1)), none]) (lsub_some (lsub_some (lsub_some (lsub_some (lsub_some (lsub_some (lsub_some (lsub_none lsub_nil)))))))) ?_
                  exact ih46 ((w9 + (adR (W12 11 7) 4))) ((w10 + 1)) (w11) ρm (su (mu W12 11 7 2 ((W12 11 7 2) + 1)) 11 7 (emR 0 ((mu W12 11 7 2 ((W12 11 7 2) + 1)) 11 7))) (by first | assumption | decide | exact xs_ (by decide) | exact xc_ (by decide) | exact x31_ (by decide) | omega) (by first | assumption | decide | exact xs_ (by decide) | exact xc_ (by decide) | exact x31_ (by decide) | omega) (by first | assumption | decide | exact xs_ (by decide) | exact xc_ (by decide) | exact x31_ (by decide) | omega) (by first | assumption | decide | exact xs_ (by decide) | exact xc_ (by decide) | exact x31_ (by decide) | omega) (by first | rfl | (rw [cst_s _ (by first | assumption | decide | exact xs_ (by decide) | exact xc_ (by decide) | exact x31_ (by decide) | omega), adR_5, ← i1_46, ← adR_cg (fun y a b => m2_46 y a (by first | assumption | decide | exact xs_ (by decide) | exact xc_ (by decide) | exact x31_ (by decide) | omega)) 4 (by first | assumption | decide | exact xs_ (by decide) | exact xc_ (by decide) | exact x31_ (by decide) | omega) (by first | assumption | decide | exact xs_ (by decide) | exact xc_ (by decide) | exact x31_ (by decide) | omega), wr_id ⟨by omega, by omega⟩])) (by first | rfl | (rw [cst_s _ (by first | assumption | decide | exact xs_ (by decide) | exact xc_ (by decide) | exact x31_ (by decide) | omega), adR_6, ← i2_46, ← adR_cg (fun y a b => m2_46 y a (by first | assumption | decide | exact xs_ (by decide) | exact xc_ (by decide) | exact x31_ (by decide) | omega)) 4 (by first | assumption | decide | exact xs_ (by decide) | exact xc_ (by decide) | exact x31_ (by decide) | omega) (by first | assumption | decide | exact xs_ (by decide) | exact xc_ (by decide) | exact x31_ (by decide) | omega)]; omega)) (by first | assumption | decide | exact xs_ (by decide) | exact xc_ (by decide) | exact x31_ (by decide) | omega) (by first | assumption | decide | exact xs_ (by decide) | exact xc_ (by decide) | exact x31_ (by decide) | omega)  (⟨Rm.1, Rm.2.1, Rm.2.2⟩) (fun c x y hc hn => ((su_ne (by first | assumption | decide | exact xs_ (by decide) | exact xc_ (by decide) | exact x31_ (by decide) | omega)).trans (mu_ne (by first | assumption | decide | exact xs_ (by decide) | exact xc_ (by decide) | exact x31_ (by decide) | omega))).trans (m1_46 c x y hc hn)) (fun y a b => by rw [cst_s _ (by first | assumption | decide | exact xs_ (by decide) | exact xc_ (by decide) | exact x31_ (by decide) | omega)]; exact (hadm y a b).trans (adR_cg (fun y a b => m2_46 y a (by first | assumption | decide | exact xs_ (by decide) | exact xc_ (by decide) | exact x31_ (by decide) | omega)) y a b)) ((LK.su11 (m3_46.to (fun c2 x y h => mu_ne (by first | assumption | decide | exact xs_ (by decide) | exact xc_ (by decide) | exact x31_ (by decide) | omega)))))
                · refine r_aload_n hC dX6_cost_113 rfl ?_
                  refine r_bipush hC dX6_cost_114 rfl ?_
                  refine r_bipush hC dX6_cost_116 rfl ?_
                  refine z_inv2 hM dX6_cost_118 vl_RX6_80 rfl rfl rfl (Nat.le_of_ble_eq_true rfl) (Nat.le_of_ble_eq_true rfl) ?_
                  refine y_of (by first | assumption | decide | exact xs_ (by decide) | exact xc_ (by decide) | exact x31_ (by decide) | omega) (by first | assumption | decide | exact xs_ (by decide) | exact xc_ (by decide) | exact x31_ (by decide) | omega) (by first | assumption | decide | exact xs_ (by decide) | exact xc_ (by decide) | exact x31_ (by decide) | omega) (fun o25 => ?_)
                  have e26 : ρm 31 0 (22 * 7 + 18) = (adR (W12 11 7) 4) := (Rm.1.a11 (s := 4) (f := 18) (by first | assumption | decide | exact xs_ (by decide) | exact xc_ (by decide) | exact x31_ (by decide) | omega) (by first | assumption | decide | exact xs_ (by decide) | exact xc_ (by decide) | exact x31_ (by decide) | omega) (by first | assumption | decide | exact xs_ (by decide) | exact xc_ (by decide) | exact x31_ (by decide) | omega)).trans (hlat)
                  rw [e26] at o25 ⊢
                  refine r_istore hC dX6_cost_121 rfl ?_
                  refine r_iincE hC ((w10 + 1)) dX6_cost_123 rfl rfl (by first | assumption | decide | exact xs_ (by decide) | exact xc_ (by decide) | exact x31_ (by decide) | omega) (by unfold inR; omega) ?_
                  refine r_goto (tgt := 46) hC dX6_cost_126 rfl ?_
                  refine r_forget hC (ls2 := [some (vR 30 0), some (vI l), some (vI m), some (vI w), some (vI (w9 + (adR (W12 11 7) 4))), some (vI (adR (W12 11 7) 4)), some (vI (w10 + 1)), none]) (lsub_some (lsub_some (lsub_some (lsub_some (lsub_some (lsub_some (lsub_some (lsub_none lsub_nil)))))))) ?_
                  exact ih46 ((w9 + (adR (W12 11 7) 4))) ((w10 + 1)) ((adR (W12 11 7) 4)) ρm (su (mu W12 11 7 2 ((W12 11 7 2) + 1)) 11 7 (emR 0 ((mu W12 11 7 2 ((W12 11 7 2) + 1)) 11 7))) (by first | assumption | decide | exact xs_ (by decide) | exact xc_ (by decide) | exact x31_ (by decide) | omega) (by first | assumption | decide | exact xs_ (by decide) | exact xc_ (by decide) | exact x31_ (by decide) | omega) (by first | assumption | decide | exact xs_ (by decide) | exact xc_ (by decide) | exact x31_ (by decide) | omega) (by first | assumption | decide | exact xs_ (by decide) | exact xc_ (by decide) | exact x31_ (by decide) | omega) (by first | rfl | (rw [cst_s _ (by first | assumption | decide | exact xs_ (by decide) | exact xc_ (by decide) | exact x31_ (by decide) | omega), adR_5, ← i1_46, ← adR_cg (fun y a b => m2_46 y a (by first | assumption | decide | exact xs_ (by decide) | exact xc_ (by decide) | exact x31_ (by decide) | omega)) 4 (by first | assumption | decide | exact xs_ (by decide) | exact xc_ (by decide) | exact x31_ (by decide) | omega) (by first | assumption | decide | exact xs_ (by decide) | exact xc_ (by decide) | exact x31_ (by decide) | omega), wr_id ⟨by omega, by omega⟩])) (by first | rfl | (rw [cst_s _ (by first | assumption | decide | exact xs_ (by decide) | exact xc_ (by decide) | exact x31_ (by decide) | omega), adR_6, ← i2_46, ← adR_cg (fun y a b => m2_46 y a (by first | assumption | decide | exact xs_ (by decide) | exact xc_ (by decide) | exact x31_ (by decide) | omega)) 4 (by first | assumption | decide | exact xs_ (by decide) | exact xc_ (by decide) | exact x31_ (by decide) | omega) (by first | assumption | decide | exact xs_ (by decide) | exact xc_ (by decide) | exact x31_ (by decide) | omega)]; omega)) (by first | assumption | decide | exact xs_ (by decide) | exact xc_ (by decide) | exact x31_ (by decide) | omega) (by first | assumption | decide | exact xs_ (by decide) | exact xc_ (by decide) | exact x31_ (by decide) | omega)  (⟨Rm.1, Rm.2.1, Rm.2.2⟩) (fun c x y hc hn => ((su_ne (by first | assumption | decide | exact xs_ (by decide) | exact xc_ (by decide) | exact x31_ (by decide) | omega)).trans (mu_ne (by first | assumption | decide | exact xs_ (by decide) | exact xc_ (by decide) | exact x31_ (by decide) | omega))).trans (m1_46 c x y hc hn)) (fun y a b => by rw [cst_s _ (by first | assumption | decide | exact xs_ (by decide) | exact xc_ (by decide) | exact x31_ (by decide) | omega)]; exact (hadm y a b).trans (adR_cg (fun y a b => m2_46 y a (by first | assumption | decide | exact xs_ (by decide) | exact xc_ (by decide) | exact x31_ (by decide) | omega)) y a b)) ((LK.su11 (m3_46.to (fun c2 x y h => mu_ne (by first | assumption | decide | exact xs_ (by decide) | exact xc_ (by decide) | exact x31_ (by decide) | omega)))))
              · refine r_iconst hC dX6_cost_63 rfl ?_
                refine r_goto (tgt := 68) hC dX6_cost_64 rfl ?_
                refine r_istore hC dX6_cost_68 rfl ?_
                refine r_aload_n hC dX6_cost_70 rfl ?_
                refine r_bipush hC dX6_cost_71 rfl ?_
                refine r_bipush hC dX6_cost_73 rfl ?_
                refine r_iconst hC dX6_cost_75 rfl ?_
                refine z_inv3 hM dX6_cost_76 vl_RX6_188 rfl rfl rfl (Nat.le_of_ble_eq_true rfl) (Nat.le_of_ble_eq_true rfl) ?_
                refine y_moreE (a := (W12 11 7 2)) (by first | assumption | decide | exact xs_ (by decide) | exact xc_ (by decide) | exact x31_ (by decide) | omega) (by first | assumption | decide | exact xs_ (by decide) | exact xc_ (by decide) | exact x31_ (by decide) | omega) (by first | assumption | decide | exact xs_ (by decide) | exact xc_ (by decide) | exact x31_ (by decide) | omega) ⟨fun h => by omega, by omega⟩ ((m0_46.1.a11 (s := 2) (f := 14) (by first | assumption | decide | exact xs_ (by decide) | exact xc_ (by decide) | exact x31_ (by decide) | omega) (by first | assumption | decide | exact xs_ (by decide) | exact xc_ (by decide) | exact x31_ (by decide) | omega) (by first | assumption | decide | exact xs_ (by decide) | exact xc_ (by decide) | exact x31_ (by decide) | omega)).trans (rfl)) (by first | assumption | decide | exact xs_ (by decide) | exact xc_ (by decide) | exact x31_ (by decide) | omega) ?_
                rw [show (W12 11 7 2) + 1 = ((W12 11 7 2) + 1) from by omega]
                obtain ⟨ρ27, e_ρ27⟩ : ∃ zz_, zz_ = mu ρ12 31 0 ((22 * 7) + 14) ((W12 11 7 2) + 1) := ⟨_, rfl⟩
                rw [← e_ρ27]
                have Sρ27 : SB 7 σ0 (mu W12 11 7 2 ((W12 11 7 2) + 1)) ρ27 := by rw [e_ρ27, show (((22 * 7) + 14) : Int) = 22 * 7 + 14 from by omega]; exact m0_46.1.p11 (by first | assumption | decide | exact xs_ (by decide) | exact xc_ (by decide) | exact x31_ (by decide) | omega) (by first | assumption | decide | exact xs_ (by decide) | exact xc_ (by decide) | exact x31_ (by decide) | omega) (by first | assumption | decide | exact xs_ (by decide) | exact xc_ (by decide) | exact x31_ (by decide) | omega)
                have Kρ27 : KF 7 (mu W12 11 7 2 ((W12 11 7 2) + 1)) ρ27 := by rw [e_ρ27]; exact (m0_46.2.1).e (fun l a b => ⟨mu_ne (by first | assumption | decide | exact xs_ (by decide) | exact xc_ (by decide) | exact x31_ (by decide) | omega), mu_ne (by first | assumption | decide | exact xs_ (by decide) | exact xc_ (by decide) | exact x31_ (by decide) | omega)⟩) |>.v (fun l => mu_ne (by first | assumption | decide | exact xs_ (by decide) | exact xc_ (by decide) | exact x31_ (by decide) | omega))
                have Fρ27 : FB (mu W12 11 7 2 ((W12 11 7 2) + 1)) ρ27 := by rw [e_ρ27]; exact (m0_46.2.2).e (fun l a b => mu_ne (by first | assumption | decide | exact xs_ (by decide) | exact xc_ (by decide) | exact x31_ (by decide) | omega)) |>.v (fun l y a b c => mu_ne (by first | assumption | decide | exact xs_ (by decide) | exact xc_ (by decide) | exact x31_ (by decide) | omega))
                clear e_ρ27
                refine r_aload_n hC dX6_cost_79 rfl ?_
                refine r_bipush hC dX6_cost_80 rfl ?_
                refine r_iload hC dX6_cost_82 rfl ?_
                refine z_inv2 hM dX6_cost_84 vl_RX6_221 rfl rfl rfl (Nat.le_of_ble_eq_true rfl) (Nat.le_of_ble_eq_true rfl) ?_
                have hRn : RS 7 σ0 (mu W12 11 7 2 ((W12 11 7 2) + 1)) ρ27 := ⟨Sρ27, Kρ27, Fρ27⟩
                clear Sρ27 Kρ27 Fρ27
                have hkf := hRn.2.1 7 (by first | assumption | decide | exact xs_ (by decide) | exact xc_ (by decide) | exact x31_ (by decide) | omega) (by first | assumption | decide | exact xs_ (by decide) | exact xc_ (by decide) | exact x31_ (by decide) | omega)
                have q0 : (mu W12 11 7 2 ((W12 11 7 2) + 1)) 11 7 0 = W12 11 7 0 := mu_ne (by first | assumption | decide | exact xs_ (by decide) | exact xc_ (by decide) | exact x31_ (by decide) | omega)
                have q1 : (mu W12 11 7 2 ((W12 11 7 2) + 1)) 11 7 1 = W12 11 7 1 := mu_ne (by first | assumption | decide | exact xs_ (by decide) | exact xc_ (by decide) | exact x31_ (by decide) | omega)
                have q2 : (mu W12 11 7 2 ((W12 11 7 2) + 1)) 11 7 2 = W12 11 7 2 + 1 := mu_self _ _ _ _ _
                have q3 : (mu W12 11 7 2 ((W12 11 7 2) + 1)) 11 7 3 = W12 11 7 3 := mu_ne (by first | assumption | decide | exact xs_ (by decide) | exact xc_ (by decide) | exact x31_ (by decide) | omega)
                have hFI2 := fiW
                unfold FI at hFI2
                have hfl : ∃ fl : Int, fl = (if (mu W12 11 7 2 ((W12 11 7 2) + 1)) 11 7 3 = 0 then 0 else 1) := ⟨_, rfl⟩
                obtain ⟨fl, hfl⟩ := hfl
                have hfl2 : (fl = 0 ∧ (mu W12 11 7 2 ((W12 11 7 2) + 1)) 11 7 3 = 0) ∨ (fl = 1 ∧ (mu W12 11 7 2 ((W12 11 7 2) + 1)) 11 7 3 ≠ 0) := by rw [hfl]; split <;> omega
                have hLn : LK (mu W12 11 7 2 ((W12 11 7 2) + 1)) 7 := m3_46.to (fun c2 x y h => mu_ne (by first | assumption | decide | exact xs_ (by decide) | exact xc_ (by decide) | exact x31_ (by decide) | omega))
                refine y_endMoveW (V := (mu W12 11 7 2 ((W12 11 7 2) + 1))) (l := 7) (c := 1) (fl := fl) (fr := 0) (by first | assumption | decide | exact xs_ (by decide) | exact xc_ (by decide) | exact x31_ (by decide) | omega) (by first | assumption | decide | exact xs_ (by decide) | exact xc_ (by decide) | exact x31_ (by decide) | omega) ht hRn.1 (hRn.2.1.kx 7) hRn.2.2 (by first | assumption | decide | exact xs_ (by decide) | exact xc_ (by decide) | exact x31_ (by decide) | omega) hLn (by first | assumption | decide | exact xs_ (by decide) | exact xc_ (by decide) | exact x31_ (by decide) | omega) (by first | assumption | decide | exact xs_ (by decide) | exact xc_ (by decide) | exact x31_ (by decide) | omega) (hkf.1.trans hfl.symm) hkf.2 (fun ρm Rm => ?_)
                rw [rg7d (fun w a b => by rw [su_ne (by first | assumption | decide | exact xs_ (by decide) | exact xc_ (by decide) | exact x31_ (by decide) | omega), mu_ne (by first | assumption | decide | exact xs_ (by decide) | exact xc_ (by decide) | exact x31_ (by decide) | omega), m1_46 12 w 0 (by first | assumption | decide | exact xs_ (by decide) | exact xc_ (by decide) | exact x31_ (by decide) | omega) (by first | assumption | decide | exact xs_ (by decide) | exact xc_ (by decide) | exact x31_ (by decide) | omega)]; have := (hG.2.1.2.2.2.2.2.2.1 w a b).1; unfold opV at this; omega)] at Rm
                have hadR : emR 1 ((mu W12 11 7 2 ((W12 11 7 2) + 1)) 11 7) = adR (W12 11 7) := by unfold adR; rw [mu_row]; congr 1; first | (rw [if_pos (by first | assumption | decide | exact xs_ (by decide) | exact xc_ (by decide) | exact x31_ (by decide) | omega)]; done) | (rw [if_neg (by first | assumption | decide | exact xs_ (by decide) | exact xc_ (by decide) | exact x31_ (by decide) | omega)]; done)
                have hadm : ∀ y : Int, 0 ≤ y → y ≤ 4 → su (mu W12 11 7 2 ((W12 11 7 2) + 1)) 11 7 (emR 1 ((mu W12 11 7 2 ((W12 11 7 2) + 1)) 11 7)) 11 7 y = adR (W12 11 7) y := fun y a b => by rw [su_at, hadR]
                have hT4 := adT fiW
                have hlat : su (mu W12 11 7 2 ((W12 11 7 2) + 1)) 11 7 (emR 1 ((mu W12 11 7 2 ((W12 11 7 2) + 1)) 11 7)) 11 7 4 = adR (W12 11 7) 4 := hadm 4 (by first | assumption | decide | exact xs_ (by decide) | exact xc_ (by decide) | exact x31_ (by decide) | omega) (by first | assumption | decide | exact xs_ (by decide) | exact xc_ (by decide) | exact x31_ (by decide) | omega)
                refine r_iload hC dX6_cost_87 rfl ?_
                refine r_aload_n hC dX6_cost_89 rfl ?_
                refine r_bipush hC dX6_cost_90 rfl ?_
                refine r_bipush hC dX6_cost_92 rfl ?_
                refine z_inv2 hM dX6_cost_94 vl_RX6_80 rfl rfl rfl (Nat.le_of_ble_eq_true rfl) (Nat.le_of_ble_eq_true rfl) ?_
                refine y_of (by first | assumption | decide | exact xs_ (by decide) | exact xc_ (by decide) | exact x31_ (by decide) | omega) (by first | assumption | decide | exact xs_ (by decide) | exact xc_ (by decide) | exact x31_ (by decide) | omega) (by first | assumption | decide | exact xs_ (by decide) | exact xc_ (by decide) | exact x31_ (by decide) | omega) (fun o28 => ?_)
                have e29 : ρm 31 0 (22 * 7 + 18) = (adR (W12 11 7) 4) := (Rm.1.a11 (s := 4) (f := 18) (by first | assumption | decide | exact xs_ (by decide) | exact xc_ (by decide) | exact x31_ (by decide) | omega) (by first | assumption | decide | exact xs_ (by decide) | exact xc_ (by decide) | exact x31_ (by decide) | omega) (by first | assumption | decide | exact xs_ (by decide) | exact xc_ (by decide) | exact x31_ (by decide) | omega)).trans (hlat)
                rw [e29] at o28 ⊢
                refine r_iaddE hC ((w9 + (adR (W12 11 7) 4))) dX6_cost_97 (by first | assumption | decide | exact xs_ (by decide) | exact xc_ (by decide) | exact x31_ (by decide) | omega) (by unfold inR; omega) ?_
                refine r_istore hC dX6_cost_98 rfl ?_
                refine r_aload_n hC dX6_cost_100 rfl ?_
                refine r_bipush hC dX6_cost_101 rfl ?_
                refine r_bipush hC dX6_cost_103 rfl ?_
                refine z_inv2 hM dX6_cost_105 vl_RX6_80 rfl rfl rfl (Nat.le_of_ble_eq_true rfl) (Nat.le_of_ble_eq_true rfl) ?_
                refine y_of (by first | assumption | decide | exact xs_ (by decide) | exact xc_ (by decide) | exact x31_ (by decide) | omega) (by first | assumption | decide | exact xs_ (by decide) | exact xc_ (by decide) | exact x31_ (by decide) | omega) (by first | assumption | decide | exact xs_ (by decide) | exact xc_ (by decide) | exact x31_ (by decide) | omega) (fun o30 => ?_)
                have e31 : ρm 31 0 (22 * 7 + 18) = (adR (W12 11 7) 4) := (Rm.1.a11 (s := 4) (f := 18) (by first | assumption | decide | exact xs_ (by decide) | exact xc_ (by decide) | exact x31_ (by decide) | omega) (by first | assumption | decide | exact xs_ (by decide) | exact xc_ (by decide) | exact x31_ (by decide) | omega) (by first | assumption | decide | exact xs_ (by decide) | exact xc_ (by decide) | exact x31_ (by decide) | omega)).trans (hlat)
                rw [e31] at o30 ⊢
                refine r_iload hC dX6_cost_108 rfl ?_
                refine r_icmp_le (tgt := 123) hC dX6_cost_110 rfl (fun h32 => ?_) (fun h32 => ?_)
                · refine r_iincE hC ((w10 + 1)) dX6_cost_123 rfl rfl (by first | assumption | decide | exact xs_ (by decide) | exact xc_ (by decide) | exact x31_ (by decide) | omega) (by unfold inR; omega) ?_
                  refine r_goto (tgt := 46) hC dX6_cost_126 rfl ?_
                  refine r_forget hC (ls2 := [some (vR 30 0), some (vI l), some (vI m), some (vI w), some (vI (w9 + (adR (W12 11 7) 4))), some (vI w11), some (vI (w10 + 1)), none]) (lsub_some (lsub_some (lsub_some (lsub_some (lsub_some (lsub_some (lsub_some (lsub_none lsub_nil)))))))) ?_
                  exact ih46 ((w9 + (adR (W12 11 7) 4))) ((w10 + 1)) (w11) ρm (su (mu W12 11 7 2 ((W12 11 7 2) + 1)) 11 7 (emR 1 ((mu W12 11 7 2 ((W12 11 7 2) + 1)) 11 7))) (by first | assumption | decide | exact xs_ (by decide) | exact xc_ (by decide) | exact x31_ (by decide) | omega) (by first | assumption | decide | exact xs_ (by decide) | exact xc_ (by decide) | exact x31_ (by decide) | omega) (by first | assumption | decide | exact xs_ (by decide) | exact xc_ (by decide) | exact x31_ (by decide) | omega) (by first | assumption | decide | exact xs_ (by decide) | exact xc_ (by decide) | exact x31_ (by decide) | omega) (by first | rfl | (rw [cst_s _ (by first | assumption | decide | exact xs_ (by decide) | exact xc_ (by decide) | exact x31_ (by decide) | omega), adR_5, ← i1_46, ← adR_cg (fun y a b => m2_46 y a (by first | assumption | decide | exact xs_ (by decide) | exact xc_ (by decide) | exact x31_ (by decide) | omega)) 4 (by first | assumption | decide | exact xs_ (by decide) | exact xc_ (by decide) | exact x31_ (by decide) | omega) (by first | assumption | decide | exact xs_ (by decide) | exact xc_ (by decide) | exact x31_ (by decide) | omega), wr_id ⟨by omega, by omega⟩])) (by first | rfl | (rw [cst_s _ (by first | assumption | decide | exact xs_ (by decide) | exact xc_ (by decide) | exact x31_ (by decide) | omega), adR_6, ← i2_46, ← adR_cg (fun y a b => m2_46 y a (by first | assumption | decide | exact xs_ (by decide) | exact xc_ (by decide) | exact x31_ (by decide) | omega)) 4 (by first | assumption | decide | exact xs_ (by decide) | exact xc_ (by decide) | exact x31_ (by decide) | omega) (by first | assumption | decide | exact xs_ (by decide) | exact xc_ (by decide) | exact x31_ (by decide) | omega)]; omega)) (by first | assumption | decide | exact xs_ (by decide) | exact xc_ (by decide) | exact x31_ (by decide) | omega) (by first | assumption | decide | exact xs_ (by decide) | exact xc_ (by decide) | exact x31_ (by decide) | omega)  (⟨Rm.1, Rm.2.1, Rm.2.2⟩) (fun c x y hc hn => ((su_ne (by first | assumption | decide | exact xs_ (by decide) | exact xc_ (by decide) | exact x31_ (by decide) | omega)).trans (mu_ne (by first | assumption | decide | exact xs_ (by decide) | exact xc_ (by decide) | exact x31_ (by decide) | omega))).trans (m1_46 c x y hc hn)) (fun y a b => by rw [cst_s _ (by first | assumption | decide | exact xs_ (by decide) | exact xc_ (by decide) | exact x31_ (by decide) | omega)]; exact (hadm y a b).trans (adR_cg (fun y a b => m2_46 y a (by first | assumption | decide | exact xs_ (by decide) | exact xc_ (by decide) | exact x31_ (by decide) | omega)) y a b)) ((LK.su11 (m3_46.to (fun c2 x y h => mu_ne (by first | assumption | decide | exact xs_ (by decide) | exact xc_ (by decide) | exact x31_ (by decide) | omega)))))
                · refine r_aload_n hC dX6_cost_113 rfl ?_
                  refine r_bipush hC dX6_cost_114 rfl ?_
                  refine r_bipush hC dX6_cost_116 rfl ?_
                  refine z_inv2 hM dX6_cost_118 vl_RX6_80 rfl rfl rfl (Nat.le_of_ble_eq_true rfl) (Nat.le_of_ble_eq_true rfl) ?_
                  refine y_of (by first | assumption | decide | exact xs_ (by decide) | exact xc_ (by decide) | exact x31_ (by decide) | omega) (by first | assumption | decide | exact xs_ (by decide) | exact xc_ (by decide) | exact x31_ (by decide) | omega) (by first | assumption | decide | exact xs_ (by decide) | exact xc_ (by decide) | exact x31_ (by decide) | omega) (fun o33 => ?_)
                  have e34 : ρm 31 0 (22 * 7 + 18) = (adR (W12 11 7) 4) := (Rm.1.a11 (s := 4) (f := 18) (by first | assumption | decide | exact xs_ (by decide) | exact xc_ (by decide) | exact x31_ (by decide) | omega) (by first | assumption | decide | exact xs_ (by decide) | exact xc_ (by decide) | exact x31_ (by decide) | omega) (by first | assumption | decide | exact xs_ (by decide) | exact xc_ (by decide) | exact x31_ (by decide) | omega)).trans (hlat)
                  rw [e34] at o33 ⊢
                  refine r_istore hC dX6_cost_121 rfl ?_
                  refine r_iincE hC ((w10 + 1)) dX6_cost_123 rfl rfl (by first | assumption | decide | exact xs_ (by decide) | exact xc_ (by decide) | exact x31_ (by decide) | omega) (by unfold inR; omega) ?_
                  refine r_goto (tgt := 46) hC dX6_cost_126 rfl ?_
                  refine r_forget hC (ls2 := [some (vR 30 0), some (vI l), some (vI m), some (vI w), some (vI (w9 + (adR (W12 11 7) 4))), some (vI (adR (W12 11 7) 4)), some (vI (w10 + 1)), none]) (lsub_some (lsub_some (lsub_some (lsub_some (lsub_some (lsub_some (lsub_some (lsub_none lsub_nil)))))))) ?_
                  exact ih46 ((w9 + (adR (W12 11 7) 4))) ((w10 + 1)) ((adR (W12 11 7) 4)) ρm (su (mu W12 11 7 2 ((W12 11 7 2) + 1)) 11 7 (emR 1 ((mu W12 11 7 2 ((W12 11 7 2) + 1)) 11 7))) (by first | assumption | decide | exact xs_ (by decide) | exact xc_ (by decide) | exact x31_ (by decide) | omega) (by first | assumption | decide | exact xs_ (by decide) | exact xc_ (by decide) | exact x31_ (by decide) | omega) (by first | assumption | decide | exact xs_ (by decide) | exact xc_ (by decide) | exact x31_ (by decide) | omega) (by first | assumption | decide | exact xs_ (by decide) | exact xc_ (by decide) | exact x31_ (by decide) | omega) (by first | rfl | (rw [cst_s _ (by first | assumption | decide | exact xs_ (by decide) | exact xc_ (by decide) | exact x31_ (by decide) | omega), adR_5, ← i1_46, ← adR_cg (fun y a b => m2_46 y a (by first | assumption | decide | exact xs_ (by decide) | exact xc_ (by decide) | exact x31_ (by decide) | omega)) 4 (by first | assumption | decide | exact xs_ (by decide) | exact xc_ (by decide) | exact x31_ (by decide) | omega) (by first | assumption | decide | exact xs_ (by decide) | exact xc_ (by decide) | exact x31_ (by decide) | omega), wr_id ⟨by omega, by omega⟩])) (by first | rfl | (rw [cst_s _ (by first | assumption | decide | exact xs_ (by decide) | exact xc_ (by decide) | exact x31_ (by decide) | omega), adR_6, ← i2_46, ← adR_cg (fun y a b => m2_46 y a (by first | assumption | decide | exact xs_ (by decide) | exact xc_ (by decide) | exact x31_ (by decide) | omega)) 4 (by first | assumption | decide | exact xs_ (by decide) | exact xc_ (by decide) | exact x31_ (by decide) | omega) (by first | assumption | decide | exact xs_ (by decide) | exact xc_ (by decide) | exact x31_ (by decide) | omega)]; omega)) (by first | assumption | decide | exact xs_ (by decide) | exact xc_ (by decide) | exact x31_ (by decide) | omega) (by first | assumption | decide | exact xs_ (by decide) | exact xc_ (by decide) | exact x31_ (by decide) | omega)  (⟨Rm.1, Rm.2.1, Rm.2.2⟩) (fun c x y hc hn => ((su_ne (by first | assumption | decide | exact xs_ (by decide) | exact xc_ (by decide) | exact x31_ (by decide) | omega)).trans (mu_ne (by first | assumption | decide | exact xs_ (by decide) | exact xc_ (by decide) | exact x31_ (by decide) | omega))).trans (m1_46 c x y hc hn)) (fun y a b => by rw [cst_s _ (by first | assumption | decide | exact xs_ (by decide) | exact xc_ (by decide) | exact x31_ (by decide) | omega)]; exact (hadm y a b).trans (adR_cg (fun y a b => m2_46 y a (by first | assumption | decide | exact xs_ (by decide) | exact xc_ (by decide) | exact x31_ (by decide) | omega)) y a b)) ((LK.su11 (m3_46.to (fun c2 x y h => mu_ne (by first | assumption | decide | exact xs_ (by decide) | exact xc_ (by decide) | exact x31_ (by decide) | omega)))))
        exact L46 202 (0) (0) (0) ρc W (by first | assumption | decide | exact xs_ (by decide) | exact xc_ (by decide) | exact x31_ (by decide) | omega) (by first | assumption | decide | exact xs_ (by decide) | exact xc_ (by decide) | exact x31_ (by decide) | omega) (by first | assumption | decide | exact xs_ (by decide) | exact xc_ (by decide) | exact x31_ (by decide) | omega) (by first | assumption | decide | exact xs_ (by decide) | exact xc_ (by decide) | exact x31_ (by decide) | omega) (by first | rfl | (rw [cst_s _ (by first | assumption | decide | exact xs_ (by decide) | exact xc_ (by decide) | exact x31_ (by decide) | omega), adR_5, ← i1_46, ← adR_cg (fun y a b => m2_46 y a (by first | assumption | decide | exact xs_ (by decide) | exact xc_ (by decide) | exact x31_ (by decide) | omega)) 4 (by first | assumption | decide | exact xs_ (by decide) | exact xc_ (by decide) | exact x31_ (by decide) | omega) (by first | assumption | decide | exact xs_ (by decide) | exact xc_ (by decide) | exact x31_ (by decide) | omega), wr_id ⟨by omega, by omega⟩])) (by first | rfl | (rw [cst_s _ (by first | assumption | decide | exact xs_ (by decide) | exact xc_ (by decide) | exact x31_ (by decide) | omega), adR_6, ← i2_46, ← adR_cg (fun y a b => m2_46 y a (by first | assumption | decide | exact xs_ (by decide) | exact xc_ (by decide) | exact x31_ (by decide) | omega)) 4 (by first | assumption | decide | exact xs_ (by decide) | exact xc_ (by decide) | exact x31_ (by decide) | omega) (by first | assumption | decide | exact xs_ (by decide) | exact xc_ (by decide) | exact x31_ (by decide) | omega)]; omega)) (by first | assumption | decide | exact xs_ (by decide) | exact xc_ (by decide) | exact x31_ (by decide) | omega) (by first | assumption | decide | exact xs_ (by decide) | exact xc_ (by decide) | exact x31_ (by decide) | omega)  (⟨Rc.1, Rc.2.1, Rc.2.2⟩) (fun c x y hc hn => hcp.2.2.2.1 c x y hn) (fun y a b => by rw [hcp.2.2.1 y a (by first | assumption | decide | exact xs_ (by decide) | exact xc_ (by decide) | exact x31_ (by decide) | omega)]; rcases (by omega : y = 0 ∨ y = 1 ∨ y = 2 ∨ y = 3 ∨ y = 4) with rfl | rfl | rfl | rfl | rfl <;> rfl) (hlk7.1)
      · refine r_if_ne (tgt := 30) hC dX6_cost_25 rfl (fun h35 => by omega) (fun h35 => ?_)
        refine r_iconst hC dX6_cost_28 rfl ?_
        refine y_iret hK rfl dX6_cost_29 ?_
        have hRr : csR V l m w = -1 := if_neg (by unfold csC opV; omega)
        rw [hRr] at k
        exact k _ ⟨hR.1, hR.2.1, hR.2.2⟩
    · refine r_if_eq (tgt := 28) hC dX6_cost_16 rfl (fun h36 => ?_) (fun h36 => by omega)
      refine r_iconst hC dX6_cost_28 rfl ?_
      refine y_iret hK rfl dX6_cost_29 ?_
      have hRr : csR V l m w = -1 := if_neg (by unfold csC opV; omega)
      rw [hRr] at k
      exact k _ ⟨hR.1, hR.2.1, hR.2.2⟩
  · unfold opV at h1
    refine r_if_eq (tgt := 28) hC dX6_cost_5 rfl (fun h37 => ?_) (fun h37 => by omega)
    refine r_iconst hC dX6_cost_28 rfl ?_
    refine y_iret hK rfl dX6_cost_29 ?_
    have hRr : csR V l m w = -1 := if_neg (by unfold csC opV; omega)
    rw [hRr] at k
    exact k _ ⟨hR.1, hR.2.1, hR.2.2⟩
