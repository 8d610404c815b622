-- B: the class: MOVES, wide
theorem x_endMoveW {eb ec : Bool} {d : Nat} {P : Option Vl → Mm → Prop} {σ : Mm} {i c f m b l q s o : Int} (b_i : 0 ≤ i ∧ i ≤ 7) (b_c : 0 ≤ c ∧ c ≤ 1) (b_f : -1 ≤ f ∧ f ≤ 400) (qg0 : σ 11 i 0 = f) (b_m : 0 ≤ m ∧ m ≤ 400) (qg1 : σ 11 i 1 = m) (b_b : 0 ≤ b ∧ b ≤ 401) (qg2 : σ 11 i 2 = b) (b_l : 0 ≤ l ∧ l ≤ 1000) (qg3 : σ 11 i 3 = l) (qg4 : σ 11 i 4 = q) (qg5 : σ 11 i 5 = s) (qg6 : σ 11 i 6 = o)  (k : ∀ ρ : Mm, Gx (fun c x y => c = 11 ∧ x = i ∧ 0 ≤ y ∧ y ≤ 6) σ ρ → ρ 11 i 0 = (if (if m = 0 ∧ b > f then b + f else l) - min 3 (if m = 0 ∧ b > f then b + f else l) = 0 then f + (if m = 0 ∧ b > f then b else m) else f) → ρ 11 i 1 = (if (if m = 0 ∧ b > f then b + f else l) - min 3 (if m = 0 ∧ b > f then b + f else l) = 0 then 0 else (if m = 0 ∧ b > f then b else m)) → ρ 11 i 2 = (if m = 0 ∧ b > f then 0 else b) → ρ 11 i 3 = ((if m = 0 ∧ b > f then b + f else l) - min 3 (if m = 0 ∧ b > f then b + f else l)) → ρ 11 i 4 = (((if m = 0 ∧ b > f then c - 1 else c) + min 3 (if m = 0 ∧ b > f then b + f else l))) → ρ 11 i 5 = (wr (s + ((if m = 0 ∧ b > f then c - 1 else c) + min 3 (if m = 0 ∧ b > f then b + f else l)))) → ρ 11 i 6 = (max o ((if m = 0 ∧ b > f then c - 1 else c) + min 3 (if m = 0 ∧ b > f then b + f else l))) → P none ρ) : WT (true, eb, ec) (d + 2) 6 [vR 11 i, vI c] σ P := by
  refine WT_in fun K hK => ?_
  have hK : StpY (true, eb, ec) cX0_endMove RX0 (none) (WT (true, eb, ec) (d + 1)) P K := hK
  have hM := hK.1
  have hC := hK.1.1
  show K 0 [some (vR 11 i), some (vI c), none, none] [] σ
  refine r_iload_n hC dX0_endMove_0 rfl ?_
  refine r_istore_n hC dX0_endMove_1 rfl ?_
  refine r_aload_n hC dX0_endMove_2 rfl ?_
  refine z_getI (jz := 1) hM dX0_endMove_3 fl_RX0_15 rfl rfl rfl (fun v1 h_v1 o_v1 t_v1 => ?_)
  have e_v1 : m = v1 := ((t_v1 ((Or.inl (by simp [Tb])))).trans qg1).symm
  subst e_v1
  refine r_if_ne (tgt := 49) hC dX0_endMove_6 rfl (fun h2 => ?_) (fun h2 => ?_)
  · refine r_iconst hC dX0_endMove_49 rfl ?_
    refine r_aload_n hC dX0_endMove_50 rfl ?_
    refine z_getI (jz := 3) hM dX0_endMove_51 fl_RX0_21 rfl rfl rfl (fun v3 h_v3 o_v3 t_v3 => ?_)
    have e_v3 : l = v3 := ((t_v3 ((Or.inl (by simp [Tb])))).trans qg3).symm
    subst e_v3
    refine z_ins2 hM dX0_endMove_54 tl_RX0_43 rfl (Nat.le_of_ble_eq_true rfl) (Nat.le_of_ble_eq_true rfl) ?_
    refine x_min (fun v4 h_v4 => ?_)
    refine r_istore_n hC dX0_endMove_57 rfl ?_
    refine r_aload_n hC dX0_endMove_58 rfl ?_
    refine r_dup hC dX0_endMove_59 rfl ?_
    refine z_getI (jz := 3) hM dX0_endMove_60 fl_RX0_21 rfl rfl rfl (fun v5 h_v5 o_v5 t_v5 => ?_)
    have e_v5 : l = v5 := ((t_v5 ((Or.inl (by simp [Tb])))).trans qg3).symm
    subst e_v5
    refine r_iload_n hC dX0_endMove_63 rfl ?_
    refine r_isubE hC ((l - v4)) dX0_endMove_64 (by omega) (by unfold inR; omega) ?_
    refine z_putIG (jz := 3) hM dX0_endMove_65 fw_RX0_21 rfl rfl rfl ⟨Or.inr (by simp [DL]), Or.inr (by simp [DF])⟩ (by first | trivial | (simp only [Okv]; omega) | (simp [Okv]; try omega)) (fun ρ6 a_ρ6 q_ρ6 => ?_)
    refine r_iload_n hC dX0_endMove_68 rfl ?_
    refine r_iload_n hC dX0_endMove_69 rfl ?_
    refine r_iaddE hC ((c + v4)) dX0_endMove_70 (by omega) (by unfold inR; omega) ?_
    refine r_istore_n hC dX0_endMove_71 rfl ?_
    refine r_aload_n hC dX0_endMove_72 rfl ?_
    refine z_getI (jz := 3) hM dX0_endMove_73 fl_RX0_21 rfl rfl rfl (fun v7 h_v7 o_v7 t_v7 => ?_)
    have e_v7 : (l - v4) = v7 := ((t_v7 ((Or.inl (by simp [Tb])))).trans q_ρ6).symm
    subst e_v7
    refine r_if_ne (tgt := 97) hC dX0_endMove_76 rfl (fun h8 => ?_) (fun h8 => ?_)
    · refine r_aload_n hC dX0_endMove_97 rfl ?_
      refine r_iload_n hC dX0_endMove_98 rfl ?_
      refine z_putIG (jz := 4) hM dX0_endMove_99 fw_RX0_24 rfl rfl rfl ⟨Or.inr (by simp [DL]), Or.inr (by simp [DF])⟩ (by first | trivial | (simp only [Okv]; omega) | (simp [Okv]; try omega)) (fun ρ9 a_ρ9 q_ρ9 => ?_)
      refine r_aload_n hC dX0_endMove_102 rfl ?_
      refine r_dup hC dX0_endMove_103 rfl ?_
      refine z_getI (jz := 5) hM dX0_endMove_104 fl_RX0_27 rfl rfl rfl (fun v10 h_v10 o_v10 t_v10 => ?_)
      have e_v10 : s = v10 := ((t_v10 ((Or.inl (by simp [Tb])))).trans ((a_ρ9 _ _ _ (by omega)).trans ((a_ρ6 _ _ _ (by omega)).trans qg5))).symm
      subst e_v10
      refine r_iload_n hC dX0_endMove_107 rfl ?_
      refine r_iadd hC dX0_endMove_108 ?_
      have f11 := inR_le (inR_wr (s + (c + v4)))
      refine z_putIG (jz := 5) hM dX0_endMove_109 fw_RX0_27 rfl rfl rfl ⟨Or.inr (by simp [DL]), Or.inr (by simp [DF])⟩ (by first | trivial | (simp only [Okv]; omega) | (simp [Okv]; try omega)) (fun ρ12 a_ρ12 q_ρ12 => ?_)
      refine r_aload_n hC dX0_endMove_112 rfl ?_
      refine r_aload_n hC dX0_endMove_113 rfl ?_
      refine z_getI (jz := 6) hM dX0_endMove_114 fl_RX0_30 rfl rfl rfl (fun v13 h_v13 o_v13 t_v13 => ?_)
      have e_v13 : o = v13 := ((t_v13 ((Or.inl (by simp [Tb])))).trans ((a_ρ12 _ _ _ (by omega)).trans ((a_ρ9 _ _ _ (by omega)).trans ((a_ρ6 _ _ _ (by omega)).trans qg6)))).symm
      subst e_v13
      refine r_iload_n hC dX0_endMove_117 rfl ?_
      refine z_ins2 hM dX0_endMove_118 tl_RX0_37 rfl (Nat.le_of_ble_eq_true rfl) (Nat.le_of_ble_eq_true rfl) ?_
      refine x_max (fun v14 h_v14 => ?_)
      refine z_putIG (jz := 6) hM dX0_endMove_121 fw_RX0_30 rfl rfl rfl ⟨Or.inr (by simp [DL]), Or.inr (by simp [DF])⟩ (by first | trivial | (simp only [Okv]; omega) | (simp [Okv]; try omega)) (fun ρ15 a_ρ15 q_ρ15 => ?_)
      refine y_vret hK rfl dX0_endMove_124 ?_
      exact k _ (((((Gx.rf).al a_ρ6 (by first | (simp; done) | omega | (simp; omega))).al a_ρ9 (by first | (simp; done) | omega | (simp; omega))).al a_ρ12 (by first | (simp; done) | omega | (simp; omega))).al a_ρ15 (by first | (simp; done) | omega | (simp; omega))) (by have hq := ((a_ρ15 _ _ _ (by omega)).trans ((a_ρ12 _ _ _ (by omega)).trans ((a_ρ9 _ _ _ (by omega)).trans ((a_ρ6 _ _ _ (by omega)).trans qg0)))); refine hq.trans ?_; (repeat' split) <;> omega) (by have hq := ((a_ρ15 _ _ _ (by omega)).trans ((a_ρ12 _ _ _ (by omega)).trans ((a_ρ9 _ _ _ (by omega)).trans ((a_ρ6 _ _ _ (by omega)).trans qg1)))); refine hq.trans ?_; (repeat' split) <;> omega) (by have hq := ((a_ρ15 _ _ _ (by omega)).trans ((a_ρ12 _ _ _ (by omega)).trans ((a_ρ9 _ _ _ (by omega)).trans ((a_ρ6 _ _ _ (by omega)).trans qg2)))); refine hq.trans ?_; (repeat' split) <;> omega) (by have hq := ((a_ρ15 _ _ _ (by omega)).trans ((a_ρ12 _ _ _ (by omega)).trans ((a_ρ9 _ _ _ (by omega)).trans q_ρ6))); refine hq.trans ?_; (repeat' split) <;> omega) (by have hq := ((a_ρ15 _ _ _ (by omega)).trans ((a_ρ12 _ _ _ (by omega)).trans q_ρ9)); refine hq.trans ?_; (repeat' split) <;> omega) (by have hq := ((a_ρ15 _ _ _ (by omega)).trans q_ρ12); refine hq.trans (congrArg wr ?_); (repeat' split) <;> omega) (by have hq := q_ρ15; refine hq.trans ?_; (repeat' split) <;> omega)
    · refine r_aload_n hC dX0_endMove_79 rfl ?_
      refine r_dup hC dX0_endMove_80 rfl ?_
      refine z_getI (jz := 0) hM dX0_endMove_81 fl_RX0_9 rfl rfl rfl (fun v16 h_v16 o_v16 t_v16 => ?_)
      have e_v16 : f = v16 := ((t_v16 ((Or.inl (by simp [Tb])))).trans ((a_ρ6 _ _ _ (by omega)).trans qg0)).symm
      subst e_v16
      refine r_aload_n hC dX0_endMove_84 rfl ?_
      refine z_getI (jz := 1) hM dX0_endMove_85 fl_RX0_15 rfl rfl rfl (fun v17 h_v17 o_v17 t_v17 => ?_)
      have e_v17 : m = v17 := ((t_v17 ((Or.inl (by simp [Tb])))).trans ((a_ρ6 _ _ _ (by omega)).trans qg1)).symm
      subst e_v17
      refine r_iaddE hC ((f + m)) dX0_endMove_88 (by omega) (by unfold inR; omega) ?_
      refine z_putIG (jz := 0) hM dX0_endMove_89 fw_RX0_9 rfl rfl rfl ⟨Or.inr (by simp [DL]), Or.inr (by simp [DF])⟩ (by first | trivial | (simp only [Okv]; omega) | (simp [Okv]; try omega)) (fun ρ18 a_ρ18 q_ρ18 => ?_)
      refine r_aload_n hC dX0_endMove_92 rfl ?_
      refine r_iconst hC dX0_endMove_93 rfl ?_
      refine z_putIG (jz := 1) hM dX0_endMove_94 fw_RX0_15 rfl rfl rfl ⟨Or.inr (by simp [DL]), Or.inr (by simp [DF])⟩ (by first | trivial | (simp only [Okv]; omega) | (simp [Okv]; try omega)) (fun ρ19 a_ρ19 q_ρ19 => ?_)
      refine r_aload_n hC dX0_endMove_97 rfl ?_
      refine r_iload_n hC dX0_endMove_98 rfl ?_
      refine z_putIG (jz := 4) hM dX0_endMove_99 fw_RX0_24 rfl rfl rfl ⟨Or.inr (by simp [DL]), Or.inr (by simp [DF])⟩ (by first | trivial | (simp only [Okv]; omega) | (simp [Okv]; try omega)) (fun ρ20 a_ρ20 q_ρ20 => ?_)
      refine r_aload_n hC dX0_endMove_102 rfl ?_
      refine r_dup hC dX0_endMove_103 rfl ?_
      refine z_getI (jz := 5) hM dX0_endMove_104 fl_RX0_27 rfl rfl rfl (fun v21 h_v21 o_v21 t_v21 => ?_)
      have e_v21 : s = v21 := ((t_v21 ((Or.inl (by simp [Tb])))).trans ((a_ρ20 _ _ _ (by omega)).trans ((a_ρ19 _ _ _ (by omega)).trans ((a_ρ18 _ _ _ (by omega)).trans ((a_ρ6 _ _ _ (by omega)).trans qg5))))).symm
      subst e_v21
      refine r_iload_n hC dX0_endMove_107 rfl ?_
      refine r_iadd hC dX0_endMove_108 ?_
      have f22 := inR_le (inR_wr (s + (c + v4)))
      refine z_putIG (jz := 5) hM dX0_endMove_109 fw_RX0_27 rfl rfl rfl ⟨Or.inr (by simp [DL]), Or.inr (by simp [DF])⟩ (by first | trivial | (simp only [Okv]; omega) | (simp [Okv]; try omega)) (fun ρ23 a_ρ23 q_ρ23 => ?_)
      refine r_aload_n hC dX0_endMove_112 rfl ?_
      refine r_aload_n hC dX0_endMove_113 rfl ?_
      refine z_getI (jz := 6) hM dX0_endMove_114 fl_RX0_30 rfl rfl rfl (fun v24 h_v24 o_v24 t_v24 => ?_)
      have e_v24 : o = v24 := ((t_v24 ((Or.inl (by simp [Tb])))).trans ((a_ρ23 _ _ _ (by omega)).trans ((a_ρ20 _ _ _ (by omega)).trans ((a_ρ19 _ _ _ (by omega)).trans ((a_ρ18 _ _ _ (by omega)).trans ((a_ρ6 _ _ _ (by omega)).trans qg6)))))).symm
      subst e_v24
      refine r_iload_n hC dX0_endMove_117 rfl ?_
      refine z_ins2 hM dX0_endMove_118 tl_RX0_37 rfl (Nat.le_of_ble_eq_true rfl) (Nat.le_of_ble_eq_true rfl) ?_
      refine x_max (fun v25 h_v25 => ?_)
      refine z_putIG (jz := 6) hM dX0_endMove_121 fw_RX0_30 rfl rfl rfl ⟨Or.inr (by simp [DL]), Or.inr (by simp [DF])⟩ (by first | trivial | (simp only [Okv]; omega) | (simp [Okv]; try omega)) (fun ρ26 a_ρ26 q_ρ26 => ?_)
      refine y_vret hK rfl dX0_endMove_124 ?_
      exact k _ (((((((Gx.rf).al a_ρ6 (by first | (simp; done) | omega | (simp; omega))).al a_ρ18 (by first | (simp; done) | omega | (simp; omega))).al a_ρ19 (by first | (simp; done) | omega | (simp; omega))).al a_ρ20 (by first | (simp; done) | omega | (simp; omega))).al a_ρ23 (by first | (simp; done) | omega | (simp; omega))).al a_ρ26 (by first | (simp; done) | omega | (simp; omega))) (by have hq := ((a_ρ26 _ _ _ (by omega)).trans ((a_ρ23 _ _ _ (by omega)).trans ((a_ρ20 _ _ _ (by omega)).trans ((a_ρ19 _ _ _ (by omega)).trans q_ρ18)))); refine hq.trans ?_; (repeat' split) <;> omega) (by have hq := ((a_ρ26 _ _ _ (by omega)).trans ((a_ρ23 _ _ _ (by omega)).trans ((a_ρ20 _ _ _ (by omega)).trans q_ρ19))); refine hq.trans ?_; (repeat' split) <;> omega) (by have hq := ((a_ρ26 _ _ _ (by omega)).trans ((a_ρ23 _ _ _ (by omega)).trans ((a_ρ20 _ _ _ (by omega)).trans ((a_ρ19 _ _ _ (by omega)).trans ((a_ρ18 _ _ _ (by omega)).trans ((a_ρ6 _ _ _ (by omega)).trans qg2)))))); refine hq.trans ?_; (repeat' split) <;> omega) (by have hq := ((a_ρ26 _ _ _ (by omega)).trans ((a_ρ23 _ _ _ (by omega)).trans ((a_ρ20 _ _ _ (by omega)).trans ((a_ρ19 _ _ _ (by omega)).trans ((a_ρ18 _ _ _ (by omega)).trans q_ρ6))))); refine hq.trans ?_; (repeat' split) <;> omega) (by have hq := ((a_ρ26 _ _ _ (by omega)).trans ((a_ρ23 _ _ _ (by omega)).trans q_ρ20)); refine hq.trans ?_; (repeat' split) <;> omega) (by have hq := ((a_ρ26 _ _ _ (by omega)).trans q_ρ23); refine hq.trans (congrArg wr ?_); (repeat' split) <;> omega) (by have hq := q_ρ26; refine hq.trans ?_; (repeat' split) <;> omega)
  · refine r_aload_n hC dX0_endMove_9 rfl ?_
    refine z_getI (jz := 2) hM dX0_endMove_10 fl_RX0_18 rfl rfl rfl (fun v27 h_v27 o_v27 t_v27 => ?_)
    have e_v27 : b = v27 := ((t_v27 ((Or.inl (by simp [Tb])))).trans qg2).symm
    subst e_v27
    refine r_aload_n hC dX0_endMove_13 rfl ?_
    refine z_getI (jz := 0) hM dX0_endMove_14 fl_RX0_9 rfl rfl rfl (fun v28 h_v28 o_v28 t_v28 => ?_)
    have e_v28 : f = v28 := ((t_v28 ((Or.inl (by simp [Tb])))).trans qg0).symm
    subst e_v28
    refine r_icmp_le (tgt := 49) hC dX0_endMove_17 rfl (fun h29 => ?_) (fun h29 => ?_)
    · refine r_iconst hC dX0_endMove_49 rfl ?_
      refine r_aload_n hC dX0_endMove_50 rfl ?_
      refine z_getI (jz := 3) hM dX0_endMove_51 fl_RX0_21 rfl rfl rfl (fun v30 h_v30 o_v30 t_v30 => ?_)
      have e_v30 : l = v30 := ((t_v30 ((Or.inl (by simp [Tb])))).trans qg3).symm
      subst e_v30
      refine z_ins2 hM dX0_endMove_54 tl_RX0_43 rfl (Nat.le_of_ble_eq_true rfl) (Nat.le_of_ble_eq_true rfl) ?_
      refine x_min (fun v31 h_v31 => ?_)
      refine r_istore_n hC dX0_endMove_57 rfl ?_
      refine r_aload_n hC dX0_endMove_58 rfl ?_
      refine r_dup hC dX0_endMove_59 rfl ?_
      refine z_getI (jz := 3) hM dX0_endMove_60 fl_RX0_21 rfl rfl rfl (fun v32 h_v32 o_v32 t_v32 => ?_)
      have e_v32 : l = v32 := ((t_v32 ((Or.inl (by simp [Tb])))).trans qg3).symm
      subst e_v32
      refine r_iload_n hC dX0_endMove_63 rfl ?_
      refine r_isubE hC ((l - v31)) dX0_endMove_64 (by omega) (by unfold inR; omega) ?_
      refine z_putIG (jz := 3) hM dX0_endMove_65 fw_RX0_21 rfl rfl rfl ⟨Or.inr (by simp [DL]), Or.inr (by simp [DF])⟩ (by first | trivial | (simp only [Okv]; omega) | (simp [Okv]; try omega)) (fun ρ33 a_ρ33 q_ρ33 => ?_)
      refine r_iload_n hC dX0_endMove_68 rfl ?_
      refine r_iload_n hC dX0_endMove_69 rfl ?_
      refine r_iaddE hC ((c + v31)) dX0_endMove_70 (by omega) (by unfold inR; omega) ?_
      refine r_istore_n hC dX0_endMove_71 rfl ?_
      refine r_aload_n hC dX0_endMove_72 rfl ?_
      refine z_getI (jz := 3) hM dX0_endMove_73 fl_RX0_21 rfl rfl rfl (fun v34 h_v34 o_v34 t_v34 => ?_)
      have e_v34 : (l - v31) = v34 := ((t_v34 ((Or.inl (by simp [Tb])))).trans q_ρ33).symm
      subst e_v34
      refine r_if_ne (tgt := 97) hC dX0_endMove_76 rfl (fun h35 => ?_) (fun h35 => ?_)
      · refine r_aload_n hC dX0_endMove_97 rfl ?_
        refine r_iload_n hC dX0_endMove_98 rfl ?_
        refine z_putIG (jz := 4) hM dX0_endMove_99 fw_RX0_24 rfl rfl rfl ⟨Or.inr (by simp [DL]), Or.inr (by simp [DF])⟩ (by first | trivial | (simp only [Okv]; omega) | (simp [Okv]; try omega)) (fun ρ36 a_ρ36 q_ρ36 => ?_)
        refine r_aload_n hC dX0_endMove_102 rfl ?_
        refine r_dup hC dX0_endMove_103 rfl ?_
        refine z_getI (jz := 5) hM dX0_endMove_104 fl_RX0_27 rfl rfl rfl (fun v37 h_v37 o_v37 t_v37 => ?_)
        have e_v37 : s = v37 := ((t_v37 ((Or.inl (by simp [Tb])))).trans ((a_ρ36 _ _ _ (by omega)).trans ((a_ρ33 _ _ _ (by omega)).trans qg5))).symm
        subst e_v37
        refine r_iload_n hC dX0_endMove_107 rfl ?_
        refine r_iadd hC dX0_endMove_108 ?_
        have f38 := inR_le (inR_wr (s + (c + v31)))
        refine z_putIG (jz := 5) hM dX0_endMove_109 fw_RX0_27 rfl rfl rfl ⟨Or.inr (by simp [DL]), Or.inr (by simp [DF])⟩ (by first | trivial | (simp only [Okv]; omega) | (simp [Okv]; try omega)) (fun ρ39 a_ρ39 q_ρ39 => ?_)
        refine r_aload_n hC dX0_endMove_112 rfl ?_
        refine r_aload_n hC dX0_endMove_113 rfl ?_
        refine z_getI (jz := 6) hM dX0_endMove_114 fl_RX0_30 rfl rfl rfl (fun v40 h_v40 o_v40 t_v40 => ?_)
        have e_v40 : o = v40 := ((t_v40 ((Or.inl (by simp [Tb])))).trans ((a_ρ39 _ _ _ (by omega)).trans ((a_ρ36 _ _ _ (by omega)).trans ((a_ρ33 _ _ _ (by omega)).trans qg6)))).symm
        subst e_v40
        refine r_iload_n hC dX0_endMove_117 rfl ?_
        refine z_ins2 hM dX0_endMove_118 tl_RX0_37 rfl (Nat.le_of_ble_eq_true rfl) (Nat.le_of_ble_eq_true rfl) ?_
        refine x_max (fun v41 h_v41 => ?_)
        refine z_putIG (jz := 6) hM dX0_endMove_121 fw_RX0_30 rfl rfl rfl ⟨Or.inr (by simp [DL]), Or.inr (by simp [DF])⟩ (by first | trivial | (simp only [Okv]; omega) | (simp [Okv]; try omega)) (fun ρ42 a_ρ42 q_ρ42 => ?_)
        refine y_vret hK rfl dX0_endMove_124 ?_
        exact k _ (((((Gx.rf).al a_ρ33 (by first | (simp; done) | omega | (simp; omega))).al a_ρ36 (by first | (simp; done) | omega | (simp; omega))).al a_ρ39 (by first | (simp; done) | omega | (simp; omega))).al a_ρ42 (by first | (simp; done) | omega | (simp; omega))) (by have hq := ((a_ρ42 _ _ _ (by omega)).trans ((a_ρ39 _ _ _ (by omega)).trans ((a_ρ36 _ _ _ (by omega)).trans ((a_ρ33 _ _ _ (by omega)).trans qg0)))); refine hq.trans ?_; (repeat' split) <;> omega) (by have hq := ((a_ρ42 _ _ _ (by omega)).trans ((a_ρ39 _ _ _ (by omega)).trans ((a_ρ36 _ _ _ (by omega)).trans ((a_ρ33 _ _ _ (by omega)).trans qg1)))); refine hq.trans ?_; (repeat' split) <;> omega) (by have hq := ((a_ρ42 _ _ _ (by omega)).trans ((a_ρ39 _ _ _ (by omega)).trans ((a_ρ36 _ _ _ (by omega)).trans ((a_ρ33 _ _ _ (by omega)).trans qg2)))); refine hq.trans ?_; (repeat' split) <;> omega) (by have hq := ((a_ρ42 _ _ _ (by omega)).trans ((a_ρ39 _ _ _ (by omega)).trans ((a_ρ36 _ _ _ (by omega)).trans q_ρ33))); refine hq.trans ?_; (repeat' split) <;> omega) (by have hq := ((a_ρ42 _ _ _ (by omega)).trans ((a_ρ39 _ _ _ (by omega)).trans q_ρ36)); refine hq.trans ?_; (repeat' split) <;> omega) (by have hq := ((a_ρ42 _ _ _ (by omega)).trans q_ρ39); refine hq.trans (congrArg wr ?_); (repeat' split) <;> omega) (by have hq := q_ρ42; refine hq.trans ?_; (repeat' split) <;> omega)
      · refine r_aload_n hC dX0_endMove_79 rfl ?_
        refine r_dup hC dX0_endMove_80 rfl ?_
        refine z_getI (jz := 0) hM dX0_endMove_81 fl_RX0_9 rfl rfl rfl (fun v43 h_v43 o_v43 t_v43 => ?_)
        have e_v43 : f = v43 := ((t_v43 ((Or.inl (by simp [Tb])))).trans ((a_ρ33 _ _ _ (by omega)).trans qg0)).symm
        subst e_v43
        refine r_aload_n hC dX0_endMove_84 rfl ?_
        refine z_getI (jz := 1) hM dX0_endMove_85 fl_RX0_15 rfl rfl rfl (fun v44 h_v44 o_v44 t_v44 => ?_)
        have e_v44 : m = v44 := ((t_v44 ((Or.inl (by simp [Tb])))).trans ((a_ρ33 _ _ _ (by omega)).trans qg1)).symm
        subst e_v44
        refine r_iaddE hC ((f + m)) dX0_endMove_88 (by omega) (by unfold inR; omega) ?_
        refine z_putIG (jz := 0) hM dX0_endMove_89 fw_RX0_9 rfl rfl rfl ⟨Or.inr (by simp [DL]), Or.inr (by simp [DF])⟩ (by first | trivial | (simp only [Okv]; omega) | (simp [Okv]; try omega)) (fun ρ45 a_ρ45 q_ρ45 => ?_)
        refine r_aload_n hC dX0_endMove_92 rfl ?_
        refine r_iconst hC dX0_endMove_93 rfl ?_
        refine z_putIG (jz := 1) hM dX0_endMove_94 fw_RX0_15 rfl rfl rfl ⟨Or.inr (by simp [DL]), Or.inr (by simp [DF])⟩ (by first | trivial | (simp only [Okv]; omega) | (simp [Okv]; try omega)) (fun ρ46 a_ρ46 q_ρ46 => ?_)
        refine r_aload_n hC dX0_endMove_97 rfl ?_
        refine r_iload_n hC dX0_endMove_98 rfl ?_
        refine z_putIG (jz := 4) hM dX0_endMove_99 fw_RX0_24 rfl rfl rfl ⟨Or.inr (by simp [DL]), Or.inr (by simp [DF])⟩ (by first | trivial | (simp only [Okv]; omega) | (simp [Okv]; try omega)) (fun ρ47 a_ρ47 q_ρ47 => ?_)
        refine r_aload_n hC dX0_endMove_102 rfl ?_
        refine r_dup hC dX0_endMove_103 rfl ?_
        refine z_getI (jz := 5) hM dX0_endMove_104 fl_RX0_27 rfl rfl rfl (fun v48 h_v48 o_v48 t_v48 => ?_)
        have e_v48 : s = v48 := ((t_v48 ((Or.inl (by simp [Tb])))).trans ((a_ρ47 _ _ _ (by omega)).trans ((a_ρ46 _ _ _ (by omega)).trans ((a_ρ45 _ _ _ (by omega)).trans ((a_ρ33 _ _ _ (by omega)).trans qg5))))).symm
        subst e_v48
        refine r_iload_n hC dX0_endMove_107 rfl ?_
        refine r_iadd hC dX0_endMove_108 ?_
        have f49 := inR_le (inR_wr (s + (c + v31)))
        refine z_putIG (jz := 5) hM dX0_endMove_109 fw_RX0_27 rfl rfl rfl ⟨Or.inr (by simp [DL]), Or.inr (by simp [DF])⟩ (by first | trivial | (simp only [Okv]; omega) | (simp [Okv]; try omega)) (fun ρ50 a_ρ50 q_ρ50 => ?_)
        refine r_aload_n hC dX0_endMove_112 rfl ?_
        refine r_aload_n hC dX0_endMove_113 rfl ?_
        refine z_getI (jz := 6) hM dX0_endMove_114 fl_RX0_30 rfl rfl rfl (fun v51 h_v51 o_v51 t_v51 => ?_)
        have e_v51 : o = v51 := ((t_v51 ((Or.inl (by simp [Tb])))).trans ((a_ρ50 _ _ _ (by omega)).trans ((a_ρ47 _ _ _ (by omega)).trans ((a_ρ46 _ _ _ (by omega)).trans ((a_ρ45 _ _ _ (by omega)).trans ((a_ρ33 _ _ _ (by omega)).trans qg6)))))).symm
        subst e_v51
        refine r_iload_n hC dX0_endMove_117 rfl ?_
        refine z_ins2 hM dX0_endMove_118 tl_RX0_37 rfl (Nat.le_of_ble_eq_true rfl) (Nat.le_of_ble_eq_true rfl) ?_
        refine x_max (fun v52 h_v52 => ?_)
        refine z_putIG (jz := 6) hM dX0_endMove_121 fw_RX0_30 rfl rfl rfl ⟨Or.inr (by simp [DL]), Or.inr (by simp [DF])⟩ (by first | trivial | (simp only [Okv]; omega) | (simp [Okv]; try omega)) (fun ρ53 a_ρ53 q_ρ53 => ?_)
        refine y_vret hK rfl dX0_endMove_124 ?_
        exact k _ (((((((Gx.rf).al a_ρ33 (by first | (simp; done) | omega | (simp; omega))).al a_ρ45 (by first | (simp; done) | omega | (simp; omega))).al a_ρ46 (by first | (simp; done) | omega | (simp; omega))).al a_ρ47 (by first | (simp; done) | omega | (simp; omega))).al a_ρ50 (by first | (simp; done) | omega | (simp; omega))).al a_ρ53 (by first | (simp; done) | omega | (simp; omega))) (by have hq := ((a_ρ53 _ _ _ (by omega)).trans ((a_ρ50 _ _ _ (by omega)).trans ((a_ρ47 _ _ _ (by omega)).trans ((a_ρ46 _ _ _ (by omega)).trans q_ρ45)))); refine hq.trans ?_; (repeat' split) <;> omega) (by have hq := ((a_ρ53 _ _ _ (by omega)).trans ((a_ρ50 _ _ _ (by omega)).trans ((a_ρ47 _ _ _ (by omega)).trans q_ρ46))); refine hq.trans ?_; (repeat' split) <;> omega) (by have hq := ((a_ρ53 _ _ _ (by omega)).trans ((a_ρ50 _ _ _ (by omega)).trans ((a_ρ47 _ _ _ (by omega)).trans ((a_ρ46 _ _ _ (by omega)).trans ((a_ρ45 _ _ _ (by omega)).trans ((a_ρ33 _ _ _ (by omega)).trans qg2)))))); refine hq.trans ?_; (repeat' split) <;> omega) (by have hq := ((a_ρ53 _ _ _ (by omega)).trans ((a_ρ50 _ _ _ (by omega)).trans ((a_ρ47 _ _ _ (by omega)).trans ((a_ρ46 _ _ _ (by omega)).trans ((a_ρ45 _ _ _ (by omega)).trans q_ρ33))))); refine hq.trans ?_; (repeat' split) <;> omega) (by have hq := ((a_ρ53 _ _ _ (by omega)).trans ((a_ρ50 _ _ _ (by omega)).trans q_ρ47)); refine hq.trans ?_; (repeat' split) <;> omega) (by have hq := ((a_ρ53 _ _ _ (by omega)).trans q_ρ50); refine hq.trans (congrArg wr ?_); (repeat' split) <;> omega) (by have hq := q_ρ53; refine hq.trans ?_; (repeat' split) <;> omega)
    · refine r_aload_n hC dX0_endMove_20 rfl ?_
      refine r_aload_n hC dX0_endMove_21 rfl ?_
      refine z_getI (jz := 2) hM dX0_endMove_22 fl_RX0_18 rfl rfl rfl (fun v54 h_v54 o_v54 t_v54 => ?_)
      have e_v54 : b = v54 := ((t_v54 ((Or.inl (by simp [Tb])))).trans qg2).symm
      subst e_v54
      refine z_putIG (jz := 1) hM dX0_endMove_25 fw_RX0_15 rfl rfl rfl ⟨Or.inr (by simp [DL]), Or.inr (by simp [DF])⟩ (by first | trivial | (simp only [Okv]; omega) | (simp [Okv]; try omega)) (fun ρ55 a_ρ55 q_ρ55 => ?_)
      refine r_aload_n hC dX0_endMove_28 rfl ?_
      refine r_iconst hC dX0_endMove_29 rfl ?_
      refine z_putIG (jz := 2) hM dX0_endMove_30 fw_RX0_18 rfl rfl rfl ⟨Or.inr (by simp [DL]), Or.inr (by simp [DF])⟩ (by first | trivial | (simp only [Okv]; omega) | (simp [Okv]; try omega)) (fun ρ56 a_ρ56 q_ρ56 => ?_)
      refine r_aload_n hC dX0_endMove_33 rfl ?_
      refine r_aload_n hC dX0_endMove_34 rfl ?_
      refine z_getI (jz := 1) hM dX0_endMove_35 fl_RX0_15 rfl rfl rfl (fun v57 h_v57 o_v57 t_v57 => ?_)
      have e_v57 : b = v57 := ((t_v57 ((Or.inl (by simp [Tb])))).trans ((a_ρ56 _ _ _ (by omega)).trans q_ρ55)).symm
      subst e_v57
      refine r_aload_n hC dX0_endMove_38 rfl ?_
      refine z_getI (jz := 0) hM dX0_endMove_39 fl_RX0_9 rfl rfl rfl (fun v58 h_v58 o_v58 t_v58 => ?_)
      have e_v58 : f = v58 := ((t_v58 ((Or.inl (by simp [Tb])))).trans ((a_ρ56 _ _ _ (by omega)).trans ((a_ρ55 _ _ _ (by omega)).trans qg0))).symm
      subst e_v58
      refine r_iaddE hC ((b + f)) dX0_endMove_42 (by omega) (by unfold inR; omega) ?_
      refine z_putIG (jz := 3) hM dX0_endMove_43 fw_RX0_21 rfl rfl rfl ⟨Or.inr (by simp [DL]), Or.inr (by simp [DF])⟩ (by first | trivial | (simp only [Okv]; omega) | (simp [Okv]; try omega)) (fun ρ59 a_ρ59 q_ρ59 => ?_)
      refine r_iincE hC ((c - 1)) dX0_endMove_46 rfl rfl (by omega) (by unfold inR; omega) ?_
      refine r_iconst hC dX0_endMove_49 rfl ?_
      refine r_aload_n hC dX0_endMove_50 rfl ?_
      refine z_getI (jz := 3) hM dX0_endMove_51 fl_RX0_21 rfl rfl rfl (fun v60 h_v60 o_v60 t_v60 => ?_)
      have e_v60 : (b + f) = v60 := ((t_v60 ((Or.inl (by simp [Tb])))).trans q_ρ59).symm
      subst e_v60
      refine z_ins2 hM dX0_endMove_54 tl_RX0_43 rfl (Nat.le_of_ble_eq_true rfl) (Nat.le_of_ble_eq_true rfl) ?_
      refine x_min (fun v61 h_v61 => ?_)
      refine r_istore_n hC dX0_endMove_57 rfl ?_
      refine r_aload_n hC dX0_endMove_58 rfl ?_
      refine r_dup hC dX0_endMove_59 rfl ?_
      refine z_getI (jz := 3) hM dX0_endMove_60 fl_RX0_21 rfl rfl rfl (fun v62 h_v62 o_v62 t_v62 => ?_)
      have e_v62 : (b + f) = v62 := ((t_v62 ((Or.inl (by simp [Tb])))).trans q_ρ59).symm
      subst e_v62
      refine r_iload_n hC dX0_endMove_63 rfl ?_
      refine r_isubE hC (((b + f) - v61)) dX0_endMove_64 (by omega) (by unfold inR; omega) ?_
      refine z_putIG (jz := 3) hM dX0_endMove_65 fw_RX0_21 rfl rfl rfl ⟨Or.inr (by simp [DL]), Or.inr (by simp [DF])⟩ (by first | trivial | (simp only [Okv]; omega) | (simp [Okv]; try omega)) (fun ρ63 a_ρ63 q_ρ63 => ?_)
      refine r_iload_n hC dX0_endMove_68 rfl ?_
      refine r_iload_n hC dX0_endMove_69 rfl ?_
      refine r_iaddE hC (((c - 1) + v61)) dX0_endMove_70 (by omega) (by unfold inR; omega) ?_
      refine r_istore_n hC dX0_endMove_71 rfl ?_
      show K _ [_, _, _, _] _ _
      refine r_aload_n hC dX0_endMove_72 rfl ?_
      refine z_getI (jz := 3) hM dX0_endMove_73 fl_RX0_21 rfl rfl rfl (fun v64 h_v64 o_v64 t_v64 => ?_)
      have e_v64 : ((b + f) - v61) = v64 := ((t_v64 ((Or.inl (by simp [Tb])))).trans q_ρ63).symm
      subst e_v64
      refine r_if_ne (tgt := 97) hC dX0_endMove_76 rfl (fun h65 => ?_) (fun h65 => ?_)
      · refine r_aload_n hC dX0_endMove_97 rfl ?_
        refine r_iload_n hC dX0_endMove_98 rfl ?_
        refine z_putIG (jz := 4) hM dX0_endMove_99 fw_RX0_24 rfl rfl rfl ⟨Or.inr (by simp [DL]), Or.inr (by simp [DF])⟩ (by first | trivial | (simp only [Okv]; omega) | (simp [Okv]; try omega)) (fun ρ66 a_ρ66 q_ρ66 => ?_)
        refine r_aload_n hC dX0_endMove_102 rfl ?_
        refine r_dup hC dX0_endMove_103 rfl ?_
        refine z_getI (jz := 5) hM dX0_endMove_104 fl_RX0_27 rfl rfl rfl (fun v67 h_v67 o_v67 t_v67 => ?_)
        have e_v67 : s = v67 := ((t_v67 ((Or.inl (by simp [Tb])))).trans ((a_ρ66 _ _ _ (by omega)).trans ((a_ρ63 _ _ _ (by omega)).trans ((a_ρ59 _ _ _ (by omega)).trans ((a_ρ56 _ _ _ (by omega)).trans ((a_ρ55 _ _ _ (by omega)).trans qg5)))))).symm
        subst e_v67
        refine r_iload_n hC dX0_endMove_107 rfl ?_
        refine r_iadd hC dX0_endMove_108 ?_
        have f68 := inR_le (inR_wr (s + ((c - 1) + v61)))
        refine z_putIG (jz := 5) hM dX0_endMove_109 fw_RX0_27 rfl rfl rfl ⟨Or.inr (by simp [DL]), Or.inr (by simp [DF])⟩ (by first | trivial | (simp only [Okv]; omega) | (simp [Okv]; try omega)) (fun ρ69 a_ρ69 q_ρ69 => ?_)
        refine r_aload_n hC dX0_endMove_112 rfl ?_
        refine r_aload_n hC dX0_endMove_113 rfl ?_
        refine z_getI (jz := 6) hM dX0_endMove_114 fl_RX0_30 rfl rfl rfl (fun v70 h_v70 o_v70 t_v70 => ?_)
        have e_v70 : o = v70 := ((t_v70 ((Or.inl (by simp [Tb])))).trans ((a_ρ69 _ _ _ (by omega)).trans ((a_ρ66 _ _ _ (by omega)).trans ((a_ρ63 _ _ _ (by omega)).trans ((a_ρ59 _ _ _ (by omega)).trans ((a_ρ56 _ _ _ (by omega)).trans ((a_ρ55 _ _ _ (by omega)).trans qg6))))))).symm
        subst e_v70
        refine r_iload_n hC dX0_endMove_117 rfl ?_
        refine z_ins2 hM dX0_endMove_118 tl_RX0_37 rfl (Nat.le_of_ble_eq_true rfl) (Nat.le_of_ble_eq_true rfl) ?_
        refine x_max (fun v71 h_v71 => ?_)
        refine z_putIG (jz := 6) hM dX0_endMove_121 fw_RX0_30 rfl rfl rfl ⟨Or.inr (by simp [DL]), Or.inr (by simp [DF])⟩ (by first | trivial | (simp only [Okv]; omega) | (simp [Okv]; try omega)) (fun ρ72 a_ρ72 q_ρ72 => ?_)
        refine y_vret hK rfl dX0_endMove_124 ?_
        exact k _ ((((((((Gx.rf).al a_ρ55 (by first | (simp; done) | omega | (simp; omega))).al a_ρ56 (by first | (simp; done) | omega | (simp; omega))).al a_ρ59 (by first | (simp; done) | omega | (simp; omega))).al a_ρ63 (by first | (simp; done) | omega | (simp; omega))).al a_ρ66 (by first | (simp; done) | omega | (simp; omega))).al a_ρ69 (by first | (simp; done) | omega | (simp; omega))).al a_ρ72 (by first | (simp; done) | omega | (simp; omega))) (by have hq := ((a_ρ72 _ _ _ (by omega)).trans ((a_ρ69 _ _ _ (by omega)).trans ((a_ρ66 _ _ _ (by omega)).trans ((a_ρ63 _ _ _ (by omega)).trans ((a_ρ59 _ _ _ (by omega)).trans ((a_ρ56 _ _ _ (by omega)).trans ((a_ρ55 _ _ _ (by omega)).trans qg0))))))); refine hq.trans ?_; (repeat' split) <;> omega) (by have hq := ((a_ρ72 _ _ _ (by omega)).trans ((a_ρ69 _ _ _ (by omega)).trans ((a_ρ66 _ _ _ (by omega)).trans ((a_ρ63 _ _ _ (by omega)).trans ((a_ρ59 _ _ _ (by omega)).trans ((a_ρ56 _ _ _ (by omega)).trans q_ρ55)))))); refine hq.trans ?_; (repeat' split) <;> omega) (by have hq := ((a_ρ72 _ _ _ (by omega)).trans ((a_ρ69 _ _ _ (by omega)).trans ((a_ρ66 _ _ _ (by omega)).trans ((a_ρ63 _ _ _ (by omega)).trans ((a_ρ59 _ _ _ (by omega)).trans q_ρ56))))); refine hq.trans ?_; (repeat' split) <;> omega) (by have hq := ((a_ρ72 _ _ _ (by omega)).trans ((a_ρ69 _ _ _ (by omega)).trans ((a_ρ66 _ _ _ (by omega)).trans q_ρ63))); refine hq.trans ?_; (repeat' split) <;> omega) (by have hq := ((a_ρ72 _ _ _ (by omega)).trans ((a_ρ69 _ _ _ (by omega)).trans q_ρ66)); refine hq.trans ?_; (repeat' split) <;> omega) (by have hq := ((a_ρ72 _ _ _ (by omega)).trans q_ρ69); refine hq.trans (congrArg wr ?_); (repeat' split) <;> omega) (by have hq := q_ρ72; refine hq.trans ?_; (repeat' split) <;> omega)
      · refine r_aload_n hC dX0_endMove_79 rfl ?_
        refine r_dup hC dX0_endMove_80 rfl ?_
        refine z_getI (jz := 0) hM dX0_endMove_81 fl_RX0_9 rfl rfl rfl (fun v73 h_v73 o_v73 t_v73 => ?_)
        have e_v73 : f = v73 := ((t_v73 ((Or.inl (by simp [Tb])))).trans ((a_ρ63 _ _ _ (by omega)).trans ((a_ρ59 _ _ _ (by omega)).trans ((a_ρ56 _ _ _ (by omega)).trans ((a_ρ55 _ _ _ (by omega)).trans qg0))))).symm
        subst e_v73
        refine r_aload_n hC dX0_endMove_84 rfl ?_
        refine z_getI (jz := 1) hM dX0_endMove_85 fl_RX0_15 rfl rfl rfl (fun v74 h_v74 o_v74 t_v74 => ?_)
        have e_v74 : b = v74 := ((t_v74 ((Or.inl (by simp [Tb])))).trans ((a_ρ63 _ _ _ (by omega)).trans ((a_ρ59 _ _ _ (by omega)).trans ((a_ρ56 _ _ _ (by omega)).trans q_ρ55)))).symm
        subst e_v74
        refine r_iaddE hC ((f + b)) dX0_endMove_88 (by omega) (by unfold inR; omega) ?_
        refine z_putIG (jz := 0) hM dX0_endMove_89 fw_RX0_9 rfl rfl rfl ⟨Or.inr (by simp [DL]), Or.inr (by simp [DF])⟩ (by first | trivial | (simp only [Okv]; omega) | (simp [Okv]; try omega)) (fun ρ75 a_ρ75 q_ρ75 => ?_)
        refine r_aload_n hC dX0_endMove_92 rfl ?_
        refine r_iconst hC dX0_endMove_93 rfl ?_
        refine z_putIG (jz := 1) hM dX0_endMove_94 fw_RX0_15 rfl rfl rfl ⟨Or.inr (by simp [DL]), Or.inr (by simp [DF])⟩ (by first | trivial | (simp only [Okv]; omega) | (simp [Okv]; try omega)) (fun ρ76 a_ρ76 q_ρ76 => ?_)
        refine r_aload_n hC dX0_endMove_97 rfl ?_
        refine r_iload_n hC dX0_endMove_98 rfl ?_
        refine z_putIG (jz := 4) hM dX0_endMove_99 fw_RX0_24 rfl rfl rfl ⟨Or.inr (by simp [DL]), Or.inr (by simp [DF])⟩ (by first | trivial | (simp only [Okv]; omega) | (simp [Okv]; try omega)) (fun ρ77 a_ρ77 q_ρ77 => ?_)
        refine r_aload_n hC dX0_endMove_102 rfl ?_
        refine r_dup hC dX0_endMove_103 rfl ?_
        refine z_getI (jz := 5) hM dX0_endMove_104 fl_RX0_27 rfl rfl rfl (fun v78 h_v78 o_v78 t_v78 => ?_)
        have e_v78 : s = v78 := ((t_v78 ((Or.inl (by simp [Tb])))).trans ((a_ρ77 _ _ _ (by omega)).trans ((a_ρ76 _ _ _ (by omega)).trans ((a_ρ75 _ _ _ (by omega)).trans ((a_ρ63 _ _ _ (by omega)).trans ((a_ρ59 _ _ _ (by omega)).trans ((a_ρ56 _ _ _ (by omega)).trans ((a_ρ55 _ _ _ (by omega)).trans qg5)))))))).symm
        subst e_v78
        refine r_iload_n hC dX0_endMove_107 rfl ?_
        refine r_iadd hC dX0_endMove_108 ?_
        have f79 := inR_le (inR_wr (s + ((c - 1) + v61)))
        refine z_putIG (jz := 5) hM dX0_endMove_109 fw_RX0_27 rfl rfl rfl ⟨Or.inr (by simp [DL]), Or.inr (by simp [DF])⟩ (by first | trivial | (simp only [Okv]; omega) | (simp [Okv]; try omega)) (fun ρ80 a_ρ80 q_ρ80 => ?_)
        refine r_aload_n hC dX0_endMove_112 rfl ?_
        refine r_aload_n hC dX0_endMove_113 rfl ?_
        refine z_getI (jz := 6) hM dX0_endMove_114 fl_RX0_30 rfl rfl rfl (fun v81 h_v81 o_v81 t_v81 => ?_)
        have e_v81 : o = v81 := ((t_v81 ((Or.inl (by simp [Tb])))).trans ((a_ρ80 _ _ _ (by omega)).trans ((a_ρ77 _ _ _ (by omega)).trans ((a_ρ76 _ _ _ (by omega)).trans ((a_ρ75 _ _ _ (by omega)).trans ((a_ρ63 _ _ _ (by omega)).trans ((a_ρ59 _ _ _ (by omega)).trans ((a_ρ56 _ _ _ (by omega)).trans ((a_ρ55 _ _ _ (by omega)).trans qg6))))))))).symm
        subst e_v81
        refine r_iload_n hC dX0_endMove_117 rfl ?_
        refine z_ins2 hM dX0_endMove_118 tl_RX0_37 rfl (Nat.le_of_ble_eq_true rfl) (Nat.le_of_ble_eq_true rfl) ?_
        refine x_max (fun v82 h_v82 => ?_)
        refine z_putIG (jz := 6) hM dX0_endMove_121 fw_RX0_30 rfl rfl rfl ⟨Or.inr (by simp [DL]), Or.inr (by simp [DF])⟩ (by first | trivial | (simp only [Okv]; omega) | (simp [Okv]; try omega)) (fun ρ83 a_ρ83 q_ρ83 => ?_)
        refine y_vret hK rfl dX0_endMove_124 ?_
        exact k _ ((((((((((Gx.rf).al a_ρ55 (by first | (simp; done) | omega | (simp; omega))).al a_ρ56 (by first | (simp; done) | omega | (simp; omega))).al a_ρ59 (by first | (simp; done) | omega | (simp; omega))).al a_ρ63 (by first | (simp; done) | omega | (simp; omega))).al a_ρ75 (by first | (simp; done) | omega | (simp; omega))).al a_ρ76 (by first | (simp; done) | omega | (simp; omega))).al a_ρ77 (by first | (simp; done) | omega | (simp; omega))).al a_ρ80 (by first | (simp; done) | omega | (simp; omega))).al a_ρ83 (by first | (simp; done) | omega | (simp; omega))) (by have hq := ((a_ρ83 _ _ _ (by omega)).trans ((a_ρ80 _ _ _ (by omega)).trans ((a_ρ77 _ _ _ (by omega)).trans ((a_ρ76 _ _ _ (by omega)).trans q_ρ75)))); refine hq.trans ?_; (repeat' split) <;> omega) (by have hq := ((a_ρ83 _ _ _ (by omega)).trans ((a_ρ80 _ _ _ (by omega)).trans ((a_ρ77 _ _ _ (by omega)).trans q_ρ76))); refine hq.trans ?_; (repeat' split) <;> omega) (by have hq := ((a_ρ83 _ _ _ (by omega)).trans ((a_ρ80 _ _ _ (by omega)).trans ((a_ρ77 _ _ _ (by omega)).trans ((a_ρ76 _ _ _ (by omega)).trans ((a_ρ75 _ _ _ (by omega)).trans ((a_ρ63 _ _ _ (by omega)).trans ((a_ρ59 _ _ _ (by omega)).trans q_ρ56))))))); refine hq.trans ?_; (repeat' split) <;> omega) (by have hq := ((a_ρ83 _ _ _ (by omega)).trans ((a_ρ80 _ _ _ (by omega)).trans ((a_ρ77 _ _ _ (by omega)).trans ((a_ρ76 _ _ _ (by omega)).trans ((a_ρ75 _ _ _ (by omega)).trans q_ρ63))))); refine hq.trans ?_; (repeat' split) <;> omega) (by have hq := ((a_ρ83 _ _ _ (by omega)).trans ((a_ρ80 _ _ _ (by omega)).trans q_ρ77)); refine hq.trans ?_; (repeat' split) <;> omega) (by have hq := ((a_ρ83 _ _ _ (by omega)).trans q_ρ80); refine hq.trans (congrArg wr ?_); (repeat' split) <;> omega) (by have hq := q_ρ83; refine hq.trans ?_; (repeat' split) <;> omega)
theorem x_endMoveMW {eb ec : Bool} {d : Nat} {P : Option Vl → Mm → Prop} {σ : Mm} {i c f m b l : Int} (b_i : 0 ≤ i ∧ i ≤ 7) (b_c : 0 ≤ c ∧ c ≤ 1) (q0 : σ 11 i 0 = f) (q1 : σ 11 i 1 = m) (q2 : σ 11 i 2 = b) (q3 : σ 11 i 3 = l) (b_f : -1 ≤ f ∧ f ≤ 400) (b_m : 0 ≤ m ∧ m ≤ 400) (b_b : 0 ≤ b ∧ b ≤ 401) (b_l : 0 ≤ l ∧ l ≤ 1000) (k : P none (su σ 11 i (emR c (σ 11 i)))) : WT (true, eb, ec) (d + 2) 6 [vR 11 i, vI c] σ P := by
  refine x_endMoveW (q := σ 11 i 4) (s := σ 11 i 5) (o := σ 11 i 6) b_i b_c b_f q0 b_m q1 b_b q2 b_l q3 rfl rfl rfl (fun ρ g h0 h1 h2 h3 h4 h5 h6 => ?_)
  subst q0 q1 q2 q3
  have e : ρ = su σ 11 i (emR c (σ 11 i)) := mu7 g h0 h1 h2 h3 h4 h5 h6
  rw [e]
  exact k
theorem x_addW {eb ec : Bool} {d : Nat} {P : Option Vl → Mm → Prop} {σ : Mm} {i : Int} (b_i : 0 ≤ i ∧ i ≤ 7) (hF : (0 ≤ σ 11 i 0 ∧ σ 11 i 0 ≤ 400) ∧ (0 ≤ σ 11 i 1 ∧ σ 11 i 1 ≤ 400) ∧ (0 ≤ σ 11 i 2 ∧ σ 11 i 2 ≤ 400) ∧ 0 ≤ σ 11 i 3 ∧ σ 11 i 3 ≤ 1000)  (k : P none (adM σ i)) : WT (true, eb, ec) (d + 3) 3 [vR 11 i] σ P := by
  refine WT_in fun K hK => ?_
  have hK : StpY (true, eb, ec) cX0_add RX0 (none) (WT (true, eb, ec) (d + 2)) P K := hK
  have hM := hK.1
  have hC := hK.1.1
  show K 0 [some (vR 11 i), none] [] σ
  refine r_aload_n hC dX0_add_0 rfl ?_
  refine z_getI (jz := 2) hM dX0_add_1 fl_RX0_18 rfl rfl rfl (fun v1 h_v1 o_v1 t_v1 => ?_)
  have w_v1 := ((t_v1 (Or.inl (by simp [Tb]))).trans (rfl)).symm
  subst w_v1
  refine r_if_le (tgt := 11) hC dX0_add_4 rfl (fun h2 => ?_) (fun h2 => ?_)
  · refine r_iconst hC dX0_add_11 rfl ?_
    refine r_istore_n hC dX0_add_12 rfl ?_
    refine r_aload_n hC dX0_add_13 rfl ?_
    refine r_dup hC dX0_add_14 rfl ?_
    refine z_getI (jz := 2) hM dX0_add_15 fl_RX0_18 rfl rfl rfl (fun v3 h_v3 o_v3 t_v3 => ?_)
    have w_v3 := ((t_v3 (Or.inl (by simp [Tb]))).trans (rfl)).symm
    subst w_v3
    refine r_iconst hC dX0_add_18 rfl ?_
    refine r_iaddE hC (((σ 11 i 2) + 1)) dX0_add_19 (by omega) (by unfold inR; omega) ?_
    refine z_putIT (jz := 2) hM dX0_add_20 fw_RX0_18 rfl rfl rfl ⟨Or.inr (by simp [DL]), Or.inr (by simp [DF])⟩ (by first | trivial | (simp only [Okv]; omega) | (simp [Okv]; try omega)) ?_
    refine r_aload_n hC dX0_add_23 rfl ?_
    refine r_iload_n hC dX0_add_24 rfl ?_
    refine z_inv1 hM dX0_add_25 vl_RX0_33 rfl rfl rfl (Nat.le_of_ble_eq_true rfl) (Nat.le_of_ble_eq_true rfl) ?_
    refine x_endMoveMW (by omega) (by omega) ((mu_ne (by omega)).trans (rfl)) ((mu_ne (by omega)).trans (rfl)) (mu_self _ _ _ _ _) ((mu_ne (by omega)).trans (rfl)) (by omega) (by omega) (by omega) (by omega) ?_
    refine y_vret hK rfl dX0_add_28 ?_
    have hm : adM σ i = (su (mu σ 11 i 2 ((σ 11 i 2) + 1)) 11 i (emR 0 ((mu σ 11 i 2 ((σ 11 i 2) + 1)) 11 i))) := by first | exact adM_1 (by omega) | exact adM_0 (by omega)
    rw [hm] at k
    exact k
  · refine r_iconst hC dX0_add_7 rfl ?_
    refine r_goto (tgt := 12) hC dX0_add_8 rfl ?_
    refine r_istore_n hC dX0_add_12 rfl ?_
    refine r_aload_n hC dX0_add_13 rfl ?_
    refine r_dup hC dX0_add_14 rfl ?_
    refine z_getI (jz := 2) hM dX0_add_15 fl_RX0_18 rfl rfl rfl (fun v4 h_v4 o_v4 t_v4 => ?_)
    have w_v4 := ((t_v4 (Or.inl (by simp [Tb]))).trans (rfl)).symm
    subst w_v4
    refine r_iconst hC dX0_add_18 rfl ?_
    refine r_iaddE hC (((σ 11 i 2) + 1)) dX0_add_19 (by omega) (by unfold inR; omega) ?_
    refine z_putIT (jz := 2) hM dX0_add_20 fw_RX0_18 rfl rfl rfl ⟨Or.inr (by simp [DL]), Or.inr (by simp [DF])⟩ (by first | trivial | (simp only [Okv]; omega) | (simp [Okv]; try omega)) ?_
    refine r_aload_n hC dX0_add_23 rfl ?_
    refine r_iload_n hC dX0_add_24 rfl ?_
    refine z_inv1 hM dX0_add_25 vl_RX0_33 rfl rfl rfl (Nat.le_of_ble_eq_true rfl) (Nat.le_of_ble_eq_true rfl) ?_
    refine x_endMoveMW (by omega) (by omega) ((mu_ne (by omega)).trans (rfl)) ((mu_ne (by omega)).trans (rfl)) (mu_self _ _ _ _ _) ((mu_ne (by omega)).trans (rfl)) (by omega) (by omega) (by omega) (by omega) ?_
    refine y_vret hK rfl dX0_add_28 ?_
    have hm : adM σ i = (su (mu σ 11 i 2 ((σ 11 i 2) + 1)) 11 i (emR 1 ((mu σ 11 i 2 ((σ 11 i 2) + 1)) 11 i))) := by first | exact adM_1 (by omega) | exact adM_0 (by omega)
    rw [hm] at k
    exact k
