-- B: append and begin, told whole
theorem x_append {eb : Bool} {u : Int → Int} {n : Nat} {d : Nat} {P : Option Vl → Mm → Prop} {σ : Mm} {o : Int} (b_e2 : -1000 ≤ (u n) ∧ (u n) ≤ 1000) (b_o : 0 ≤ o ∧ o ≤ 9) (qg0 : σ 14 0 5 = o) (qg1 : σ 14 0 6 = (n : Int)) (hn : n ≤ 242) (hb : Bd u n) (hF : FRc σ o u n) (hcl : ∀ j : Int, 0 ≤ j → j < 16 → 0 ≤ σ 15 0 j ∧ σ 15 0 j ≤ 3)  (k : ∀ ρ : Mm, Gx (fun c x y => c = 17 ∧ x = 0 ∨ c = 14 ∧ x = 0 ∧ (y = 6 ∨ y = 7)) σ ρ → FRc ρ o u (n + 1) → P none ρ) : WT (true, true, eb) (d + 3) 14 [vR 14 0, vI (u n)] σ P := by
  refine WT_in fun K hK => ?_
  have hK : StpY (true, true, eb) cX1_append RX1 (none) (WT (true, true, eb) (d + 2)) P K := hK
  have hM := hK.1
  have hC := hK.1.1
  show K 0 [some (vR 14 0), some (vI (u n))] [] σ
  refine r_aload_n hC dX1_append_0 rfl ?_
  refine z_getI (jz := 5) hM dX1_append_1 fl_RX1_30 rfl rfl rfl (fun v1 h_v1 o_v1 t_v1 => ?_)
  have e_v1 : o = v1 := ((t_v1 ((by simp [Tk, Tb, DL, DF, DX]))).trans qg0).symm
  subst e_v1
  rcases (by omega : (o < 0 ∨ 8 < o) ∨ o = 0 ∨ o = 1 ∨ o = 2 ∨ o = 3 ∨ o = 4 ∨ o = 5 ∨ o = 6 ∨ o = 7 ∨ o = 8) with h2 | h2 | h2 | h2 | h2 | h2 | h2 | h2 | h2 | h2
  · refine r_tableOut (tgt := 128) hC dX1_append_4 h2 rfl ?_
    refine r_aload_n hC dX1_append_128 rfl ?_
    refine r_iload_n hC dX1_append_129 rfl ?_
    refine z_inv1 hM dX1_append_130 vl_RX1_85 rfl rfl rfl (Nat.le_of_ble_eq_true rfl) (Nat.le_of_ble_eq_true rfl) ?_
    have hk_ : o = 9 := by omega
    have hFk : FRc σ 9 u n := by have q := hF; rw [hk_] at q; exact q
    have f0 := un_9 hFk
    have hb_ := tbl_b (u := u) hcl n
    refine x_addElement (by omega) (by omega) f0 (by omega) hF.2.1 (fun ρ3 g_ρ3 e0 => ?_)
    refine r_aload_n hC dX1_append_133 rfl ?_
    refine r_dup hC dX1_append_134 rfl ?_
    refine z_getI (jz := 6) hM dX1_append_135 fl_RX1_34 rfl rfl rfl (fun v4 h_v4 o_v4 t_v4 => ?_)
    have e_v4 : (n : Int) = v4 := ((t_v4 ((by simp [Tk, Tb, DL, DF, DX]))).trans ((g_ρ3 _ _ _ (by omega)).trans qg1)).symm
    subst e_v4
    refine r_iconst hC dX1_append_138 rfl ?_
    refine r_iaddE hC (((n : Int) + 1)) dX1_append_139 (by omega) (by unfold inR; omega) ?_
    refine z_putIG (jz := 6) hM dX1_append_140 fw_RX1_34 rfl rfl rfl (by simp [Tl, DL, DF]) (by first | trivial | (simp only [Okv]; omega) | (simp [Okv]; try omega)) (fun ρ5 a_ρ5 q_ρ5 => ?_)
    refine y_vret hK rfl dX1_append_143 ?_
    exact k _ ((Gx.gx (Gx.rf) g_ρ3 (by intro c x y h; omega)).al a_ρ5 (by first | (simp; done) | omega | (simp; omega))) (by rw [hk_]; exact pk_9 hFk g_ρ3 e0 a_ρ5 q_ρ5)
  · refine r_tableIn (tgt := 56) (off := 52) hC dX1_append_4 (by omega) (by omega) (by rw [h2]; rfl) rfl ?_
    refine r_aload_n hC dX1_append_56 rfl ?_
    refine r_iload_n hC dX1_append_57 rfl ?_
    refine z_inv1 hM dX1_append_58 vl_RX1_57 rfl rfl rfl (Nat.le_of_ble_eq_true rfl) (Nat.le_of_ble_eq_true rfl) ?_
    have hk_ : o = 0 := h2
    have hFk : FRc σ 0 u n := by have q := hF; rw [hk_] at q; exact q
    obtain ⟨f0, f1, f2, f3⟩ := un_0 hFk
    have hb_ := gr_b u n
    refine x_addGreatest (by omega) f0 (by omega) f1 f2 f3 (by omega) hF.2.1 (fun ρ6 g_ρ6 e0 e1 e2 e3 => ?_)
    refine r_goto (tgt := 133) hC dX1_append_61 rfl ?_
    refine r_aload_n hC dX1_append_133 rfl ?_
    refine r_dup hC dX1_append_134 rfl ?_
    refine z_getI (jz := 6) hM dX1_append_135 fl_RX1_34 rfl rfl rfl (fun v7 h_v7 o_v7 t_v7 => ?_)
    have e_v7 : (n : Int) = v7 := ((t_v7 ((by simp [Tk, Tb, DL, DF, DX]))).trans ((g_ρ6 _ _ _ (by omega)).trans qg1)).symm
    subst e_v7
    refine r_iconst hC dX1_append_138 rfl ?_
    refine r_iaddE hC (((n : Int) + 1)) dX1_append_139 (by omega) (by unfold inR; omega) ?_
    refine z_putIG (jz := 6) hM dX1_append_140 fw_RX1_34 rfl rfl rfl (by simp [Tl, DL, DF]) (by first | trivial | (simp only [Okv]; omega) | (simp [Okv]; try omega)) (fun ρ8 a_ρ8 q_ρ8 => ?_)
    refine y_vret hK rfl dX1_append_143 ?_
    exact k _ ((Gx.gx (Gx.rf) g_ρ6 (by intro c x y h; omega)).al a_ρ8 (by first | (simp; done) | omega | (simp; omega))) (by rw [hk_]; exact pk_0 hFk g_ρ6 e0 e1 e2 e3 a_ρ8 q_ρ8)
  · refine r_tableIn (tgt := 64) (off := 60) hC dX1_append_4 (by omega) (by omega) (by rw [h2]; rfl) rfl ?_
    refine r_aload_n hC dX1_append_64 rfl ?_
    refine r_iload_n hC dX1_append_65 rfl ?_
    refine z_inv1 hM dX1_append_66 vl_RX1_61 rfl rfl rfl (Nat.le_of_ble_eq_true rfl) (Nat.le_of_ble_eq_true rfl) ?_
    have hk_ : o = 1 := h2
    have hFk : FRc σ 1 u n := by have q := hF; rw [hk_] at q; exact q
    obtain ⟨f0, f1⟩ := un_1 hFk
    have hb_ := shr_b u n
    have hp_ := shr_pos u n
    refine x_addShare (by omega) (by omega) f0 (by omega) f1 (fun ρ9 g_ρ9 e0 e1 => ?_)
    refine r_goto (tgt := 133) hC dX1_append_69 rfl ?_
    refine r_aload_n hC dX1_append_133 rfl ?_
    refine r_dup hC dX1_append_134 rfl ?_
    refine z_getI (jz := 6) hM dX1_append_135 fl_RX1_34 rfl rfl rfl (fun v10 h_v10 o_v10 t_v10 => ?_)
    have e_v10 : (n : Int) = v10 := ((t_v10 ((by simp [Tk, Tb, DL, DF, DX]))).trans ((g_ρ9 _ _ _ (by omega)).trans qg1)).symm
    subst e_v10
    refine r_iconst hC dX1_append_138 rfl ?_
    refine r_iaddE hC (((n : Int) + 1)) dX1_append_139 (by omega) (by unfold inR; omega) ?_
    refine z_putIG (jz := 6) hM dX1_append_140 fw_RX1_34 rfl rfl rfl (by simp [Tl, DL, DF]) (by first | trivial | (simp only [Okv]; omega) | (simp [Okv]; try omega)) (fun ρ11 a_ρ11 q_ρ11 => ?_)
    refine y_vret hK rfl dX1_append_143 ?_
    exact k _ ((Gx.gx (Gx.rf) g_ρ9 (by intro c x y h; omega)).al a_ρ11 (by first | (simp; done) | omega | (simp; omega))) (by rw [hk_]; exact pk_1 hFk g_ρ9 e0 e1 a_ρ11 q_ρ11)
  · refine r_tableIn (tgt := 72) (off := 68) hC dX1_append_4 (by omega) (by omega) (by rw [h2]; rfl) rfl ?_
    refine r_aload_n hC dX1_append_72 rfl ?_
    refine r_iload_n hC dX1_append_73 rfl ?_
    refine z_inv1 hM dX1_append_74 vl_RX1_64 rfl rfl rfl (Nat.le_of_ble_eq_true rfl) (Nat.le_of_ble_eq_true rfl) ?_
    have hk_ : o = 2 := h2
    have hFk : FRc σ 2 u n := by have q := hF; rw [hk_] at q; exact q
    obtain ⟨f0, f1⟩ := un_2 hFk
    have hb_ := lin_b u n
    refine x_addLine (by omega) (by omega) f0 (by omega) f1 (fun ρ12 g_ρ12 e0 e1 => ?_)
    refine r_goto (tgt := 133) hC dX1_append_77 rfl ?_
    refine r_aload_n hC dX1_append_133 rfl ?_
    refine r_dup hC dX1_append_134 rfl ?_
    refine z_getI (jz := 6) hM dX1_append_135 fl_RX1_34 rfl rfl rfl (fun v13 h_v13 o_v13 t_v13 => ?_)
    have e_v13 : (n : Int) = v13 := ((t_v13 ((by simp [Tk, Tb, DL, DF, DX]))).trans ((g_ρ12 _ _ _ (by omega)).trans qg1)).symm
    subst e_v13
    refine r_iconst hC dX1_append_138 rfl ?_
    refine r_iaddE hC (((n : Int) + 1)) dX1_append_139 (by omega) (by unfold inR; omega) ?_
    refine z_putIG (jz := 6) hM dX1_append_140 fw_RX1_34 rfl rfl rfl (by simp [Tl, DL, DF]) (by first | trivial | (simp only [Okv]; omega) | (simp [Okv]; try omega)) (fun ρ14 a_ρ14 q_ρ14 => ?_)
    refine y_vret hK rfl dX1_append_143 ?_
    exact k _ ((Gx.gx (Gx.rf) g_ρ12 (by intro c x y h; omega)).al a_ρ14 (by first | (simp; done) | omega | (simp; omega))) (by rw [hk_]; exact pk_2 hFk g_ρ12 e0 e1 a_ρ14 q_ρ14)
  · refine r_tableIn (tgt := 80) (off := 76) hC dX1_append_4 (by omega) (by omega) (by rw [h2]; rfl) rfl ?_
    refine r_aload_n hC dX1_append_80 rfl ?_
    refine r_iload_n hC dX1_append_81 rfl ?_
    refine z_inv1 hM dX1_append_82 vl_RX1_67 rfl rfl rfl (Nat.le_of_ble_eq_true rfl) (Nat.le_of_ble_eq_true rfl) ?_
    have hk_ : o = 3 := h2
    have hFk : FRc σ 3 u n := by have q := hF; rw [hk_] at q; exact q
    obtain ⟨f0, f1, f2, f3⟩ := un_3 hFk
    have hb_ := rnn_b n hb
    refine x_addRun (by omega) (by omega) f0 (by omega) f1 (by omega) f2 (by omega) f3 (by omega) hF.2.1 (fun ρ15 g_ρ15 e1 e2 e3 e0 => ?_)
    refine r_goto (tgt := 133) hC dX1_append_85 rfl ?_
    refine r_aload_n hC dX1_append_133 rfl ?_
    refine r_dup hC dX1_append_134 rfl ?_
    refine z_getI (jz := 6) hM dX1_append_135 fl_RX1_34 rfl rfl rfl (fun v16 h_v16 o_v16 t_v16 => ?_)
    have e_v16 : (n : Int) = v16 := ((t_v16 ((by simp [Tk, Tb, DL, DF, DX]))).trans ((g_ρ15 _ _ _ (by omega)).trans qg1)).symm
    subst e_v16
    refine r_iconst hC dX1_append_138 rfl ?_
    refine r_iaddE hC (((n : Int) + 1)) dX1_append_139 (by omega) (by unfold inR; omega) ?_
    refine z_putIG (jz := 6) hM dX1_append_140 fw_RX1_34 rfl rfl rfl (by simp [Tl, DL, DF]) (by first | trivial | (simp only [Okv]; omega) | (simp [Okv]; try omega)) (fun ρ17 a_ρ17 q_ρ17 => ?_)
    refine y_vret hK rfl dX1_append_143 ?_
    exact k _ ((Gx.gx (Gx.rf) g_ρ15 (by intro c x y h; omega)).al a_ρ17 (by first | (simp; done) | omega | (simp; omega))) (by rw [hk_]; exact pk_3 hFk g_ρ15 e1 e2 e3 e0 a_ρ17 q_ρ17)
  · refine r_tableIn (tgt := 88) (off := 84) hC dX1_append_4 (by omega) (by omega) (by rw [h2]; rfl) rfl ?_
    refine r_aload_n hC dX1_append_88 rfl ?_
    refine r_iload_n hC dX1_append_89 rfl ?_
    refine z_inv1 hM dX1_append_90 vl_RX1_70 rfl rfl rfl (Nat.le_of_ble_eq_true rfl) (Nat.le_of_ble_eq_true rfl) ?_
    have hk_ : o = 4 := h2
    have hFk : FRc σ 4 u n := by have q := hF; rw [hk_] at q; exact q
    obtain ⟨f0, f1, f2, f3⟩ := un_4 hFk
    have hb0 := ltr_b (tl := σ 16 0) (u := u) (s := 0) (by omega) n
    have hb1 := ltr_b (tl := σ 16 0) (u := u) (s := 1) (by omega) n
    have hb2 := ltr_b (tl := σ 16 0) (u := u) (s := 2) (by omega) n
    have hb3 := ltr_b (tl := σ 16 0) (u := u) (s := 3) (by omega) n
    refine x_addLetter (by omega) (by omega) f0 (by omega) f1 (by omega) f2 (by omega) f3 rfl (fun ρ18 g_ρ18 e0 e1 e2 e3 e4 => ?_)
    refine r_goto (tgt := 133) hC dX1_append_93 rfl ?_
    refine r_aload_n hC dX1_append_133 rfl ?_
    refine r_dup hC dX1_append_134 rfl ?_
    refine z_getI (jz := 6) hM dX1_append_135 fl_RX1_34 rfl rfl rfl (fun v19 h_v19 o_v19 t_v19 => ?_)
    have e_v19 : (n : Int) = v19 := ((t_v19 ((by simp [Tk, Tb, DL, DF, DX]))).trans ((g_ρ18 _ _ _ (by omega)).trans qg1)).symm
    subst e_v19
    refine r_iconst hC dX1_append_138 rfl ?_
    refine r_iaddE hC (((n : Int) + 1)) dX1_append_139 (by omega) (by unfold inR; omega) ?_
    refine z_putIG (jz := 6) hM dX1_append_140 fw_RX1_34 rfl rfl rfl (by simp [Tl, DL, DF]) (by first | trivial | (simp only [Okv]; omega) | (simp [Okv]; try omega)) (fun ρ20 a_ρ20 q_ρ20 => ?_)
    refine y_vret hK rfl dX1_append_143 ?_
    exact k _ ((Gx.gx (Gx.rf) g_ρ18 (by intro c x y h; omega)).al a_ρ20 (by first | (simp; done) | omega | (simp; omega))) (by rw [hk_]; exact pk_4 hFk g_ρ18 e0 e1 e2 e3 e4 a_ρ20 q_ρ20)
  · refine r_tableIn (tgt := 96) (off := 92) hC dX1_append_4 (by omega) (by omega) (by rw [h2]; rfl) rfl ?_
    refine r_aload_n hC dX1_append_96 rfl ?_
    refine r_iload_n hC dX1_append_97 rfl ?_
    refine z_inv1 hM dX1_append_98 vl_RX1_73 rfl rfl rfl (Nat.le_of_ble_eq_true rfl) (Nat.le_of_ble_eq_true rfl) ?_
    have hk_ : o = 5 := h2
    have hFk : FRc σ 5 u n := by have q := hF; rw [hk_] at q; exact q
    obtain ⟨f0, f1, f2, f3⟩ := un_5 hFk
    have hb_ := nst_b u n
    have hm_ := (nst_b u n).2.2.2
    refine x_addNest (by omega) (by omega) f0 (by omega) f1 (by omega) f2 (by omega) f3 (fun ρ21 g_ρ21 e0 e1 e2 e3 => ?_)
    refine r_goto (tgt := 133) hC dX1_append_101 rfl ?_
    refine r_aload_n hC dX1_append_133 rfl ?_
    refine r_dup hC dX1_append_134 rfl ?_
    refine z_getI (jz := 6) hM dX1_append_135 fl_RX1_34 rfl rfl rfl (fun v22 h_v22 o_v22 t_v22 => ?_)
    have e_v22 : (n : Int) = v22 := ((t_v22 ((by simp [Tk, Tb, DL, DF, DX]))).trans ((g_ρ21 _ _ _ (by omega)).trans qg1)).symm
    subst e_v22
    refine r_iconst hC dX1_append_138 rfl ?_
    refine r_iaddE hC (((n : Int) + 1)) dX1_append_139 (by omega) (by unfold inR; omega) ?_
    refine z_putIG (jz := 6) hM dX1_append_140 fw_RX1_34 rfl rfl rfl (by simp [Tl, DL, DF]) (by first | trivial | (simp only [Okv]; omega) | (simp [Okv]; try omega)) (fun ρ23 a_ρ23 q_ρ23 => ?_)
    refine y_vret hK rfl dX1_append_143 ?_
    exact k _ ((Gx.gx (Gx.rf) g_ρ21 (by intro c x y h; omega)).al a_ρ23 (by first | (simp; done) | omega | (simp; omega))) (by rw [hk_]; exact pk_5 hFk g_ρ21 e0 e1 e2 e3 a_ρ23 q_ρ23)
  · refine r_tableIn (tgt := 104) (off := 100) hC dX1_append_4 (by omega) (by omega) (by rw [h2]; rfl) rfl ?_
    refine r_aload_n hC dX1_append_104 rfl ?_
    refine r_iload_n hC dX1_append_105 rfl ?_
    refine z_inv1 hM dX1_append_106 vl_RX1_76 rfl rfl rfl (Nat.le_of_ble_eq_true rfl) (Nat.le_of_ble_eq_true rfl) ?_
    have hk_ : o = 6 := h2
    have hFk : FRc σ 6 u n := by have q := hF; rw [hk_] at q; exact q
    obtain ⟨f0, f1, f2, f3, f4, f5, f6⟩ := un_6 hFk
    have hb_ := lke_b u n
    refine x_addLike (by omega) f0 f1 (by omega) f2 f3 (by omega) f4 f5 f6 (by omega) hF.2.1 (fun ρ24 g_ρ24 e4 e2 e3 e0 e1 e5 e6 => ?_)
    refine r_goto (tgt := 133) hC dX1_append_109 rfl ?_
    refine r_aload_n hC dX1_append_133 rfl ?_
    refine r_dup hC dX1_append_134 rfl ?_
    refine z_getI (jz := 6) hM dX1_append_135 fl_RX1_34 rfl rfl rfl (fun v25 h_v25 o_v25 t_v25 => ?_)
    have e_v25 : (n : Int) = v25 := ((t_v25 ((by simp [Tk, Tb, DL, DF, DX]))).trans ((g_ρ24 _ _ _ (by omega)).trans qg1)).symm
    subst e_v25
    refine r_iconst hC dX1_append_138 rfl ?_
    refine r_iaddE hC (((n : Int) + 1)) dX1_append_139 (by omega) (by unfold inR; omega) ?_
    refine z_putIG (jz := 6) hM dX1_append_140 fw_RX1_34 rfl rfl rfl (by simp [Tl, DL, DF]) (by first | trivial | (simp only [Okv]; omega) | (simp [Okv]; try omega)) (fun ρ26 a_ρ26 q_ρ26 => ?_)
    refine y_vret hK rfl dX1_append_143 ?_
    exact k _ ((Gx.gx (Gx.rf) g_ρ24 (by intro c x y h; omega)).al a_ρ26 (by first | (simp; done) | omega | (simp; omega))) (by rw [hk_]; exact pk_6 hFk g_ρ24 e4 e2 e3 e0 e1 e5 e6 a_ρ26 q_ρ26)
  · refine r_tableIn (tgt := 112) (off := 108) hC dX1_append_4 (by omega) (by omega) (by rw [h2]; rfl) rfl ?_
    refine r_aload_n hC dX1_append_112 rfl ?_
    refine r_iload_n hC dX1_append_113 rfl ?_
    refine z_inv1 hM dX1_append_114 vl_RX1_79 rfl rfl rfl (Nat.le_of_ble_eq_true rfl) (Nat.le_of_ble_eq_true rfl) ?_
    have hk_ : o = 7 := h2
    have hFk : FRc σ 7 u n := by have q := hF; rw [hk_] at q; exact q
    obtain ⟨f0, f1, f2, f3, f4⟩ := un_7 hFk
    have hb_ := stp_b u n
    refine x_addStep (by omega) (by omega) f0 (by omega) f1 f2 f3 (by omega) f4 (by omega) hF.2.1 (by omega) (hFk.2.2.1 rfl) (fun ρ27 g_ρ27 e0 e1 e2 e3 e4 er => ?_)
    refine r_goto (tgt := 133) hC dX1_append_117 rfl ?_
    refine r_aload_n hC dX1_append_133 rfl ?_
    refine r_dup hC dX1_append_134 rfl ?_
    refine z_getI (jz := 6) hM dX1_append_135 fl_RX1_34 rfl rfl rfl (fun v28 h_v28 o_v28 t_v28 => ?_)
    have e_v28 : (n : Int) = v28 := ((t_v28 ((by simp [Tk, Tb, DL, DF, DX]))).trans ((g_ρ27 _ _ _ (by omega)).trans qg1)).symm
    subst e_v28
    refine r_iconst hC dX1_append_138 rfl ?_
    refine r_iaddE hC (((n : Int) + 1)) dX1_append_139 (by omega) (by unfold inR; omega) ?_
    refine z_putIG (jz := 6) hM dX1_append_140 fw_RX1_34 rfl rfl rfl (by simp [Tl, DL, DF]) (by first | trivial | (simp only [Okv]; omega) | (simp [Okv]; try omega)) (fun ρ29 a_ρ29 q_ρ29 => ?_)
    refine y_vret hK rfl dX1_append_143 ?_
    exact k _ ((Gx.gx (Gx.rf) g_ρ27 (by intro c x y h; omega)).al a_ρ29 (by first | (simp; done) | omega | (simp; omega))) (by rw [hk_]; exact pk_7 hFk g_ρ27 e0 e1 e2 e3 e4 er a_ρ29 q_ρ29)
  · refine r_tableIn (tgt := 120) (off := 116) hC dX1_append_4 (by omega) (by omega) (by rw [h2]; rfl) rfl ?_
    refine r_aload_n hC dX1_append_120 rfl ?_
    refine r_iload_n hC dX1_append_121 rfl ?_
    refine z_inv1 hM dX1_append_122 vl_RX1_82 rfl rfl rfl (Nat.le_of_ble_eq_true rfl) (Nat.le_of_ble_eq_true rfl) ?_
    have hk_ : o = 8 := h2
    have hFk : FRc σ 8 u n := by have q := hF; rw [hk_] at q; exact q
    obtain ⟨f0, f1, f2⟩ := un_8 hFk
    have hb_ := spr_b u n
    refine x_addSpread (by omega) f0 f1 (by omega) f2 (fun ρ30 g_ρ30 e0 e1 e2 => ?_)
    refine r_goto (tgt := 133) hC dX1_append_125 rfl ?_
    refine r_aload_n hC dX1_append_133 rfl ?_
    refine r_dup hC dX1_append_134 rfl ?_
    refine z_getI (jz := 6) hM dX1_append_135 fl_RX1_34 rfl rfl rfl (fun v31 h_v31 o_v31 t_v31 => ?_)
    have e_v31 : (n : Int) = v31 := ((t_v31 ((by simp [Tk, Tb, DL, DF, DX]))).trans ((g_ρ30 _ _ _ (by omega)).trans qg1)).symm
    subst e_v31
    refine r_iconst hC dX1_append_138 rfl ?_
    refine r_iaddE hC (((n : Int) + 1)) dX1_append_139 (by omega) (by unfold inR; omega) ?_
    refine z_putIG (jz := 6) hM dX1_append_140 fw_RX1_34 rfl rfl rfl (by simp [Tl, DL, DF]) (by first | trivial | (simp only [Okv]; omega) | (simp [Okv]; try omega)) (fun ρ32 a_ρ32 q_ρ32 => ?_)
    refine y_vret hK rfl dX1_append_143 ?_
    exact k _ ((Gx.gx (Gx.rf) g_ρ30 (by intro c x y h; omega)).al a_ρ32 (by first | (simp; done) | omega | (simp; omega))) (by rw [hk_]; exact pk_8 hFk g_ρ30 e0 e1 e2 a_ρ32 q_ρ32)
theorem x_fill {eb : Bool} {d : Nat} {P : Option Vl → Mm → Prop} {σ : Mm} {v n0 n1 n2 n3 n4 n5 n6 : Int} (qg0 : σ 17 0 0 = n0) (qg1 : σ 17 0 1 = n1) (qg2 : σ 17 0 2 = n2) (qg3 : σ 17 0 3 = n3) (qg4 : σ 17 0 4 = n4) (qg5 : σ 17 0 5 = n5) (qg6 : σ 17 0 6 = n6)  (k : ∀ ρ : Mm, Gx (fun c x y => c = 17 ∧ x = 0) σ ρ → ρ 17 0 0 = v → ρ 17 0 1 = v → ρ 17 0 2 = v → ρ 17 0 3 = v → ρ 17 0 4 = v → ρ 17 0 5 = v → ρ 17 0 6 = v → P none ρ) : WT (true, true, eb) (d + 1) 266 [vR 17 0, vI v] σ P := by
  refine WT_in fun K hK => ?_
  have hK : StpY (true, true, eb) cJ7_fill_53178 RJ7 (none) (WT (true, true, eb) (d + 0)) P K := hK
  have hM := hK.1
  have hC := hK.1.1
  show K 0 [some (vR 17 0), some (vI v), none, none] [] σ
  refine r_rngz hC (fun g0 => ?_)
  have r_v : -2147483648 ≤ v ∧ v ≤ 2147483647 := inR_le (g0 (vI v) (by simp))
  refine r_iconst hC dJ7_fill_53178_0 rfl ?_
  refine r_istore_n hC dJ7_fill_53178_1 rfl ?_
  refine r_aload_n hC dJ7_fill_53178_2 rfl ?_
  refine z_alen (nz := 7) hM dJ7_fill_53178_3 rfl rfl (by decide) ?_
  refine r_istore_n hC dJ7_fill_53178_4 rfl ?_
  refine r_iload_n hC dJ7_fill_53178_5 rfl ?_
  refine r_iload_n hC dJ7_fill_53178_6 rfl ?_
  refine r_icmp_ge (tgt := 20) hC dJ7_fill_53178_7 rfl (fun h1 => by omega) (fun h1 => ?_)
  refine r_aload_n hC dJ7_fill_53178_10 rfl ?_
  refine r_iload_n hC dJ7_fill_53178_11 rfl ?_
  refine r_iload_n hC dJ7_fill_53178_12 rfl ?_
  refine z_iastG hM dJ7_fill_53178_13 rfl (by omega) (by omega) (by simp [Tl, DL, DF]) (by first | trivial | (simp only [Okv]; omega) | (simp [Okv]; try omega)) (fun ρ2 a_ρ2 q_ρ2 => ?_)
  refine r_iincE hC (1) dJ7_fill_53178_14 rfl rfl (by omega) (by unfold inR; omega) ?_
  show K _ [_, _, _, _] _ _
  refine r_goto (tgt := 5) hC dJ7_fill_53178_17 rfl ?_
  refine r_iload_n hC dJ7_fill_53178_5 rfl ?_
  refine r_iload_n hC dJ7_fill_53178_6 rfl ?_
  refine r_icmp_ge (tgt := 20) hC dJ7_fill_53178_7 rfl (fun h3 => by omega) (fun h3 => ?_)
  refine r_aload_n hC dJ7_fill_53178_10 rfl ?_
  refine r_iload_n hC dJ7_fill_53178_11 rfl ?_
  refine r_iload_n hC dJ7_fill_53178_12 rfl ?_
  refine z_iastG hM dJ7_fill_53178_13 rfl (by omega) (by omega) (by simp [Tl, DL, DF]) (by first | trivial | (simp only [Okv]; omega) | (simp [Okv]; try omega)) (fun ρ4 a_ρ4 q_ρ4 => ?_)
  refine r_iincE hC (2) dJ7_fill_53178_14 rfl rfl (by omega) (by unfold inR; omega) ?_
  refine r_goto (tgt := 5) hC dJ7_fill_53178_17 rfl ?_
  refine r_iload_n hC dJ7_fill_53178_5 rfl ?_
  refine r_iload_n hC dJ7_fill_53178_6 rfl ?_
  refine r_icmp_ge (tgt := 20) hC dJ7_fill_53178_7 rfl (fun h5 => by omega) (fun h5 => ?_)
  refine r_aload_n hC dJ7_fill_53178_10 rfl ?_
  refine r_iload_n hC dJ7_fill_53178_11 rfl ?_
  refine r_iload_n hC dJ7_fill_53178_12 rfl ?_
  refine z_iastG hM dJ7_fill_53178_13 rfl (by omega) (by omega) (by simp [Tl, DL, DF]) (by first | trivial | (simp only [Okv]; omega) | (simp [Okv]; try omega)) (fun ρ6 a_ρ6 q_ρ6 => ?_)
  refine r_iincE hC (3) dJ7_fill_53178_14 rfl rfl (by omega) (by unfold inR; omega) ?_
  refine r_goto (tgt := 5) hC dJ7_fill_53178_17 rfl ?_
  refine r_iload_n hC dJ7_fill_53178_5 rfl ?_
  refine r_iload_n hC dJ7_fill_53178_6 rfl ?_
  refine r_icmp_ge (tgt := 20) hC dJ7_fill_53178_7 rfl (fun h7 => by omega) (fun h7 => ?_)
  refine r_aload_n hC dJ7_fill_53178_10 rfl ?_
  refine r_iload_n hC dJ7_fill_53178_11 rfl ?_
  refine r_iload_n hC dJ7_fill_53178_12 rfl ?_
  refine z_iastG hM dJ7_fill_53178_13 rfl (by omega) (by omega) (by simp [Tl, DL, DF]) (by first | trivial | (simp only [Okv]; omega) | (simp [Okv]; try omega)) (fun ρ8 a_ρ8 q_ρ8 => ?_)
  refine r_iincE hC (4) dJ7_fill_53178_14 rfl rfl (by omega) (by unfold inR; omega) ?_
  show K _ [_, _, _, _] _ _
  refine r_goto (tgt := 5) hC dJ7_fill_53178_17 rfl ?_
  refine r_iload_n hC dJ7_fill_53178_5 rfl ?_
  refine r_iload_n hC dJ7_fill_53178_6 rfl ?_
  refine r_icmp_ge (tgt := 20) hC dJ7_fill_53178_7 rfl (fun h9 => by omega) (fun h9 => ?_)
  refine r_aload_n hC dJ7_fill_53178_10 rfl ?_
  refine r_iload_n hC dJ7_fill_53178_11 rfl ?_
  refine r_iload_n hC dJ7_fill_53178_12 rfl ?_
  refine z_iastG hM dJ7_fill_53178_13 rfl (by omega) (by omega) (by simp [Tl, DL, DF]) (by first | trivial | (simp only [Okv]; omega) | (simp [Okv]; try omega)) (fun ρ10 a_ρ10 q_ρ10 => ?_)
  refine r_iincE hC (5) dJ7_fill_53178_14 rfl rfl (by omega) (by unfold inR; omega) ?_
  refine r_goto (tgt := 5) hC dJ7_fill_53178_17 rfl ?_
  refine r_iload_n hC dJ7_fill_53178_5 rfl ?_
  refine r_iload_n hC dJ7_fill_53178_6 rfl ?_
  refine r_icmp_ge (tgt := 20) hC dJ7_fill_53178_7 rfl (fun h11 => by omega) (fun h11 => ?_)
  refine r_aload_n hC dJ7_fill_53178_10 rfl ?_
  refine r_iload_n hC dJ7_fill_53178_11 rfl ?_
  refine r_iload_n hC dJ7_fill_53178_12 rfl ?_
  refine z_iastG hM dJ7_fill_53178_13 rfl (by omega) (by omega) (by simp [Tl, DL, DF]) (by first | trivial | (simp only [Okv]; omega) | (simp [Okv]; try omega)) (fun ρ12 a_ρ12 q_ρ12 => ?_)
  refine r_iincE hC (6) dJ7_fill_53178_14 rfl rfl (by omega) (by unfold inR; omega) ?_
  refine r_goto (tgt := 5) hC dJ7_fill_53178_17 rfl ?_
  refine r_iload_n hC dJ7_fill_53178_5 rfl ?_
  refine r_iload_n hC dJ7_fill_53178_6 rfl ?_
  refine r_icmp_ge (tgt := 20) hC dJ7_fill_53178_7 rfl (fun h13 => by omega) (fun h13 => ?_)
  refine r_aload_n hC dJ7_fill_53178_10 rfl ?_
  refine r_iload_n hC dJ7_fill_53178_11 rfl ?_
  refine r_iload_n hC dJ7_fill_53178_12 rfl ?_
  refine z_iastG hM dJ7_fill_53178_13 rfl (by omega) (by omega) (by simp [Tl, DL, DF]) (by first | trivial | (simp only [Okv]; omega) | (simp [Okv]; try omega)) (fun ρ14 a_ρ14 q_ρ14 => ?_)
  refine r_iincE hC (7) dJ7_fill_53178_14 rfl rfl (by omega) (by unfold inR; omega) ?_
  show K _ [_, _, _, _] _ _
  refine r_goto (tgt := 5) hC dJ7_fill_53178_17 rfl ?_
  refine r_iload_n hC dJ7_fill_53178_5 rfl ?_
  refine r_iload_n hC dJ7_fill_53178_6 rfl ?_
  refine r_icmp_ge (tgt := 20) hC dJ7_fill_53178_7 rfl (fun h15 => ?_) (fun h15 => by omega)
  refine y_vret hK rfl dJ7_fill_53178_20 ?_
  exact k _ ((((((((Gx.rf).al a_ρ2 (by first | (simp; done) | omega | (simp; omega))).al a_ρ4 (by first | (simp; done) | omega | (simp; omega))).al a_ρ6 (by first | (simp; done) | omega | (simp; omega))).al a_ρ8 (by first | (simp; done) | omega | (simp; omega))).al a_ρ10 (by first | (simp; done) | omega | (simp; omega))).al a_ρ12 (by first | (simp; done) | omega | (simp; omega))).al a_ρ14 (by first | (simp; done) | omega | (simp; omega))) (by have hq := ((a_ρ14 _ _ _ (by omega)).trans ((a_ρ12 _ _ _ (by omega)).trans ((a_ρ10 _ _ _ (by omega)).trans ((a_ρ8 _ _ _ (by omega)).trans ((a_ρ6 _ _ _ (by omega)).trans ((a_ρ4 _ _ _ (by omega)).trans q_ρ2)))))); omega) (by have hq := ((a_ρ14 _ _ _ (by omega)).trans ((a_ρ12 _ _ _ (by omega)).trans ((a_ρ10 _ _ _ (by omega)).trans ((a_ρ8 _ _ _ (by omega)).trans ((a_ρ6 _ _ _ (by omega)).trans q_ρ4))))); omega) (by have hq := ((a_ρ14 _ _ _ (by omega)).trans ((a_ρ12 _ _ _ (by omega)).trans ((a_ρ10 _ _ _ (by omega)).trans ((a_ρ8 _ _ _ (by omega)).trans q_ρ6)))); omega) (by have hq := ((a_ρ14 _ _ _ (by omega)).trans ((a_ρ12 _ _ _ (by omega)).trans ((a_ρ10 _ _ _ (by omega)).trans q_ρ8))); omega) (by have hq := ((a_ρ14 _ _ _ (by omega)).trans ((a_ρ12 _ _ _ (by omega)).trans q_ρ10)); omega) (by have hq := ((a_ρ14 _ _ _ (by omega)).trans q_ρ12); omega) (by have hq := q_ρ14; omega)
theorem x_begin {eb : Bool} {d : Nat} {P : Option Vl → Mm → Prop} {σ : Mm} {o o0 c0 r0 n0 n1 n2 n3 n4 n5 n6 : Int} (b_o : 0 ≤ o ∧ o ≤ 9) (qg0 : σ 14 0 5 = o0) (qg1 : σ 14 0 6 = c0) (qg2 : σ 14 0 7 = r0) (qg3 : σ 17 0 0 = n0) (qg4 : σ 17 0 1 = n1) (qg5 : σ 17 0 2 = n2) (qg6 : σ 17 0 3 = n3) (qg7 : σ 17 0 4 = n4) (qg8 : σ 17 0 5 = n5) (qg9 : σ 17 0 6 = n6)  (k : ∀ ρ : Mm, Gx (fun c x y => c = 17 ∧ x = 0 ∨ c = 14 ∧ x = 0 ∧ (y = 5 ∨ y = 6 ∨ y = 7)) σ ρ → (∀ u : Int → Int, FRc ρ o u 0) → P none ρ) : WT (true, true, eb) (d + 2) 9 [vR 14 0, vI o] σ P := by
  refine WT_in fun K hK => ?_
  have hK : StpY (true, true, eb) cX1_begin RX1 (none) (WT (true, true, eb) (d + 1)) P K := hK
  have hM := hK.1
  have hC := hK.1.1
  show K 0 [some (vR 14 0), some (vI o), none] [] σ
  refine r_aload_n hC dX1_begin_0 rfl ?_
  refine r_iload_n hC dX1_begin_1 rfl ?_
  refine z_putIG (jz := 5) hM dX1_begin_2 fw_RX1_30 rfl rfl rfl (by simp [Tl, DL, DF]) (by first | trivial | (simp only [Okv]; omega) | (simp [Okv]; try omega)) (fun ρ1 a_ρ1 q_ρ1 => ?_)
  refine r_aload_n hC dX1_begin_5 rfl ?_
  refine r_iconst hC dX1_begin_6 rfl ?_
  refine z_putIG (jz := 6) hM dX1_begin_7 fw_RX1_34 rfl rfl rfl (by simp [Tl, DL, DF]) (by first | trivial | (simp only [Okv]; omega) | (simp [Okv]; try omega)) (fun ρ2 a_ρ2 q_ρ2 => ?_)
  refine r_aload_n hC dX1_begin_10 rfl ?_
  refine r_iconst hC dX1_begin_11 rfl ?_
  refine z_putIG (jz := 7) hM dX1_begin_12 fw_RX1_37 rfl rfl rfl (by simp [Tl, DL, DF]) (by first | trivial | (simp only [Okv]; omega) | (simp [Okv]; try omega)) (fun ρ3 a_ρ3 q_ρ3 => ?_)
  refine r_aload_n hC dX1_begin_15 rfl ?_
  refine z_getR hM dX1_begin_16 fl_RX1_24 rfl rfl (vld_of (n := 1) rfl (by omega) (by omega)) ?_
  refine r_iconst hC dX1_begin_19 rfl ?_
  refine z_ins2 hM dX1_begin_20 tl_RX1_18 rfl (Nat.le_of_ble_eq_true rfl) (Nat.le_of_ble_eq_true rfl) ?_
  refine x_fill (by have hq := ((a_ρ3 _ _ _ (by omega)).trans ((a_ρ2 _ _ _ (by omega)).trans ((a_ρ1 _ _ _ (by omega)).trans qg3))); exact hq) (by have hq := ((a_ρ3 _ _ _ (by omega)).trans ((a_ρ2 _ _ _ (by omega)).trans ((a_ρ1 _ _ _ (by omega)).trans qg4))); exact hq) (by have hq := ((a_ρ3 _ _ _ (by omega)).trans ((a_ρ2 _ _ _ (by omega)).trans ((a_ρ1 _ _ _ (by omega)).trans qg5))); exact hq) (by have hq := ((a_ρ3 _ _ _ (by omega)).trans ((a_ρ2 _ _ _ (by omega)).trans ((a_ρ1 _ _ _ (by omega)).trans qg6))); exact hq) (by have hq := ((a_ρ3 _ _ _ (by omega)).trans ((a_ρ2 _ _ _ (by omega)).trans ((a_ρ1 _ _ _ (by omega)).trans qg7))); exact hq) (by have hq := ((a_ρ3 _ _ _ (by omega)).trans ((a_ρ2 _ _ _ (by omega)).trans ((a_ρ1 _ _ _ (by omega)).trans qg8))); exact hq) (by have hq := ((a_ρ3 _ _ _ (by omega)).trans ((a_ρ2 _ _ _ (by omega)).trans ((a_ρ1 _ _ _ (by omega)).trans qg9))); exact hq) (fun ρ4 g_ρ4 z0_ρ4 z1_ρ4 z2_ρ4 z3_ρ4 z4_ρ4 z5_ρ4 z6_ρ4 => ?_)
  refine r_iload_n hC dX1_begin_23 rfl ?_
  refine r_iconst hC dX1_begin_24 rfl ?_
  refine r_icmp_ne (tgt := 38) hC dX1_begin_25 rfl (fun h5 => ?_) (fun h5 => ?_)
  · refine r_iload_n hC dX1_begin_38 rfl ?_
    refine r_iconst hC dX1_begin_39 rfl ?_
    refine r_icmp_ne (tgt := 66) hC dX1_begin_40 rfl (fun h6 => ?_) (fun h6 => ?_)
    · refine r_iload_n hC dX1_begin_66 rfl ?_
      refine r_bipush hC dX1_begin_67 rfl ?_
      refine r_icmp_ne (tgt := 88) hC dX1_begin_69 rfl (fun h7 => ?_) (fun h7 => ?_)
      · refine y_vret hK rfl dX1_begin_88 ?_
        have w5 := ((g_ρ4 _ _ _ (by omega)).trans ((a_ρ3 _ _ _ (by omega)).trans ((a_ρ2 _ _ _ (by omega)).trans q_ρ1)))
        have w6 := ((g_ρ4 _ _ _ (by omega)).trans ((a_ρ3 _ _ _ (by omega)).trans q_ρ2))
        have w7 := ((g_ρ4 _ _ _ (by omega)).trans q_ρ3)
        have v0 := z0_ρ4
        have v1 := z1_ρ4
        have v2 := z2_ρ4
        have v3 := z3_ρ4
        have v4 := z4_ρ4
        have v5 := z5_ρ4
        have v6 := z6_ρ4
        exact k _ (Gx.gx ((((Gx.rf).al a_ρ1 (by first | (simp; done) | omega | (simp; omega))).al a_ρ2 (by first | (simp; done) | omega | (simp; omega))).al a_ρ3 (by first | (simp; done) | omega | (simp; omega))) g_ρ4 (by intro c x y h; omega)) (fun u => fr_zero b_o w5 w6 w7 (by (repeat' split) <;> omega) (by (repeat' split) <;> omega) (by (repeat' split) <;> omega) (by (repeat' split) <;> omega) ⟨by omega, by omega, by omega⟩)
      · refine r_aload_n hC dX1_begin_72 rfl ?_
        refine z_getR hM dX1_begin_73 fl_RX1_24 rfl rfl (vld_of (n := 1) rfl (by omega) (by omega)) ?_
        refine r_iconst hC dX1_begin_76 rfl ?_
        refine r_ldc hC dX1_begin_77 co_RX1_40 rfl ?_
        refine z_iastG hM dX1_begin_79 rfl (by omega) (by omega) (by simp [Tl, DL, DF]) (by first | trivial | (simp only [Okv]; omega) | (simp [Okv]; try omega)) (fun ρ8 a_ρ8 q_ρ8 => ?_)
        refine r_aload_n hC dX1_begin_80 rfl ?_
        refine z_getR hM dX1_begin_81 fl_RX1_24 rfl rfl (vld_of (n := 1) rfl (by omega) (by omega)) ?_
        refine r_iconst hC dX1_begin_84 rfl ?_
        refine r_ldc hC dX1_begin_85 co_RX1_40 rfl ?_
        refine z_iastG hM dX1_begin_87 rfl (by omega) (by omega) (by simp [Tl, DL, DF]) (by first | trivial | (simp only [Okv]; omega) | (simp [Okv]; try omega)) (fun ρ9 a_ρ9 q_ρ9 => ?_)
        refine y_vret hK rfl dX1_begin_88 ?_
        have w5 := ((a_ρ9 _ _ _ (by omega)).trans ((a_ρ8 _ _ _ (by omega)).trans ((g_ρ4 _ _ _ (by omega)).trans ((a_ρ3 _ _ _ (by omega)).trans ((a_ρ2 _ _ _ (by omega)).trans q_ρ1)))))
        have w6 := ((a_ρ9 _ _ _ (by omega)).trans ((a_ρ8 _ _ _ (by omega)).trans ((g_ρ4 _ _ _ (by omega)).trans ((a_ρ3 _ _ _ (by omega)).trans q_ρ2))))
        have w7 := ((a_ρ9 _ _ _ (by omega)).trans ((a_ρ8 _ _ _ (by omega)).trans ((g_ρ4 _ _ _ (by omega)).trans q_ρ3)))
        have v0 := ((a_ρ9 _ _ _ (by omega)).trans q_ρ8)
        have v1 := q_ρ9
        have v2 := ((a_ρ9 _ _ _ (by omega)).trans ((a_ρ8 _ _ _ (by omega)).trans z2_ρ4))
        have v3 := ((a_ρ9 _ _ _ (by omega)).trans ((a_ρ8 _ _ _ (by omega)).trans z3_ρ4))
        have v4 := ((a_ρ9 _ _ _ (by omega)).trans ((a_ρ8 _ _ _ (by omega)).trans z4_ρ4))
        have v5 := ((a_ρ9 _ _ _ (by omega)).trans ((a_ρ8 _ _ _ (by omega)).trans z5_ρ4))
        have v6 := ((a_ρ9 _ _ _ (by omega)).trans ((a_ρ8 _ _ _ (by omega)).trans z6_ρ4))
        exact k _ (((Gx.gx ((((Gx.rf).al a_ρ1 (by first | (simp; done) | omega | (simp; omega))).al a_ρ2 (by first | (simp; done) | omega | (simp; omega))).al a_ρ3 (by first | (simp; done) | omega | (simp; omega))) g_ρ4 (by intro c x y h; omega)).al a_ρ8 (by first | (simp; done) | omega | (simp; omega))).al a_ρ9 (by first | (simp; done) | omega | (simp; omega))) (fun u => fr_zero b_o w5 w6 w7 (by (repeat' split) <;> omega) (by (repeat' split) <;> omega) (by (repeat' split) <;> omega) (by (repeat' split) <;> omega) ⟨by omega, by omega, by omega⟩)
    · refine r_iconst hC dX1_begin_43 rfl ?_
      refine r_istore_n hC dX1_begin_44 rfl ?_
      refine r_iload_n hC dX1_begin_45 rfl ?_
      refine r_iconst hC dX1_begin_46 rfl ?_
      refine r_icmp_ge (tgt := 63) hC dX1_begin_47 rfl (fun h10 => by omega) (fun h10 => ?_)
      refine r_aload_n hC dX1_begin_50 rfl ?_
      refine z_getR hM dX1_begin_51 fl_RX1_24 rfl rfl (vld_of (n := 1) rfl (by omega) (by omega)) ?_
      refine r_iload_n hC dX1_begin_54 rfl ?_
      refine r_iload_n hC dX1_begin_55 rfl ?_
      refine z_iastG hM dX1_begin_56 rfl (by omega) (by omega) (by simp [Tl, DL, DF]) (by first | trivial | (simp only [Okv]; omega) | (simp [Okv]; try omega)) (fun ρ11 a_ρ11 q_ρ11 => ?_)
      refine r_iincE hC (1) dX1_begin_57 rfl rfl (by omega) (by unfold inR; omega) ?_
      refine r_goto (tgt := 45) hC dX1_begin_60 rfl ?_
      refine r_iload_n hC dX1_begin_45 rfl ?_
      refine r_iconst hC dX1_begin_46 rfl ?_
      refine r_icmp_ge (tgt := 63) hC dX1_begin_47 rfl (fun h12 => by omega) (fun h12 => ?_)
      refine r_aload_n hC dX1_begin_50 rfl ?_
      refine z_getR hM dX1_begin_51 fl_RX1_24 rfl rfl (vld_of (n := 1) rfl (by omega) (by omega)) ?_
      refine r_iload_n hC dX1_begin_54 rfl ?_
      refine r_iload_n hC dX1_begin_55 rfl ?_
      refine z_iastG hM dX1_begin_56 rfl (by omega) (by omega) (by simp [Tl, DL, DF]) (by first | trivial | (simp only [Okv]; omega) | (simp [Okv]; try omega)) (fun ρ13 a_ρ13 q_ρ13 => ?_)
      refine r_iincE hC (2) dX1_begin_57 rfl rfl (by omega) (by unfold inR; omega) ?_
      show K _ [_, _, _] _ _
      refine r_goto (tgt := 45) hC dX1_begin_60 rfl ?_
      refine r_iload_n hC dX1_begin_45 rfl ?_
      refine r_iconst hC dX1_begin_46 rfl ?_
      refine r_icmp_ge (tgt := 63) hC dX1_begin_47 rfl (fun h14 => by omega) (fun h14 => ?_)
      refine r_aload_n hC dX1_begin_50 rfl ?_
      refine z_getR hM dX1_begin_51 fl_RX1_24 rfl rfl (vld_of (n := 1) rfl (by omega) (by omega)) ?_
      refine r_iload_n hC dX1_begin_54 rfl ?_
      refine r_iload_n hC dX1_begin_55 rfl ?_
      refine z_iastG hM dX1_begin_56 rfl (by omega) (by omega) (by simp [Tl, DL, DF]) (by first | trivial | (simp only [Okv]; omega) | (simp [Okv]; try omega)) (fun ρ15 a_ρ15 q_ρ15 => ?_)
      refine r_iincE hC (3) dX1_begin_57 rfl rfl (by omega) (by unfold inR; omega) ?_
      refine r_goto (tgt := 45) hC dX1_begin_60 rfl ?_
      refine r_iload_n hC dX1_begin_45 rfl ?_
      refine r_iconst hC dX1_begin_46 rfl ?_
      refine r_icmp_ge (tgt := 63) hC dX1_begin_47 rfl (fun h16 => by omega) (fun h16 => ?_)
      refine r_aload_n hC dX1_begin_50 rfl ?_
      refine z_getR hM dX1_begin_51 fl_RX1_24 rfl rfl (vld_of (n := 1) rfl (by omega) (by omega)) ?_
      refine r_iload_n hC dX1_begin_54 rfl ?_
      refine r_iload_n hC dX1_begin_55 rfl ?_
      refine z_iastG hM dX1_begin_56 rfl (by omega) (by omega) (by simp [Tl, DL, DF]) (by first | trivial | (simp only [Okv]; omega) | (simp [Okv]; try omega)) (fun ρ17 a_ρ17 q_ρ17 => ?_)
      refine r_iincE hC (4) dX1_begin_57 rfl rfl (by omega) (by unfold inR; omega) ?_
      refine r_goto (tgt := 45) hC dX1_begin_60 rfl ?_
      refine r_iload_n hC dX1_begin_45 rfl ?_
      refine r_iconst hC dX1_begin_46 rfl ?_
      refine r_icmp_ge (tgt := 63) hC dX1_begin_47 rfl (fun h18 => ?_) (fun h18 => by omega)
      refine r_goto (tgt := 88) hC dX1_begin_63 rfl ?_
      refine y_vret hK rfl dX1_begin_88 ?_
      have w5 := ((a_ρ17 _ _ _ (by omega)).trans ((a_ρ15 _ _ _ (by omega)).trans ((a_ρ13 _ _ _ (by omega)).trans ((a_ρ11 _ _ _ (by omega)).trans ((g_ρ4 _ _ _ (by omega)).trans ((a_ρ3 _ _ _ (by omega)).trans ((a_ρ2 _ _ _ (by omega)).trans q_ρ1)))))))
      have w6 := ((a_ρ17 _ _ _ (by omega)).trans ((a_ρ15 _ _ _ (by omega)).trans ((a_ρ13 _ _ _ (by omega)).trans ((a_ρ11 _ _ _ (by omega)).trans ((g_ρ4 _ _ _ (by omega)).trans ((a_ρ3 _ _ _ (by omega)).trans q_ρ2))))))
      have w7 := ((a_ρ17 _ _ _ (by omega)).trans ((a_ρ15 _ _ _ (by omega)).trans ((a_ρ13 _ _ _ (by omega)).trans ((a_ρ11 _ _ _ (by omega)).trans ((g_ρ4 _ _ _ (by omega)).trans q_ρ3)))))
      have v0 := ((a_ρ17 _ _ _ (by omega)).trans ((a_ρ15 _ _ _ (by omega)).trans ((a_ρ13 _ _ _ (by omega)).trans q_ρ11)))
      have v1 := ((a_ρ17 _ _ _ (by omega)).trans ((a_ρ15 _ _ _ (by omega)).trans q_ρ13))
      have v2 := ((a_ρ17 _ _ _ (by omega)).trans q_ρ15)
      have v3 := q_ρ17
      have v4 := ((a_ρ17 _ _ _ (by omega)).trans ((a_ρ15 _ _ _ (by omega)).trans ((a_ρ13 _ _ _ (by omega)).trans ((a_ρ11 _ _ _ (by omega)).trans z4_ρ4))))
      have v5 := ((a_ρ17 _ _ _ (by omega)).trans ((a_ρ15 _ _ _ (by omega)).trans ((a_ρ13 _ _ _ (by omega)).trans ((a_ρ11 _ _ _ (by omega)).trans z5_ρ4))))
      have v6 := ((a_ρ17 _ _ _ (by omega)).trans ((a_ρ15 _ _ _ (by omega)).trans ((a_ρ13 _ _ _ (by omega)).trans ((a_ρ11 _ _ _ (by omega)).trans z6_ρ4))))
      exact k _ (((((Gx.gx ((((Gx.rf).al a_ρ1 (by first | (simp; done) | omega | (simp; omega))).al a_ρ2 (by first | (simp; done) | omega | (simp; omega))).al a_ρ3 (by first | (simp; done) | omega | (simp; omega))) g_ρ4 (by intro c x y h; omega)).al a_ρ11 (by first | (simp; done) | omega | (simp; omega))).al a_ρ13 (by first | (simp; done) | omega | (simp; omega))).al a_ρ15 (by first | (simp; done) | omega | (simp; omega))).al a_ρ17 (by first | (simp; done) | omega | (simp; omega))) (fun u => fr_zero b_o w5 w6 w7 (by (repeat' split) <;> omega) (by (repeat' split) <;> omega) (by (repeat' split) <;> omega) (by (repeat' split) <;> omega) ⟨by omega, by omega, by omega⟩)
  · refine r_aload_n hC dX1_begin_28 rfl ?_
    refine z_getR hM dX1_begin_29 fl_RX1_24 rfl rfl (vld_of (n := 1) rfl (by omega) (by omega)) ?_
    refine r_iconst hC dX1_begin_32 rfl ?_
    refine r_iconst hC dX1_begin_33 rfl ?_
    refine z_iastG hM dX1_begin_34 rfl (by omega) (by omega) (by simp [Tl, DL, DF]) (by first | trivial | (simp only [Okv]; omega) | (simp [Okv]; try omega)) (fun ρ19 a_ρ19 q_ρ19 => ?_)
    refine r_goto (tgt := 88) hC dX1_begin_35 rfl ?_
    refine y_vret hK rfl dX1_begin_88 ?_
    have w5 := ((a_ρ19 _ _ _ (by omega)).trans ((g_ρ4 _ _ _ (by omega)).trans ((a_ρ3 _ _ _ (by omega)).trans ((a_ρ2 _ _ _ (by omega)).trans q_ρ1))))
    have w6 := ((a_ρ19 _ _ _ (by omega)).trans ((g_ρ4 _ _ _ (by omega)).trans ((a_ρ3 _ _ _ (by omega)).trans q_ρ2)))
    have w7 := ((a_ρ19 _ _ _ (by omega)).trans ((g_ρ4 _ _ _ (by omega)).trans q_ρ3))
    have v0 := q_ρ19
    have v1 := ((a_ρ19 _ _ _ (by omega)).trans z1_ρ4)
    have v2 := ((a_ρ19 _ _ _ (by omega)).trans z2_ρ4)
    have v3 := ((a_ρ19 _ _ _ (by omega)).trans z3_ρ4)
    have v4 := ((a_ρ19 _ _ _ (by omega)).trans z4_ρ4)
    have v5 := ((a_ρ19 _ _ _ (by omega)).trans z5_ρ4)
    have v6 := ((a_ρ19 _ _ _ (by omega)).trans z6_ρ4)
    exact k _ ((Gx.gx ((((Gx.rf).al a_ρ1 (by first | (simp; done) | omega | (simp; omega))).al a_ρ2 (by first | (simp; done) | omega | (simp; omega))).al a_ρ3 (by first | (simp; done) | omega | (simp; omega))) g_ρ4 (by intro c x y h; omega)).al a_ρ19 (by first | (simp; done) | omega | (simp; omega))) (fun u => fr_zero b_o w5 w6 w7 (by (repeat' split) <;> omega) (by (repeat' split) <;> omega) (by (repeat' split) <;> omega) (by (repeat' split) <;> omega) ⟨by omega, by omega, by omega⟩)
