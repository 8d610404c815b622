-- B: the reference: comes, and its row
theorem y_goThrough {eb : Bool} {n : Nat} {d : Nat} {P : Option Vl → Mm → Prop} {σ : Mm} {o : Int} (b_o : 0 ≤ o ∧ o ≤ 9) (q8 : σ 30 0 8 = (n : Int)) (hn1 : 1 ≤ n) (hn : n ≤ 242) (hb : Bd (σ 37 0) n)  (k : ∀ ρ : Mm, Gx (fun c x y => c = 38 ∧ x = 0) σ ρ → (∀ k : Int, 0 ≤ k → k < numF o → ρ 38 0 k = cmN (σ 36 0) (σ 35 0) o (σ 37 0) n k) → P none ρ) : WT (true, eb, true) (d + 3) 158 [vR 30 0, vI o] σ P := by
  refine WT_in fun K hK => ?_
  have hK : StpY (true, eb, true) cX6_goThrough RX6 (none) (WT (true, eb, true) (d + 2)) P K := hK
  have hM := hK.1
  have hC := hK.1.1
  show K 0 [some (vR 30 0), some (vI o)] [] σ
  refine r_iload_n hC dX6_goThrough_0 rfl ?_
  rcases (by omega : (o < 0 ∨ 8 < o) ∨ o = 0 ∨ o = 1 ∨ o = 2 ∨ o = 3 ∨ o = 4 ∨ o = 5 ∨ o = 6 ∨ o = 7 ∨ o = 8) with h1 | h1 | h1 | h1 | h1 | h1 | h1 | h1 | h1 | h1
  · refine r_tableOut (tgt := 115) hC dX6_goThrough_1 h1 rfl ?_
    refine r_aload_n hC dX6_goThrough_115 rfl ?_
    refine z_inv0 hM dX6_goThrough_116 vl_RX6_157 rfl rfl rfl (Nat.le_of_ble_eq_true rfl) (Nat.le_of_ble_eq_true rfl) ?_
    have hk_ : o = 9 := by omega
    refine y_multiply (n := n) (t0 := σ 38 0 0) q8 rfl hn1 hn (fun ρ2 g_ρ2 e0 => ?_)
    have hall : ∀ k : Int, 0 ≤ k → k < numF o → ρ2 38 0 k = cmN (σ 36 0) (σ 35 0) o (σ 37 0) n k := by
      rw [hk_]
      intro k h0 h1
      have hN : numF 9 = 1 := rfl
      rw [hN] at h1
      rcases (by omega : k = 0) with rfl
      · exact e0
    refine y_vret hK rfl dX6_goThrough_119 ?_
    exact k _ g_ρ2 hall
  · refine r_tableIn (tgt := 52) (off := 51) hC dX6_goThrough_1 (by omega) (by omega) (by rw [h1]; rfl) rfl ?_
    refine r_aload_n hC dX6_goThrough_52 rfl ?_
    refine z_inv0 hM dX6_goThrough_53 vl_RX6_130 rfl rfl rfl (Nat.le_of_ble_eq_true rfl) (Nat.le_of_ble_eq_true rfl) ?_
    have hk_ : o = 0 := h1
    refine y_greatest (n := n) (t0 := σ 38 0 0) (t1 := σ 38 0 1) (t2 := σ 38 0 2) (t3 := σ 38 0 3) q8 rfl rfl rfl rfl hn1 hn (fun ρ3 g_ρ3 e0 e1 e2 e3 => ?_)
    have hall : ∀ k : Int, 0 ≤ k → k < numF o → ρ3 38 0 k = cmN (σ 36 0) (σ 35 0) o (σ 37 0) n k := by
      rw [hk_]
      intro k h0 h1
      have hN : numF 0 = 4 := rfl
      rw [hN] at h1
      rcases (by omega : k = 0 ∨ k = 1 ∨ k = 2 ∨ k = 3) with rfl | rfl | rfl | rfl
      · exact e0
      · exact e1
      · exact e2
      · exact e3
    refine r_goto (tgt := 119) hC dX6_goThrough_56 rfl ?_
    refine y_vret hK rfl dX6_goThrough_119 ?_
    exact k _ g_ρ3 hall
  · refine r_tableIn (tgt := 59) (off := 58) hC dX6_goThrough_1 (by omega) (by omega) (by rw [h1]; rfl) rfl ?_
    refine r_aload_n hC dX6_goThrough_59 rfl ?_
    refine z_inv0 hM dX6_goThrough_60 vl_RX6_133 rfl rfl rfl (Nat.le_of_ble_eq_true rfl) (Nat.le_of_ble_eq_true rfl) ?_
    have hk_ : o = 1 := h1
    refine y_share (n := n) (t0 := σ 38 0 0) (t1 := σ 38 0 1) q8 rfl rfl hn1 hn hb (fun ρ4 g_ρ4 e0 e1 => ?_)
    have hall : ∀ k : Int, 0 ≤ k → k < numF o → ρ4 38 0 k = cmN (σ 36 0) (σ 35 0) o (σ 37 0) n k := by
      rw [hk_]
      intro k h0 h1
      have hN : numF 1 = 2 := rfl
      rw [hN] at h1
      rcases (by omega : k = 0 ∨ k = 1) with rfl | rfl
      · exact e0
      · exact e1
    refine r_goto (tgt := 119) hC dX6_goThrough_63 rfl ?_
    refine y_vret hK rfl dX6_goThrough_119 ?_
    exact k _ g_ρ4 hall
  · refine r_tableIn (tgt := 66) (off := 65) hC dX6_goThrough_1 (by omega) (by omega) (by rw [h1]; rfl) rfl ?_
    refine r_aload_n hC dX6_goThrough_66 rfl ?_
    refine z_inv0 hM dX6_goThrough_67 vl_RX6_136 rfl rfl rfl (Nat.le_of_ble_eq_true rfl) (Nat.le_of_ble_eq_true rfl) ?_
    have hk_ : o = 2 := h1
    refine y_line (n := n) (t0 := σ 38 0 0) (t1 := σ 38 0 1) q8 rfl rfl hn1 hn hb (fun ρ5 g_ρ5 e0 e1 => ?_)
    have hall : ∀ k : Int, 0 ≤ k → k < numF o → ρ5 38 0 k = cmN (σ 36 0) (σ 35 0) o (σ 37 0) n k := by
      rw [hk_]
      intro k h0 h1
      have hN : numF 2 = 2 := rfl
      rw [hN] at h1
      rcases (by omega : k = 0 ∨ k = 1) with rfl | rfl
      · exact e0
      · exact e1
    refine r_goto (tgt := 119) hC dX6_goThrough_70 rfl ?_
    refine y_vret hK rfl dX6_goThrough_119 ?_
    exact k _ g_ρ5 hall
  · refine r_tableIn (tgt := 73) (off := 72) hC dX6_goThrough_1 (by omega) (by omega) (by rw [h1]; rfl) rfl ?_
    refine r_aload_n hC dX6_goThrough_73 rfl ?_
    refine z_inv0 hM dX6_goThrough_74 vl_RX6_139 rfl rfl rfl (Nat.le_of_ble_eq_true rfl) (Nat.le_of_ble_eq_true rfl) ?_
    have hk_ : o = 3 := h1
    refine y_run (n := n) (t0 := σ 38 0 0) (t1 := σ 38 0 1) (t2 := σ 38 0 2) (t3 := σ 38 0 3) q8 rfl rfl rfl rfl hn1 hn hb (fun ρ6 g_ρ6 e0 e1 e2 e3 => ?_)
    have hall : ∀ k : Int, 0 ≤ k → k < numF o → ρ6 38 0 k = cmN (σ 36 0) (σ 35 0) o (σ 37 0) n k := by
      rw [hk_]
      intro k h0 h1
      have hN : numF 3 = 4 := rfl
      rw [hN] at h1
      rcases (by omega : k = 0 ∨ k = 1 ∨ k = 2 ∨ k = 3) with rfl | rfl | rfl | rfl
      · exact e0
      · exact e1
      · exact e2
      · exact e3
    refine r_goto (tgt := 119) hC dX6_goThrough_77 rfl ?_
    refine y_vret hK rfl dX6_goThrough_119 ?_
    exact k _ g_ρ6 hall
  · refine r_tableIn (tgt := 80) (off := 79) hC dX6_goThrough_1 (by omega) (by omega) (by rw [h1]; rfl) rfl ?_
    refine r_aload_n hC dX6_goThrough_80 rfl ?_
    refine z_inv0 hM dX6_goThrough_81 vl_RX6_142 rfl rfl rfl (Nat.le_of_ble_eq_true rfl) (Nat.le_of_ble_eq_true rfl) ?_
    have hk_ : o = 4 := h1
    refine y_send (n := n) (t0 := σ 38 0 0) (t1 := σ 38 0 1) (t2 := σ 38 0 2) (t3 := σ 38 0 3) (t4 := σ 38 0 4) q8 rfl rfl rfl rfl rfl hn1 hn (fun ρ7 g_ρ7 e0 e1 e2 e3 e4 => ?_)
    have hall : ∀ k : Int, 0 ≤ k → k < numF o → ρ7 38 0 k = cmN (σ 36 0) (σ 35 0) o (σ 37 0) n k := by
      rw [hk_]
      intro k h0 h1
      have hN : numF 4 = 5 := rfl
      rw [hN] at h1
      rcases (by omega : k = 0 ∨ k = 1 ∨ k = 2 ∨ k = 3 ∨ k = 4) with rfl | rfl | rfl | rfl | rfl
      · exact e0
      · exact e1
      · exact e2
      · exact e3
      · exact e4.trans (if_neg (show ¬ n = 0 by omega)).symm
    refine r_goto (tgt := 119) hC dX6_goThrough_84 rfl ?_
    refine y_vret hK rfl dX6_goThrough_119 ?_
    exact k _ g_ρ7 hall
  · refine r_tableIn (tgt := 87) (off := 86) hC dX6_goThrough_1 (by omega) (by omega) (by rw [h1]; rfl) rfl ?_
    refine r_aload_n hC dX6_goThrough_87 rfl ?_
    refine z_inv0 hM dX6_goThrough_88 vl_RX6_145 rfl rfl rfl (Nat.le_of_ble_eq_true rfl) (Nat.le_of_ble_eq_true rfl) ?_
    have hk_ : o = 5 := h1
    refine y_nest (n := n) (t0 := σ 38 0 0) (t1 := σ 38 0 1) (t2 := σ 38 0 2) (t3 := σ 38 0 3) q8 rfl rfl rfl rfl hn1 hn (fun ρ8 g_ρ8 e0 e1 e2 e3 => ?_)
    have hall : ∀ k : Int, 0 ≤ k → k < numF o → ρ8 38 0 k = cmN (σ 36 0) (σ 35 0) o (σ 37 0) n k := by
      rw [hk_]
      intro k h0 h1
      have hN : numF 5 = 4 := rfl
      rw [hN] at h1
      rcases (by omega : k = 0 ∨ k = 1 ∨ k = 2 ∨ k = 3) with rfl | rfl | rfl | rfl
      · exact e0
      · exact e1
      · exact e2
      · exact e3
    refine r_goto (tgt := 119) hC dX6_goThrough_91 rfl ?_
    refine y_vret hK rfl dX6_goThrough_119 ?_
    exact k _ g_ρ8 hall
  · refine r_tableIn (tgt := 94) (off := 93) hC dX6_goThrough_1 (by omega) (by omega) (by rw [h1]; rfl) rfl ?_
    refine r_aload_n hC dX6_goThrough_94 rfl ?_
    refine z_inv0 hM dX6_goThrough_95 vl_RX6_148 rfl rfl rfl (Nat.le_of_ble_eq_true rfl) (Nat.le_of_ble_eq_true rfl) ?_
    have hk_ : o = 6 := h1
    refine y_like (n := n) (t0 := σ 38 0 0) (t1 := σ 38 0 1) (t2 := σ 38 0 2) (t3 := σ 38 0 3) (t4 := σ 38 0 4) (t5 := σ 38 0 5) (t6 := σ 38 0 6) q8 rfl rfl rfl rfl rfl rfl rfl hn1 hn (fun ρ9 g_ρ9 e0 e1 e2 e3 e4 e5 e6 => ?_)
    have hall : ∀ k : Int, 0 ≤ k → k < numF o → ρ9 38 0 k = cmN (σ 36 0) (σ 35 0) o (σ 37 0) n k := by
      rw [hk_]
      intro k h0 h1
      have hN : numF 6 = 7 := rfl
      rw [hN] at h1
      rcases (by omega : k = 0 ∨ k = 1 ∨ k = 2 ∨ k = 3 ∨ k = 4 ∨ k = 5 ∨ k = 6) with rfl | rfl | rfl | rfl | rfl | rfl | rfl
      · exact e0
      · exact e1
      · exact e2
      · exact e3
      · exact e4
      · exact e5.trans (if_neg (show ¬ n = 0 by omega)).symm
      · exact e6.trans (if_neg (show ¬ n = 0 by omega)).symm
    refine r_goto (tgt := 119) hC dX6_goThrough_98 rfl ?_
    refine y_vret hK rfl dX6_goThrough_119 ?_
    exact k _ g_ρ9 hall
  · refine r_tableIn (tgt := 101) (off := 100) hC dX6_goThrough_1 (by omega) (by omega) (by rw [h1]; rfl) rfl ?_
    refine r_aload_n hC dX6_goThrough_101 rfl ?_
    refine z_inv0 hM dX6_goThrough_102 vl_RX6_151 rfl rfl rfl (Nat.le_of_ble_eq_true rfl) (Nat.le_of_ble_eq_true rfl) ?_
    have hk_ : o = 7 := h1
    refine y_steps (n := n) (t0 := σ 38 0 0) (t1 := σ 38 0 1) (t2 := σ 38 0 2) (t3 := σ 38 0 3) (t4 := σ 38 0 4) q8 rfl rfl rfl rfl rfl hn1 hn (fun ρ10 g_ρ10 e0 e1 e2 e3 e4 => ?_)
    have hall : ∀ k : Int, 0 ≤ k → k < numF o → ρ10 38 0 k = cmN (σ 36 0) (σ 35 0) o (σ 37 0) n k := by
      rw [hk_]
      intro k h0 h1
      have hN : numF 7 = 5 := rfl
      rw [hN] at h1
      rcases (by omega : k = 0 ∨ k = 1 ∨ k = 2 ∨ k = 3 ∨ k = 4) with rfl | rfl | rfl | rfl | rfl
      · exact e0
      · exact e1
      · exact e2.trans (if_neg (show ¬ n = 0 by omega)).symm
      · exact e3.trans (if_neg (show ¬ n = 0 by omega)).symm
      · exact e4
    refine r_goto (tgt := 119) hC dX6_goThrough_105 rfl ?_
    refine y_vret hK rfl dX6_goThrough_119 ?_
    exact k _ g_ρ10 hall
  · refine r_tableIn (tgt := 108) (off := 107) hC dX6_goThrough_1 (by omega) (by omega) (by rw [h1]; rfl) rfl ?_
    refine r_aload_n hC dX6_goThrough_108 rfl ?_
    refine z_inv0 hM dX6_goThrough_109 vl_RX6_154 rfl rfl rfl (Nat.le_of_ble_eq_true rfl) (Nat.le_of_ble_eq_true rfl) ?_
    have hk_ : o = 8 := h1
    refine y_spread (n := n) (t0 := σ 38 0 0) (t1 := σ 38 0 1) (t2 := σ 38 0 2) q8 rfl rfl rfl hn1 hn (fun ρ11 g_ρ11 e0 e1 e2 => ?_)
    have hall : ∀ k : Int, 0 ≤ k → k < numF o → ρ11 38 0 k = cmN (σ 36 0) (σ 35 0) o (σ 37 0) n k := by
      rw [hk_]
      intro k h0 h1
      have hN : numF 8 = 3 := rfl
      rw [hN] at h1
      rcases (by omega : k = 0 ∨ k = 1 ∨ k = 2) with rfl | rfl | rfl
      · exact e0
      · exact e1
      · exact e2
    refine r_goto (tgt := 119) hC dX6_goThrough_112 rfl ?_
    refine y_vret hK rfl dX6_goThrough_119 ?_
    exact k _ g_ρ11 hall
def RWP (ρ : Mm) (u : Int → Int) (n : Nat) : Prop := ρ 30 0 8 = (n : Int) ∧ ∀ j : Int, 0 ≤ j → j < (n : Int) → ρ 37 0 j = u j
theorem RWP.nil {ρ : Mm} {u : Int → Int} (h : ρ 30 0 8 = 0) : RWP ρ u 0 := ⟨h, fun j h0 h1 => by omega⟩
theorem RWP.ext {ρ ρ2 : Mm} {u : Int → Int} {n : Nat} (h : RWP ρ u n) (h8 : ρ2 30 0 8 = ρ 30 0 8) (h37 : ∀ j : Int, ρ2 37 0 j = ρ 37 0 j) : RWP ρ2 u n := ⟨h8.trans h.1, fun j a b => (h37 j).trans (h.2 j a b)⟩
theorem RWP.cg {ρ : Mm} {u v : Int → Int} {n : Nat} (h : RWP ρ u n) (e : ∀ j : Int, 0 ≤ j → j < (n : Int) → u j = v j) : RWP ρ v n := ⟨h.1, fun j a b => (h.2 j a b).trans (e j a b)⟩
theorem Bd.cg {u v : Int → Int} {n : Nat} (h : Bd u n) (e : ∀ j : Int, 0 ≤ j → j < (n : Int) → v j = u j) : Bd v n := fun j a b => by rw [e j a b]; exact h j a b
theorem y_comes {eb : Bool} {n : Nat} {u : Int → Int} {d : Nat} {P : Option Vl → Mm → Prop} {σ : Mm} {o w : Int} (b_o : 0 ≤ o ∧ o ≤ 9) (b_w : 0 ≤ w ∧ w ≤ 6) (hw : w < numF o) (hn : n ≤ 242) (hR : RWP σ u n) (hb : Bd u n)  (k : ∀ ρ : Mm, Gx (fun c x y => c = 38 ∧ x = 0) σ ρ → P (some (vI ((cm (σ 36 0) (σ 35 0) o u n w)))) ρ) : WT (true, eb, true) (d + 4) 159 [vR 30 0, vI o, vI w] σ P := by
  refine WT_in fun K hK => ?_
  have hK : StpY (true, eb, true) cX6_comes RX6 (some .int) (WT (true, eb, true) (d + 3)) P K := hK
  have hM := hK.1
  have hC := hK.1.1
  show K 0 [some (vR 30 0), some (vI o), some (vI w)] [] σ
  refine r_aload_n hC dX6_comes_0 rfl ?_
  refine z_getI (jz := 8) hM dX6_comes_1 fl_RX6_105 rfl rfl rfl (fun v1 h_v1 o_v1 t_v1 => ?_)
  have w_v1 := ((t_v1 (Or.inr (Or.inr (Or.inr ⟨rfl, rfl⟩)))).trans (rfl)).symm
  subst w_v1
  have q_v1 : 0 ≤ (σ 30 0 8) ∧ (σ 30 0 8) ≤ 242 := o_v1 rfl
  refine r_if_ne (tgt := 10) hC dX6_comes_4 rfl (fun h2 => ?_) (fun h2 => ?_)
  · refine r_aload_n hC dX6_comes_10 rfl ?_
    refine r_iload_n hC dX6_comes_11 rfl ?_
    refine z_inv1 hM dX6_comes_12 vl_RX6_161 rfl rfl rfl (Nat.le_of_ble_eq_true rfl) (Nat.le_of_ble_eq_true rfl) ?_
    have hbu : Bd (σ 37 0) n := hb.cg hR.2
    refine y_goThrough (by omega) hR.1 (by have := hR.1; omega) hn hbu (fun ρ3 g_ρ3 c_ρ3 => ?_)
    refine r_aload_n hC dX6_comes_15 rfl ?_
    refine z_getR hM dX6_comes_16 fl_RX6_31 rfl rfl (vld_of (n := 1) rfl (by omega) (by omega)) ?_
    refine r_iload_n hC dX6_comes_19 rfl ?_
    refine z_iald hM dX6_comes_20 rfl (by omega) (by omega) (fun v4 h_v4 o_v4 t_v4 => ?_)
    have w_v4 := ((t_v4 (Or.inr (Or.inr (Or.inr ⟨rfl, by first | exact True.intro | exact (rfl : true = true)⟩)))).trans (rfl)).symm
    subst w_v4
    refine y_iret hK rfl dX6_comes_21 ?_
    have e : (cm (σ 36 0) (σ 35 0) o u n w) = (ρ3 38 0 w) := by
      rw [c_ρ3 w (by omega) (by omega)]
      exact (if_neg (by have := hR.1; omega)).trans (cmN_c (fun j a b => (hR.2 j a b).symm))
    rw [e] at k
    exact k _ g_ρ3
  · refine r_ldc hC dX6_comes_7 co_RX6_160 rfl ?_
    refine y_iret hK rfl dX6_comes_9 ?_
    have e : (cm (σ 36 0) (σ 35 0) o u n w) = -2147483648 := if_pos (Or.inl (by have := hR.1; omega))
    rw [e] at k
    exact k σ Gx.rf
theorem y_clearRow {eb : Bool} {d : Nat} {P : Option Vl → Mm → Prop} {σ : Mm}   (k : P none (mu σ 30 0 8 0)) : WT (true, eb, true) (d + 1) 152 [vR 30 0] σ P := by
  refine WT_in fun K hK => ?_
  have hK : StpY (true, eb, true) cX6_clearRow RX6 (none) (WT (true, eb, true) (d + 0)) P K := hK
  have hM := hK.1
  have hC := hK.1.1
  show K 0 [some (vR 30 0)] [] σ
  refine r_aload_n hC dX6_clearRow_0 rfl ?_
  refine r_iconst hC dX6_clearRow_1 rfl ?_
  refine z_putIT (jz := 8) hM dX6_clearRow_2 fw_RX6_105 rfl rfl rfl ⟨Or.inr (by simp [DL]), Or.inr (by simp [DF])⟩ (by first | trivial | (simp only [Okv]; omega) | (simp [Okv]; try omega)) ?_
  refine y_vret hK rfl dX6_clearRow_5 ?_
  exact k
theorem y_put {eb : Bool} {n : Nat} {u : Int → Int} {d : Nat} {P : Option Vl → Mm → Prop} {σ : Mm} {v : Int}  (hn : n ≤ 241) (hR : RWP σ u n) (hv : v = u n)  (k : ∀ ρ : Mm, Gx (fun c x y => c = 30 ∧ x = 0 ∧ y = 8 ∨ c = 37 ∧ x = 0) σ ρ → RWP ρ u (n + 1) → P none ρ) : WT (true, eb, true) (d + 1) 153 [vR 30 0, vI v] σ P := by
  refine WT_in fun K hK => ?_
  have hK : StpY (true, eb, true) cX6_put RX6 (none) (WT (true, eb, true) (d + 0)) P K := hK
  have hM := hK.1
  have hC := hK.1.1
  show K 0 [some (vR 30 0), some (vI v)] [] σ
  refine r_rngz hC (fun g0 => ?_)
  have r_v : -2147483648 ≤ v ∧ v ≤ 2147483647 := inR_le (g0 (vI v) (by simp))
  have h8 := hR.1
  refine r_aload_n hC dX6_put_0 rfl ?_
  refine z_getR hM dX6_put_1 fl_RX6_28 rfl rfl (vld_of (n := 1) rfl (by omega) (by omega)) ?_
  refine r_aload_n hC dX6_put_4 rfl ?_
  refine z_getI (jz := 8) hM dX6_put_5 fl_RX6_105 rfl rfl rfl (fun v1 h_v1 o_v1 t_v1 => ?_)
  have w_v1 := ((t_v1 (Or.inr (Or.inr (Or.inr ⟨rfl, rfl⟩)))).trans (rfl)).symm
  subst w_v1
  have q_v1 : 0 ≤ (σ 30 0 8) ∧ (σ 30 0 8) ≤ 242 := o_v1 rfl
  refine r_iload_n hC dX6_put_8 rfl ?_
  refine z_iastT hM dX6_put_9 rfl (by omega) (by omega) ⟨Or.inr (by simp [DL]), Or.inr (by simp [DF])⟩ (by first | trivial | (simp only [Okv]; omega) | (simp [Okv]; try omega)) ?_
  refine r_aload_n hC dX6_put_10 rfl ?_
  refine r_dup hC dX6_put_11 rfl ?_
  refine z_getI (jz := 8) hM dX6_put_12 fl_RX6_105 rfl rfl rfl (fun v2 h_v2 o_v2 t_v2 => ?_)
  have w_v2 := ((t_v2 (Or.inr (Or.inr (Or.inr ⟨rfl, rfl⟩)))).trans ((mu_ne (by omega)).trans (rfl))).symm
  subst w_v2
  have q_v2 : 0 ≤ (σ 30 0 8) ∧ (σ 30 0 8) ≤ 242 := o_v2 rfl
  refine r_iconst hC dX6_put_15 rfl ?_
  refine r_iaddE hC (((σ 30 0 8) + 1)) dX6_put_16 (by omega) (by unfold inR; omega) ?_
  refine z_putIT (jz := 8) hM dX6_put_17 fw_RX6_105 rfl rfl rfl ⟨Or.inr (by simp [DL]), Or.inr (by simp [DF])⟩ (by first | trivial | (simp only [Okv]; omega) | (simp [Okv]; try omega)) ?_
  refine y_vret hK rfl dX6_put_20 ?_
  refine k _ (fun c x y h => (mu_ne (by omega)).trans (mu_ne (by omega))) ⟨(mu_self _ _ _ _ _).trans (by omega), fun j a b => (mu_ne (by omega)).trans ?_⟩
  by_cases hj : j = σ 30 0 8
  · subst hj
    rw [mu_self, hv, h8]
  · rw [mu_ne (by omega)]
    exact hR.2 j a (by omega)
theorem y_putFrom {eb : Bool} {n : Nat} {u : Int → Int} {d : Nat} {P : Option Vl → Mm → Prop} {σ : Mm} {l f z : Int} (b_l : 0 ≤ l ∧ l ≤ 7) (b_f : 0 ≤ f ∧ f ≤ 121) (b_z : -2147483648 ≤ z ∧ z ≤ 120) (hn : (n : Int) ≤ 242) (hz : f ≤ z → (n : Int) + (z + 1 - f) ≤ 242) (hR : RWP σ u n) (hu : ∀ j : Int, f ≤ j → j ≤ z → u ((n : Int) + (j - f)) = σ 33 0 (121 * l + j))  (k : ∀ ρ : Mm, Gx (fun c x y => c = 30 ∧ x = 0 ∧ y = 8 ∨ c = 37 ∧ x = 0) σ ρ → RWP ρ u (n + (z + 1 - f).toNat) → P none ρ) : WT (true, eb, true) (d + 2) 154 [vR 30 0, vI l, vI f, vI z] σ P := by
  refine WT_in fun K hK => ?_
  have hK : StpY (true, eb, true) cX6_putFrom RX6 (none) (WT (true, eb, true) (d + 1)) P K := hK
  have hM := hK.1
  have hC := hK.1.1
  show K 0 [some (vR 30 0), some (vI l), some (vI f), some (vI z), none] [] σ
  refine r_iload_n hC dX6_putFrom_0 rfl ?_
  refine r_istore hC dX6_putFrom_1 rfl ?_
  have L3 : ∀ (n3 : Nat) (w1 : Int) (ρ2 : Mm), 0 ≤ w1 ∧ w1 ≤ 121 → (f ≤ (w1)) → ((w1) ≤ z + 1 ∨ (w1) = f) → 121 - w1 < (n3 : Int) → (Gx (fun c x y => c = 30 ∧ x = 0 ∧ y = 8 ∨ c = 37 ∧ x = 0) σ ρ2) → (RWP ρ2 u (n + ((w1) - f).toNat)) → K 3 [some (vR 30 0), some (vI l), some (vI f), some (vI z), some (vI w1)] [] ρ2 := by
    intro n3
    induction n3 with
    | zero => intro w1 ρ2 f_w1 i0_3 i1_3 hm  m0_3 m1_3; omega
    | succ n3 ih3 =>
      intro w1 ρ2 f_w1 i0_3 i1_3 hm3  m0_3 m1_3
      refine r_iload hC dX6_putFrom_3 rfl ?_
      refine r_iload_n hC dX6_putFrom_5 rfl ?_
      refine r_icmp_gt (tgt := 31) hC dX6_putFrom_6 rfl (fun h3 => ?_) (fun h3 => ?_)
      · refine y_vret hK rfl dX6_putFrom_31 ?_
        exact k _ m0_3 (by have h := m1_3; rw [show (w1 - f).toNat = (z + 1 - f).toNat from by omega] at h; exact h)
      · refine r_aload_n hC dX6_putFrom_9 rfl ?_
        refine r_aload_n hC dX6_putFrom_10 rfl ?_
        refine z_getR hM dX6_putFrom_11 fl_RX6_16 rfl rfl (vld_of (n := 1) rfl (by omega) (by omega)) ?_
        refine r_bipush hC dX6_putFrom_14 rfl ?_
        refine r_iload_n hC dX6_putFrom_16 rfl ?_
        refine r_imulE hC ((121 * l)) dX6_putFrom_17 (by omega) (by unfold inR; omega) ?_
        refine r_iload hC dX6_putFrom_18 rfl ?_
        refine r_iaddE hC (((121 * l) + w1)) dX6_putFrom_20 (by omega) (by unfold inR; omega) ?_
        refine z_iald hM dX6_putFrom_21 rfl (by omega) (by omega) (fun v4 h_v4 o_v4 t_v4 => ?_)
        have w_v4 := ((t_v4 (Or.inl trivial)).trans (rfl)).symm
        subst w_v4
        refine z_inv1 hM dX6_putFrom_22 vl_RX6_109 rfl rfl rfl (Nat.le_of_ble_eq_true rfl) (Nat.le_of_ble_eq_true rfl) ?_
        refine y_put (n := (n + (w1 - f).toNat)) (u := u) (by omega) m1_3 (by rw [show (((n + (w1 - f).toNat) : Nat) : Int) = (n : Int) + (w1 - f) from by omega, hu w1 (by omega) (by omega)]; exact m0_3 33 0 _ (by omega)) (fun ρ5 g_ρ5 r_ρ5 => ?_)
        refine r_iincE hC ((w1 + 1)) dX6_putFrom_25 rfl rfl (by omega) (by unfold inR; omega) ?_
        refine r_goto (tgt := 3) hC dX6_putFrom_28 rfl ?_
        exact ih3 ((w1 + 1)) ρ5 (by omega) (by omega) (by omega) (by omega)  (Gx.gx m0_3 g_ρ5 (fun _ _ _ h => h)) (by rw [show n + ((w1 + 1) - f).toNat = n + (w1 - f).toNat + 1 from by omega]; exact r_ρ5)
  exact L3 123 (f) σ (by omega) (by omega) (by omega) (by omega)  (Gx.rf) (by rw [show n + (f - f).toNat = n from by omega]; exact hR)
