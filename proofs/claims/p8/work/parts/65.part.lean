-- B: a part of a lane, told whole
theorem at_nat {f : Nat → Int} {a i : Int} {n : Nat} (h : a = f i.toNat) (hi : i = (n : Int)) : a = f n := by
  subst hi
  rw [Int.toNat_natCast] at h
  exact h
theorem FRc.ext {ρ ρ2 : Mm} {o : Int} {u : Int → Int} {n : Nat} (h : FRc ρ o u n) (h14 : ∀ j : Int, j = 5 ∨ j = 6 ∨ j = 7 → ρ2 14 0 j = ρ 14 0 j) (h17 : ∀ j : Int, ρ2 17 0 j = ρ 17 0 j) (h16 : ρ2 16 0 = ρ 16 0) (h15 : ρ2 15 0 = ρ 15 0) : FRc ρ2 o u n := ⟨(h14 5 (by omega)).trans h.1, (h14 6 (by omega)).trans h.2.1, fun q => (h14 7 (by omega)).trans (h.2.2.1 q), fun k h0 h1 => by rw [h17, h16, h15]; exact h.2.2.2 k h0 h1⟩
theorem x_append2 {eb : Bool} {u : Int → Int} {n : Nat} {d : Nat} {P : Option Vl → Mm → Prop} {σ : Mm} {o v : Int} (hv : v = u n) (b_v : -1000 ≤ v ∧ v ≤ 1000) (b_o : 0 ≤ o ∧ o ≤ 9) (hn : n ≤ 242) (hb : Bd u n) (hF : FRc σ o u n) (hcl : ∀ j : Int, 0 ≤ j → j < 16 → 0 ≤ σ 15 0 j ∧ σ 15 0 j ≤ 3) (k : ∀ ρ : Mm, Gx (fun c x y => c = 17 ∧ x = 0 ∨ c = 14 ∧ x = 0 ∧ (y = 6 ∨ y = 7)) σ ρ → FRc ρ o u (n + 1) → P none ρ) : WT (true, true, eb) (d + 3) 14 [vR 14 0, vI v] σ P := by
  subst hv
  exact x_append b_v b_o hF.1 hF.2.1 hn hb hF hcl k
theorem tk17 {e : Ev} (h : e.2.1 = true) (h2 : e.1 = true) {j : Int} : Tk e 17 j := by
  by_cases hj : j = 0
  · exact Or.inr (Or.inr (Or.inl ⟨h, Or.inl hj⟩))
  · exact Or.inr (Or.inr (Or.inl ⟨h, Or.inr ⟨h2, hj⟩⟩))
theorem x_number {eb : Bool} {u : Int → Int} {n : Nat} {d : Nat} {P : Option Vl → Mm → Prop} {σ : Mm} {w o : Int} (b_o : 0 ≤ o ∧ o ≤ 9) (qg0 : σ 14 0 5 = o) (qg1 : σ 14 0 6 = (n : Int)) (hn : n ≤ 242) (hF : FRc σ o u n)  (k : P (some (vI (cm (σ 16 0) (σ 15 0) o u n w))) σ) : WT (true, true, eb) (d + 1) 10 [vR 14 0, vI w] σ P := by
  refine WT_in fun K hK => ?_
  have hK : StpY (true, true, eb) cX1_number RX1 (some .int) (WT (true, true, eb) (d + 0)) P K := hK
  have hM := hK.1
  have hC := hK.1.1
  show K 0 [some (vR 14 0), some (vI w)] [] σ
  refine r_rngz hC (fun g0 => ?_)
  have r_w : -2147483648 ≤ w ∧ w ≤ 2147483647 := inR_le (g0 (vI w) (by simp))
  refine r_aload_n hC dX1_number_0 rfl ?_
  refine z_getI (jz := 6) hM dX1_number_1 fl_RX1_34 rfl rfl rfl (fun v1 h_v1 o_v1 t_v1 => ?_)
  have e_v1 : (n : Int) = v1 := ((t_v1 ((by simp [Tk, Tb, DL, DF, DX]))).trans qg1).symm
  subst e_v1
  refine r_if_eq (tgt := 23) hC dX1_number_4 rfl (fun h2 => ?_) (fun h2 => ?_)
  · refine r_ldc hC dX1_number_23 co_RX1_40 rfl ?_
    refine r_goto (tgt := 34) hC dX1_number_25 rfl ?_
    refine y_iret hK rfl dX1_number_34 ?_
    have e : cm (σ 16 0) (σ 15 0) o u n w = -2147483648 := if_pos (by omega)
    rw [e] at k
    exact k
  · refine r_iload_n hC dX1_number_7 rfl ?_
    refine r_if_lt (tgt := 23) hC dX1_number_8 rfl (fun h3 => ?_) (fun h3 => ?_)
    · refine r_ldc hC dX1_number_23 co_RX1_40 rfl ?_
      refine r_goto (tgt := 34) hC dX1_number_25 rfl ?_
      refine y_iret hK rfl dX1_number_34 ?_
      have e : cm (σ 16 0) (σ 15 0) o u n w = -2147483648 := if_pos (by omega)
      rw [e] at k
      exact k
    · refine r_iload_n hC dX1_number_11 rfl ?_
      refine z_nums hM dX1_number_12 sl_RX1_41 ?_
      refine r_aload_n hC dX1_number_15 rfl ?_
      refine z_getI (jz := 5) hM dX1_number_16 fl_RX1_30 rfl rfl rfl (fun v4 h_v4 o_v4 t_v4 => ?_)
      have e_v4 : o = v4 := ((t_v4 ((by simp [Tk, Tb, DL, DF, DX]))).trans qg0).symm
      subst e_v4
      refine z_nald hM dX1_number_19 (by omega) (by omega) ?_
      have q_v5 := numF_rng o
      refine r_icmp_lt (tgt := 28) hC dX1_number_20 rfl (fun h6 => ?_) (fun h6 => ?_)
      · refine r_aload_n hC dX1_number_28 rfl ?_
        refine z_getR hM dX1_number_29 fl_RX1_24 rfl rfl (vld_of (n := 1) rfl (by omega) (by omega)) ?_
        refine r_iload_n hC dX1_number_32 rfl ?_
        refine z_iald hM dX1_number_33 rfl (by omega) (by omega) (fun v7 h_v7 o_v7 t_v7 => ?_)
        have w_v7 := t_v7 (tk17 rfl rfl)
        subst w_v7
        refine y_iret hK rfl dX1_number_34 ?_
        have e : cm (σ 16 0) (σ 15 0) o u n w = cmN (σ 16 0) (σ 15 0) o u n w := if_neg (by omega)
        rw [e, ← hF.2.2.2 w (by omega) (by omega)] at k
        exact k
      · refine r_ldc hC dX1_number_23 co_RX1_40 rfl ?_
        refine r_goto (tgt := 34) hC dX1_number_25 rfl ?_
        refine y_iret hK rfl dX1_number_34 ?_
        have e : cm (σ 16 0) (σ 15 0) o u n w = -2147483648 := if_pos (by omega)
        rw [e] at k
        exact k
theorem x_foldPart {eb : Bool} {d : Nat} {P : Option Vl → Mm → Prop} {σ : Mm} {i f z : Int} (b_i : 0 ≤ i ∧ i ≤ 6) (b_f : 0 ≤ f ∧ f ≤ 121) (b_z : -2147483648 ≤ z ∧ z ≤ 121)  (k : ∀ ρ : Mm, Gx (fun c x y => c = 17 ∧ x = 0 ∨ c = 14 ∧ x = 0 ∧ (y = 5 ∨ y = 6 ∨ y = 7)) σ ρ → FRc ρ (σ 7 i 2) (fun j => σ 9 i (f + j)) (z - f).toNat → P none ρ) : WT (true, true, eb) (d + 4) 134 [vR 2 0, vR 7 i, vI f, vI z] σ P := by
  refine WT_in fun K hK => ?_
  have hK : StpY (true, true, eb) cX5_foldPart RX5 (none) (WT (true, true, eb) (d + 3)) P K := hK
  have hM := hK.1
  have hC := hK.1.1
  show K 0 [some (vR 2 0), some (vR 7 i), some (vI f), some (vI z), none] [] σ
  refine z_ok hM (fun hok => ?_)
  refine r_aload_n hC dX5_foldPart_0 rfl ?_
  refine z_getR hM dX5_foldPart_1 fl_RX5_40 rfl rfl (vld_of (n := 1) rfl (by omega) (by omega)) ?_
  refine r_aload_n hC dX5_foldPart_4 rfl ?_
  refine z_getI (jz := 2) hM dX5_foldPart_5 fl_RX5_98 rfl rfl rfl (fun v1 h_v1 o_v1 t_v1 => ?_)
  have w_v1 := t_v1 (Or.inl (by simp [Tb]))
  subst w_v1
  have q_v1 : 0 ≤ (σ 7 i 2) ∧ (σ 7 i 2) ≤ 9 := o_v1.2.2 rfl
  refine z_inv1 hM dX5_foldPart_8 vl_RX5_251 rfl rfl rfl (Nat.le_of_ble_eq_true rfl) (Nat.le_of_ble_eq_true rfl) ?_
  refine x_begin (by omega) rfl rfl rfl rfl rfl rfl rfl rfl rfl rfl (fun ρ2 g_ρ2 z_ρ2 => ?_)
  refine r_iload_n hC dX5_foldPart_11 rfl ?_
  refine r_istore hC dX5_foldPart_12 rfl ?_
  have L14 : ∀ (n14 : Nat) (w3 : Int) (ρ4 : Mm), 0 ≤ w3 ∧ w3 ≤ 121 → (f ≤ (w3)) → ((w3) ≤ z ∨ (w3) = f) → 121 - w3 < (n14 : Int) → Gx (fun c x y => c = 17 ∧ x = 0 ∨ c = 14 ∧ x = 0 ∧ (y = 5 ∨ y = 6 ∨ y = 7)) σ ρ4 → (FRc ρ4 (σ 7 i 2) (fun j => σ 9 i (f + j)) ((w3) - f).toNat) → K 14 [some (vR 2 0), some (vR 7 i), some (vI f), some (vI z), some (vI w3)] [] ρ4 := by
    intro n14
    induction n14 with
    | zero => intro w3 ρ4 f_w3 i0_14 i1_14 hm g_ρ4 m0_14; omega
    | succ n14 ih14 =>
      intro w3 ρ4 f_w3 i0_14 i1_14 hm14 g_ρ4 m0_14
      refine r_iload hC dX5_foldPart_14 rfl ?_
      refine r_iload_n hC dX5_foldPart_16 rfl ?_
      refine r_icmp_ge (tgt := 40) hC dX5_foldPart_17 rfl (fun h5 => ?_) (fun h5 => ?_)
      · refine y_vret hK rfl dX5_foldPart_40 ?_
        have h := m0_14
        rw [show (w3 - f).toNat = (z - f).toNat from by omega] at h
        exact k _ (g_ρ4) h
      · refine r_aload_n hC dX5_foldPart_20 rfl ?_
        refine z_getR hM dX5_foldPart_21 fl_RX5_40 rfl rfl (vld_of (n := 1) rfl (by omega) (by omega)) ?_
        refine r_aload_n hC dX5_foldPart_24 rfl ?_
        refine z_getR hM dX5_foldPart_25 fl_RX5_176 rfl rfl (vld_of (n := 7) rfl (by omega) (by omega)) ?_
        refine r_iload hC dX5_foldPart_28 rfl ?_
        refine z_iald hM dX5_foldPart_30 rfl (by omega) (by omega) (fun v6 h_v6 o_v6 t_v6 => ?_)
        have w_v6 := t_v6 (Or.inl trivial)
        subst w_v6
        have q_v6 : -1000 ≤ (ρ4 9 i w3) ∧ (ρ4 9 i w3) ≤ 1000 := o_v6
        refine z_inv1 hM dX5_foldPart_31 vl_RX5_253 rfl rfl rfl (Nat.le_of_ble_eq_true rfl) (Nat.le_of_ble_eq_true rfl) ?_
        refine x_append2 (u := (fun j => σ 9 i (f + j))) (n := (w3 - f).toNat) (by show (ρ4 9 i w3) = σ 9 i (f + ((w3 - f).toNat : Int)); rw [show f + ((w3 - f).toNat : Int) = w3 from by omega]; exact (g_ρ4) 9 i _ (by omega)) (by omega) (by omega) (by omega) (fun j h0 h1 => hok 9 i _ (Or.inl trivial)) m0_14 (fun j h0 h1 => by rw [(g_ρ4) 15 0 j (by omega)]; exact hok 15 0 j (Or.inl trivial)) (fun ρ7 g_ρ7 r_ρ7 => ?_)
        refine r_iincE hC ((w3 + 1)) dX5_foldPart_34 rfl rfl (by omega) (by unfold inR; omega) ?_
        refine r_goto (tgt := 14) hC dX5_foldPart_37 rfl ?_
        exact ih14 ((w3 + 1)) ρ7 (by omega) (by omega) (by omega) (by omega) (Gx.gx (g_ρ4) g_ρ7 (by intro c x y h; omega)) (by rw [show ((w3 + 1) - f).toNat = ((w3 + 1) - 1 - f).toNat + 1 from by omega]; have h := r_ρ7; rw [show (w3 + 1) - 1 = w3 from by omega]; exact h)
  exact L14 123 (f) ρ2 (by omega) (by omega) (by omega) (by omega) (Gx.gx (Gx.rf) g_ρ2 (by intro c x y h; omega)) (by have h := z_ρ2 (fun j => σ 9 i (f + j)); rw [show (f - f).toNat = 0 from by omega]; exact h)
