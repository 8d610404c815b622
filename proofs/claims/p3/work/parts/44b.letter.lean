-- letter, told whole
theorem s_letterX {e : Ev} {d : Nat} {P : Option Vl → Mm → Prop} {σ : Mm} {l z : Int}   (k1 : 0 ≤ l ∧ l ≤ 7 ∧ 0 ≤ z ∧ z ≤ 255 → ¬ (∃ i : Int, 0 ≤ i ∧ i ≤ 6 ∧ σ 7 i 1 = 1 ∧ σ 7 i 2 = 4) → P (some (vI 1)) σ) (k0 : ¬ (0 ≤ l ∧ l ≤ 7 ∧ 0 ≤ z ∧ z ≤ 255) → P (some (vI 0)) σ) (kE : (∃ i : Int, 0 ≤ i ∧ i ≤ 6 ∧ σ 7 i 1 = 1 ∧ σ 7 i 2 = 4) → P (some (vI 0)) σ) : WT e (d + 2) 48 [vR 2 0, vI l, vI z] σ P := by
  refine WT_in fun K hK => ?_
  have hK : StpY e cX5_letter RX5 (some .boolean) (WT e (d + 1)) P K := hK
  have hM := hK.1
  have hC := hK.1.1
  show K 0 [some (vR 2 0), some (vI l), some (vI z)] [] σ
  refine r_rngz hC (fun g0 => ?_)
  have r_l : -2147483648 ≤ l ∧ l ≤ 2147483647 := inR_le (g0 (vI l) (by simp))
  have r_z : -2147483648 ≤ z ∧ z ≤ 2147483647 := inR_le (g0 (vI z) (by simp))
  refine r_iload_n hC dX5_letter_0 rfl ?_
  refine r_iconst hC dX5_letter_1 rfl ?_
  refine r_bipush hC dX5_letter_2 rfl ?_
  refine z_ins3 hM dX5_letter_4 tl_RX5_59 rfl (Nat.le_of_ble_eq_true rfl) (Nat.le_of_ble_eq_true rfl) ?_
  refine s_within (fun h2 => ?_) (fun h2 => ?_)
  · refine r_if_eq (tgt := 29) hC dX5_letter_7 rfl (fun h3 => by omega) (fun h3 => ?_)
    refine r_iload_n hC dX5_letter_10 rfl ?_
    refine r_iconst hC dX5_letter_11 rfl ?_
    refine r_sipush hC dX5_letter_12 rfl ?_
    refine z_ins3 hM dX5_letter_15 tl_RX5_59 rfl (Nat.le_of_ble_eq_true rfl) (Nat.le_of_ble_eq_true rfl) ?_
    refine s_within (fun h5 => ?_) (fun h5 => ?_)
    · refine r_if_eq (tgt := 29) hC dX5_letter_18 rfl (fun h6 => by omega) (fun h6 => ?_)
      refine r_aload_n hC dX5_letter_21 rfl ?_
      refine r_iconst hC dX5_letter_22 rfl ?_
      refine z_inv1 hM dX5_letter_23 vl_RX5_63 rfl rfl rfl (Nat.le_of_ble_eq_true rfl) (Nat.le_of_ble_eq_true rfl) ?_
      refine s_isUsedX (fun h7 => ?_) (fun h7 => ?_)
      · refine r_if_eq (tgt := 31) hC dX5_letter_26 rfl (fun h8 => by omega) (fun h8 => ?_)
        refine r_iconst hC dX5_letter_29 rfl ?_
        refine y_zret hK rfl dX5_letter_30 (by omega) ?_
        first | exact k0 (by omega) | exact kE (by assumption)
      · refine r_if_eq (tgt := 31) hC dX5_letter_26 rfl (fun h9 => ?_) (fun h9 => by omega)
        refine r_aload_n hC dX5_letter_31 rfl ?_
        refine z_getR hM dX5_letter_32 fl_RX5_40 rfl rfl (vld_of (n := 1) rfl (by omega) (by omega)) ?_
        refine z_getR hM dX5_letter_35 fl_RX5_71 rfl rfl (vld_of (n := 1) rfl (by omega) (by omega)) ?_
        refine r_iload_n hC dX5_letter_38 rfl ?_
        refine r_iload_n hC dX5_letter_39 rfl ?_
        refine z_iastU hM dX5_letter_40 rfl (by omega) (by omega) (by simp [Un, Tb, DL, DF, DR]) (by simp [Okv]) ?_
        refine r_iconst hC dX5_letter_41 rfl ?_
        refine y_zret hK rfl dX5_letter_42 (by omega) ?_
        exact k1 (by omega) (by assumption)
    · refine r_if_eq (tgt := 29) hC dX5_letter_18 rfl (fun h10 => ?_) (fun h10 => by omega)
      refine r_iconst hC dX5_letter_29 rfl ?_
      refine y_zret hK rfl dX5_letter_30 (by omega) ?_
      first | exact k0 (by omega) | exact kE (by assumption)
  · refine r_if_eq (tgt := 29) hC dX5_letter_7 rfl (fun h11 => ?_) (fun h11 => by omega)
    refine r_iconst hC dX5_letter_29 rfl ?_
    refine y_zret hK rfl dX5_letter_30 (by omega) ?_
    first | exact k0 (by omega) | exact kE (by assumption)
theorem m_letterX {e : Ev} {d : Nat} {P : Option Vl → Mm → Prop} {σ : Mm} {l z : Int}   (k1 : 0 ≤ l ∧ l ≤ 7 ∧ 0 ≤ z ∧ z ≤ 255 → ¬ (∃ i : Int, 0 ≤ i ∧ i ≤ 6 ∧ σ 31 0 (22 * i + 0) = 1 ∧ σ 31 0 (22 * i + 1) = 4) → P (some (vI 1)) σ) (k0 : ¬ (0 ≤ l ∧ l ≤ 7 ∧ 0 ≤ z ∧ z ≤ 255) → P (some (vI 0)) σ) (kE : (∃ i : Int, 0 ≤ i ∧ i ≤ 6 ∧ σ 31 0 (22 * i + 0) = 1 ∧ σ 31 0 (22 * i + 1) = 4) → P (some (vI 0)) σ) : WT e (d + 3) 144 [vR 30 0, vI l, vI z] σ P := by
  refine WT_in fun K hK => ?_
  have hK : StpY e cX6_letter RX6 (some .boolean) (WT e (d + 2)) P K := hK
  have hM := hK.1
  have hC := hK.1.1
  show K 0 [some (vR 30 0), some (vI l), some (vI z)] [] σ
  refine r_rngz hC (fun g0 => ?_)
  have r_l : -2147483648 ≤ l ∧ l ≤ 2147483647 := inR_le (g0 (vI l) (by simp))
  have r_z : -2147483648 ≤ z ∧ z ≤ 2147483647 := inR_le (g0 (vI z) (by simp))
  refine r_iload_n hC dX6_letter_0 rfl ?_
  refine r_iconst hC dX6_letter_1 rfl ?_
  refine r_bipush hC dX6_letter_2 rfl ?_
  refine z_ins3 hM dX6_letter_4 tl_RX6_76 rfl (Nat.le_of_ble_eq_true rfl) (Nat.le_of_ble_eq_true rfl) ?_
  refine m_isIn (fun h2 => ?_) (fun h2 => ?_)
  · refine r_if_eq (tgt := 29) hC dX6_letter_7 rfl (fun h3 => by omega) (fun h3 => ?_)
    refine r_iload_n hC dX6_letter_10 rfl ?_
    refine r_iconst hC dX6_letter_11 rfl ?_
    refine r_sipush hC dX6_letter_12 rfl ?_
    refine z_ins3 hM dX6_letter_15 tl_RX6_76 rfl (Nat.le_of_ble_eq_true rfl) (Nat.le_of_ble_eq_true rfl) ?_
    refine m_isIn (fun h5 => ?_) (fun h5 => ?_)
    · refine r_if_eq (tgt := 29) hC dX6_letter_18 rfl (fun h6 => by omega) (fun h6 => ?_)
      refine r_aload_n hC dX6_letter_21 rfl ?_
      refine r_iconst hC dX6_letter_22 rfl ?_
      refine z_inv1 hM dX6_letter_23 vl_RX6_84 rfl rfl rfl (Nat.le_of_ble_eq_true rfl) (Nat.le_of_ble_eq_true rfl) ?_
      refine m_isUsedX (fun h7 => ?_) (fun h7 => ?_)
      · refine r_if_eq (tgt := 31) hC dX6_letter_26 rfl (fun h8 => by omega) (fun h8 => ?_)
        refine r_iconst hC dX6_letter_29 rfl ?_
        refine y_zret hK rfl dX6_letter_30 (by omega) ?_
        first | exact k0 (by omega) | exact kE (by assumption)
      · refine r_if_eq (tgt := 31) hC dX6_letter_26 rfl (fun h9 => ?_) (fun h9 => by omega)
        refine r_aload_n hC dX6_letter_31 rfl ?_
        refine z_getR hM dX6_letter_32 fl_RX6_25 rfl rfl (vld_of (n := 1) rfl (by omega) (by omega)) ?_
        refine r_iload_n hC dX6_letter_35 rfl ?_
        refine r_iload_n hC dX6_letter_36 rfl ?_
        refine z_iastU hM dX6_letter_37 rfl (by omega) (by omega) (by simp [Un, Tb, DL, DF, DR]) (by simp [Okv]) ?_
        refine r_iconst hC dX6_letter_38 rfl ?_
        refine y_zret hK rfl dX6_letter_39 (by omega) ?_
        exact k1 (by omega) (by assumption)
    · refine r_if_eq (tgt := 29) hC dX6_letter_18 rfl (fun h10 => ?_) (fun h10 => by omega)
      refine r_iconst hC dX6_letter_29 rfl ?_
      refine y_zret hK rfl dX6_letter_30 (by omega) ?_
      first | exact k0 (by omega) | exact kE (by assumption)
  · refine r_if_eq (tgt := 29) hC dX6_letter_7 rfl (fun h11 => ?_) (fun h11 => by omega)
    refine r_iconst hC dX6_letter_29 rfl ?_
    refine y_zret hK rfl dX6_letter_30 (by omega) ?_
    first | exact k0 (by omega) | exact kE (by assumption)
def OT7 (σ : Mm) (l z r : Int) : Prop := ((0 ≤ l ∧ l ≤ 7 ∧ 0 ≤ z ∧ z ≤ 255) ∧ ¬ (∃ i : Int, 0 ≤ i ∧ i ≤ 6 ∧ σ 7 i 1 = 1 ∧ σ 7 i 2 = 4) ∧ r = 1) ∨ ((¬ (0 ≤ l ∧ l ≤ 7 ∧ 0 ≤ z ∧ z ≤ 255) ∨ (∃ i : Int, 0 ≤ i ∧ i ≤ 6 ∧ σ 7 i 1 = 1 ∧ σ 7 i 2 = 4)) ∧ r = 0)
def OT31 (σ : Mm) (l z r : Int) : Prop := ((0 ≤ l ∧ l ≤ 7 ∧ 0 ≤ z ∧ z ≤ 255) ∧ ¬ (∃ i : Int, 0 ≤ i ∧ i ≤ 6 ∧ σ 31 0 (22 * i + 0) = 1 ∧ σ 31 0 (22 * i + 1) = 4) ∧ r = 1) ∨ ((¬ (0 ≤ l ∧ l ≤ 7 ∧ 0 ≤ z ∧ z ≤ 255) ∨ (∃ i : Int, 0 ≤ i ∧ i ≤ 6 ∧ σ 31 0 (22 * i + 0) = 1 ∧ σ 31 0 (22 * i + 1) = 4)) ∧ r = 0)
theorem a_letter {e : Ev} {d : Nat} {P : Option Vl → Mm → Prop} {σ : Mm} {l z : Int} (k : ∀ r : Int, OT7 σ l z r → P (some (vI r)) σ) : WT e (d + 2) 48 [vR 2 0, vI l, vI z] σ P := s_letterX (fun a b => k _ (Or.inl ⟨a, b, rfl⟩)) (fun a => k _ (Or.inr ⟨Or.inl a, rfl⟩)) (fun a => k _ (Or.inr ⟨Or.inr a, rfl⟩))
theorem b_letter {e : Ev} {d : Nat} {P : Option Vl → Mm → Prop} {σ : Mm} {l z : Int} (k : ∀ r : Int, OT31 σ l z r → P (some (vI r)) σ) : WT e (d + 3) 144 [vR 30 0, vI l, vI z] σ P := m_letterX (fun a b => k _ (Or.inl ⟨a, b, rfl⟩)) (fun a => k _ (Or.inr ⟨Or.inl a, rfl⟩)) (fun a => k _ (Or.inr ⟨Or.inr a, rfl⟩))
theorem letter_eq {S0 : Int → Int → Int} {σ : Mm} (h : Rw S0 σ) {l z r1 r2 : Int} (a : OT7 σ l z r1) (b : OT31 σ l z r2) : r1 = r2 := by
  have hu := used_iff h 4
  rcases a with ⟨a1, a2, rfl⟩ | ⟨a1, rfl⟩ <;> rcases b with ⟨b1, b2, rfl⟩ | ⟨b1, rfl⟩
  · rfl
  · rcases b1 with b1 | b1
    · exact absurd a1 b1
    · exact absurd (hu.mpr b1) a2
  · rcases a1 with a1 | a1
    · exact absurd b1 a1
    · exact absurd (hu.mp a1) b2
  · rfl
