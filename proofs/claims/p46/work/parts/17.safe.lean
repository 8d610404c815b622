-- B: questions asked with the scratch's rest untold: from the law's sight to sight A's, and back
theorem WT_foldS {d M : Nat} {as : List Vl} {σ : Mm} {P : Option Vl → Mm → Prop} (h : ∀ ρ : Mm, (∀ c : Nat, ¬ Fo c → ρ c = σ c) → InF ρ → WT (false, true, false) d M as ρ (fun r ρ2 => InF ρ2 ∧ ∃ σ2 : Mm, P r σ2 ∧ ∀ (c : Nat) (x y : Int), ¬ Fo c → ρ2 c x y = σ2 c x y)) : WT (true, false, false) d M as σ P := by
  intro τ hA
  have hI : InF (ov τ σ) := by
    have q := hA.2.2.2 rfl
    exact q.to fun c i j hD => if_pos (by rcases DF_k hD with z | z; exact Or.inl z; exact Or.inr (Or.inl z))
  have hT : ∀ (c : Nat) (i j : Int), Tk (false, true, false) c j → τ c i j = ov τ σ c i j := fun c i j q => by
    unfold ov
    split
    · rfl
    · rename_i hc
      refine hA.1 c i j ?_
      rcases q with q | q | q | q
      · exact Or.inl q
      · cases q.1
      · exfalso
        rcases q.2 with w | w
        · rcases DF_k w with z | z
          · exact hc (Or.inl z)
          · exact hc (Or.inr (Or.inl z))
        · exact hc (DX_k w)
      · cases q.1
  refine WP.mono (fun r τ2 hp => ?_) _ _ _ _ (h (ov τ σ) (fun c hc => ov_ne hc) hI τ ⟨hT, hA.2.1, fun _ => trivial, fun q => by cases q⟩)
  obtain ⟨ρ2, ⟨g1, σ2, g2, g3⟩, g5⟩ := hp
  refine ⟨σ2, g2, ?_, g5.2.1, fun _ => trivial, fun _ => ?_⟩
  · intro c i j q
    have hc : ¬ Fo c := Tk_fo q
    refine (g5.1 c i j ?_).trans (g3 c i j hc)
    rcases q with q | q | q | q
    · exact Or.inl q
    · exact Or.inl (DL_Tb q.2)
    · cases q.1
    · cases q.1
  · exact g1.to fun c i j hD => g5.1 c i j (Or.inr (Or.inr (Or.inl ⟨rfl, Or.inl hD⟩)))
/-- the reference's scratch -/
abbrev Ro (c : Nat) : Prop := c = 30 ∨ c = 37 ∨ c = 38 ∨ c = 49 ∨ c = 50 ∨ c = 51 ∨ c = 52
def ow (F σ : Mm) : Mm := fun c x y => if Ro c then F c x y else σ c x y
theorem ow_ne {F σ : Mm} {c : Nat} (h : ¬ Ro c) : ow F σ c = σ c := by
  funext x y
  exact if_neg h
theorem DR_k {e : Ev} {c : Nat} {j : Int} (h : DR e c j) : Ro c := by
  unfold DR at h
  split at h
  · exact Or.inl rfl
  · exact Or.inr (Or.inl rfl)
  · exact Or.inr (Or.inr (Or.inl rfl))
  · exact Or.inr (Or.inr (Or.inr (Or.inl rfl)))
  · exact Or.inr (Or.inr (Or.inr (Or.inr (Or.inl rfl))))
  · exact Or.inr (Or.inr (Or.inr (Or.inr (Or.inr (Or.inl rfl)))))
  · exact Or.inr (Or.inr (Or.inr (Or.inr (Or.inr (Or.inr rfl)))))
  · exact h.elim
theorem Tk_ro {c : Nat} {j : Int} (h : Tk (true, false, false) c j) : ¬ Ro c := by
  rintro (rfl | rfl | rfl | rfl | rfl | rfl | rfl)
  all_goals
    rcases h with q | q | q | q
    · exact q
    · exact q.2
    · cases q.1
    · cases q.1
theorem WT_rowS {d M : Nat} {as : List Vl} {σ : Mm} {P : Option Vl → Mm → Prop} (h : ∀ ρ : Mm, (∀ c : Nat, ¬ Ro c → ρ c = σ c) → WT (false, false, true) d M as ρ (fun r ρ2 => ∃ σ2 : Mm, P r σ2 ∧ ∀ (c : Nat) (x y : Int), ¬ Ro c → ρ2 c x y = σ2 c x y)) : WT (true, false, false) d M as σ P := by
  intro τ hA
  have hT : ∀ (c : Nat) (i j : Int), Tk (false, false, true) c j → τ c i j = ow τ σ c i j := fun c i j q => by
    unfold ow
    split
    · rfl
    · rename_i hc
      refine hA.1 c i j ?_
      rcases q with q | q | q | q
      · exact Or.inl q
      · cases q.1
      · cases q.1
      · exact absurd (DR_k q.2) hc
  refine WP.mono (fun r τ2 hp => ?_) _ _ _ _ (h (ow τ σ) (fun c hc => ow_ne hc) τ ⟨hT, hA.2.1, fun _ => trivial, hA.2.2.2⟩)
  obtain ⟨ρ2, ⟨σ2, g2, g3⟩, g5⟩ := hp
  refine ⟨σ2, g2, ?_, g5.2.1, fun _ => trivial, g5.2.2.2⟩
  intro c i j q
  have hc : ¬ Ro c := Tk_ro q
  refine (g5.1 c i j ?_).trans (g3 c i j hc)
  rcases q with q | q | q | q
  · exact Or.inl q
  · exact Or.inl (DL_Tb q.2)
  · cases q.1
  · cases q.1
/-- a question's contract at the sight that tracks no scratch serves the law -/
theorem WT_q {d M : Nat} {as : List Vl} {σ : Mm} {P : Option Vl → Mm → Prop} (h : WT (false, false, false) d M as σ P) : WT (true, false, false) d M as σ P := by
  intro τ hA
  have hT : ∀ (c : Nat) (i j : Int), Tk (false, false, false) c j → τ c i j = σ c i j := fun c i j q => by
    refine hA.1 c i j ?_
    rcases q with q | q | q | q
    · exact Or.inl q
    · cases q.1
    · cases q.1
    · cases q.1
  refine WP.mono (fun r τ2 hp => ?_) _ _ _ _ (h τ ⟨hT, hA.2.1, fun _ => trivial, hA.2.2.2⟩)
  obtain ⟨ρ2, g1, g5⟩ := hp
  refine ⟨ρ2, g1, fun c i j q => ?_, g5.2.1, fun _ => trivial, g5.2.2.2⟩
  refine g5.1 c i j ?_
  rcases q with q | q | q | q
  · exact Or.inl q
  · exact Or.inl (DL_Tb q.2)
  · cases q.1
  · cases q.1
-- safety: first group
def HL (τ : Mm) : Prop := ∀ i : Int, 0 ≤ i → i ≤ 6 → 0 ≤ τ 7 i 6 ∧ τ 7 i 6 ≤ 120
theorem HL.h7 {σ : Mm} (h : HL σ) {i : Int} (h0 : 0 ≤ i) (h1 : i < 7) : 0 ≤ σ 7 i 6 ∧ σ 7 i 6 ≤ 120 := h i h0 (by omega)
theorem qs_within {e : Ev} {d : Nat} {P : Option Vl → Mm → Prop} {σ : Mm} {a lo hi : Int}   (k1 : (lo ≤ a ∧ a ≤ hi) → P (some (vI 1)) σ) (k0 : ¬ (lo ≤ a ∧ a ≤ hi) → P (some (vI 0)) σ) : WT e (d + 1) 124 [vI a, vI lo, vI hi] σ P := by
  refine WT_in fun K hK => ?_
  have hK : StpY e cX5_within RX5 (some .boolean) (WT e (d + 0)) P K := hK
  have hM := hK.1
  have hC := hK.1.1
  show K 0 [some (vI a), some (vI lo), some (vI hi)] [] σ
  refine r_rngz hC (fun g0 => ?_)
  have r_a : -2147483648 ≤ a ∧ a ≤ 2147483647 := inR_le (g0 (vI a) (by simp))
  have r_lo : -2147483648 ≤ lo ∧ lo ≤ 2147483647 := inR_le (g0 (vI lo) (by simp))
  have r_hi : -2147483648 ≤ hi ∧ hi ≤ 2147483647 := inR_le (g0 (vI hi) (by simp))
  refine r_iload_n hC dX5_within_0 rfl ?_
  refine r_iload_n hC dX5_within_1 rfl ?_
  refine r_icmp_gt (tgt := 14) hC dX5_within_2 rfl (fun h1 => ?_) (fun h1 => ?_)
  · refine r_iconst hC dX5_within_14 rfl ?_
    refine y_zret hK rfl dX5_within_15 (by omega) ?_
    exact k0 (by omega)
  · refine r_iload_n hC dX5_within_5 rfl ?_
    refine r_iload_n hC dX5_within_6 rfl ?_
    refine r_icmp_gt (tgt := 14) hC dX5_within_7 rfl (fun h2 => ?_) (fun h2 => ?_)
    · refine r_iconst hC dX5_within_14 rfl ?_
      refine y_zret hK rfl dX5_within_15 (by omega) ?_
      exact k0 (by omega)
    · refine r_iconst hC dX5_within_10 rfl ?_
      refine r_goto (tgt := 15) hC dX5_within_11 rfl ?_
      refine y_zret hK rfl dX5_within_15 (by omega) ?_
      exact k1 (by omega)
theorem qs_isLane {e : Ev} {d : Nat} {P : Option Vl → Mm → Prop} {σ : Mm} {a : Int}   (k1 : (0 ≤ a ∧ a ≤ 3) → P (some (vI 1)) σ) (k0 : ¬ (0 ≤ a ∧ a ≤ 3) → P (some (vI 0)) σ) : WT e (d + 2) 125 [vI a] σ P := by
  refine WT_in fun K hK => ?_
  have hK : StpY e cX5_isLane RX5 (some .boolean) (WT e (d + 1)) P K := hK
  have hM := hK.1
  have hC := hK.1.1
  show K 0 [some (vI a)] [] σ
  refine r_rngz hC (fun g0 => ?_)
  have r_a : -2147483648 ≤ a ∧ a ≤ 2147483647 := inR_le (g0 (vI a) (by simp))
  refine r_iload_n hC dX5_isLane_0 rfl ?_
  refine r_iconst hC dX5_isLane_1 rfl ?_
  refine r_iconst hC dX5_isLane_2 rfl ?_
  refine z_ins3 hM dX5_isLane_3 tl_RX5_59 rfl (Nat.le_of_ble_eq_true rfl) (Nat.le_of_ble_eq_true rfl) ?_
  refine qs_within (fun h2 => ?_) (fun h2 => ?_)
  · refine y_zret hK rfl dX5_isLane_6 (by omega) ?_
    exact k1 (by omega)
  · refine y_zret hK rfl dX5_isLane_6 (by omega) ?_
    exact k0 (by omega)
theorem qs_isTime {e : Ev} {d : Nat} {P : Option Vl → Mm → Prop} {σ : Mm} {a : Int}   (k1 : (0 ≤ a ∧ a ≤ 100000) → P (some (vI 1)) σ) (k0 : ¬ (0 ≤ a ∧ a ≤ 100000) → P (some (vI 0)) σ) : WT e (d + 2) 126 [vI a] σ P := by
  refine WT_in fun K hK => ?_
  have hK : StpY e cX5_isTime RX5 (some .boolean) (WT e (d + 1)) P K := hK
  have hM := hK.1
  have hC := hK.1.1
  show K 0 [some (vI a)] [] σ
  refine r_rngz hC (fun g0 => ?_)
  have r_a : -2147483648 ≤ a ∧ a ≤ 2147483647 := inR_le (g0 (vI a) (by simp))
  refine r_iload_n hC dX5_isTime_0 rfl ?_
  refine r_iconst hC dX5_isTime_1 rfl ?_
  refine r_ldcw hC dX5_isTime_2 co_RX5_284 rfl ?_
  refine z_ins3 hM dX5_isTime_5 tl_RX5_59 rfl (Nat.le_of_ble_eq_true rfl) (Nat.le_of_ble_eq_true rfl) ?_
  refine qs_within (fun h2 => ?_) (fun h2 => ?_)
  · refine y_zret hK rfl dX5_isTime_8 (by omega) ?_
    exact k1 (by omega)
  · refine y_zret hK rfl dX5_isTime_8 (by omega) ?_
    exact k0 (by omega)
theorem qs_isValue {e : Ev} {d : Nat} {P : Option Vl → Mm → Prop} {σ : Mm} {a : Int}   (k1 : (-1000 ≤ a ∧ a ≤ 1000) → P (some (vI 1)) σ) (k0 : ¬ (-1000 ≤ a ∧ a ≤ 1000) → P (some (vI 0)) σ) : WT e (d + 2) 127 [vI a] σ P := by
  refine WT_in fun K hK => ?_
  have hK : StpY e cX5_isValue RX5 (some .boolean) (WT e (d + 1)) P K := hK
  have hM := hK.1
  have hC := hK.1.1
  show K 0 [some (vI a)] [] σ
  refine r_rngz hC (fun g0 => ?_)
  have r_a : -2147483648 ≤ a ∧ a ≤ 2147483647 := inR_le (g0 (vI a) (by simp))
  refine r_iload_n hC dX5_isValue_0 rfl ?_
  refine r_sipush hC dX5_isValue_1 rfl ?_
  refine r_sipush hC dX5_isValue_4 rfl ?_
  refine z_ins3 hM dX5_isValue_7 tl_RX5_59 rfl (Nat.le_of_ble_eq_true rfl) (Nat.le_of_ble_eq_true rfl) ?_
  refine qs_within (fun h2 => ?_) (fun h2 => ?_)
  · refine y_zret hK rfl dX5_isValue_10 (by omega) ?_
    exact k1 (by omega)
  · refine y_zret hK rfl dX5_isValue_10 (by omega) ?_
    exact k0 (by omega)
theorem qs_isGap {e : Ev} {d : Nat} {P : Option Vl → Mm → Prop} {σ : Mm} {a : Int}   (k1 : (0 ≤ a ∧ a ≤ 100000) → P (some (vI 1)) σ) (k0 : ¬ (0 ≤ a ∧ a ≤ 100000) → P (some (vI 0)) σ) : WT e (d + 2) 128 [vI a] σ P := by
  refine WT_in fun K hK => ?_
  have hK : StpY e cX5_isGap RX5 (some .boolean) (WT e (d + 1)) P K := hK
  have hM := hK.1
  have hC := hK.1.1
  show K 0 [some (vI a)] [] σ
  refine r_rngz hC (fun g0 => ?_)
  have r_a : -2147483648 ≤ a ∧ a ≤ 2147483647 := inR_le (g0 (vI a) (by simp))
  refine r_iload_n hC dX5_isGap_0 rfl ?_
  refine r_iconst hC dX5_isGap_1 rfl ?_
  refine r_ldcw hC dX5_isGap_2 co_RX5_284 rfl ?_
  refine z_ins3 hM dX5_isGap_5 tl_RX5_59 rfl (Nat.le_of_ble_eq_true rfl) (Nat.le_of_ble_eq_true rfl) ?_
  refine qs_within (fun h2 => ?_) (fun h2 => ?_)
  · refine y_zret hK rfl dX5_isGap_8 (by omega) ?_
    exact k1 (by omega)
  · refine y_zret hK rfl dX5_isGap_8 (by omega) ?_
    exact k0 (by omega)
theorem qs_product {e : Ev} {d : Nat} {P : Option Vl → Mm → Prop} {σ : Mm} {x y : Int} (b_x : 0 ≤ x ∧ x ≤ 3) (b_y : 0 ≤ y ∧ y ≤ 3)  (k : ∀ r : Int, 0 ≤ r ∧ r ≤ 3 → P (some (vI r)) σ) : WT e (d + 1) 51 [vR 2 0, vI x, vI y] σ P := by
  refine WT_in fun K hK => ?_
  have hK : StpY e cX5_product RX5 (some .int) (WT e (d + 0)) P K := hK
  have hM := hK.1
  have hC := hK.1.1
  show K 0 [some (vR 2 0), some (vI x), some (vI y)] [] σ
  refine r_aload_n hC dX5_product_0 rfl ?_
  refine z_getR hM dX5_product_1 fl_RX5_40 rfl rfl (vld_of (n := 1) rfl (by omega) (by omega)) ?_
  refine z_getR hM dX5_product_4 fl_RX5_67 rfl rfl (vld_of (n := 1) rfl (by omega) (by omega)) ?_
  refine r_iconst hC dX5_product_7 rfl ?_
  refine r_iload_n hC dX5_product_8 rfl ?_
  refine r_imulE hC ((4 * x)) dX5_product_9 (by omega) (by unfold inR; omega) ?_
  refine r_iload_n hC dX5_product_10 rfl ?_
  refine r_iaddE hC (((4 * x) + y)) dX5_product_11 (by omega) (by unfold inR; omega) ?_
  refine z_iald hM dX5_product_12 rfl (by omega) (by omega) (fun v1 h_v1 o_v1 t_v1 => ?_)
  clear t_v1
  have q_v1 : 0 ≤ v1 ∧ v1 ≤ 3 := o_v1
  refine y_iret hK rfl dX5_product_13 ?_
  exact k _ (by omega)
theorem qs_associates {e : Ev} {d : Nat} {P : Option Vl → Mm → Prop} {σ : Mm} {x y z : Int} (b_x : 0 ≤ x ∧ x ≤ 3) (b_y : 0 ≤ y ∧ y ≤ 3) (b_z : 0 ≤ z ∧ z ≤ 3)  (k : ∀ r : Int, 0 ≤ r ∧ r ≤ 1 → P (some (vI r)) σ) : WT e (d + 2) 52 [vR 2 0, vI x, vI y, vI z] σ P := by
  refine WT_in fun K hK => ?_
  have hK : StpY e cX5_associates RX5 (some .boolean) (WT e (d + 1)) P K := hK
  have hM := hK.1
  have hC := hK.1.1
  show K 0 [some (vR 2 0), some (vI x), some (vI y), some (vI z)] [] σ
  refine r_aload_n hC dX5_associates_0 rfl ?_
  refine r_aload_n hC dX5_associates_1 rfl ?_
  refine r_iload_n hC dX5_associates_2 rfl ?_
  refine r_iload_n hC dX5_associates_3 rfl ?_
  refine z_inv2 hM dX5_associates_4 vl_RX5_90 rfl rfl rfl (Nat.le_of_ble_eq_true rfl) (Nat.le_of_ble_eq_true rfl) ?_
  refine qs_product (by omega) (by omega) (fun v1 h_v1 => ?_)
  refine r_iload_n hC dX5_associates_7 rfl ?_
  refine z_inv2 hM dX5_associates_8 vl_RX5_90 rfl rfl rfl (Nat.le_of_ble_eq_true rfl) (Nat.le_of_ble_eq_true rfl) ?_
  refine qs_product (by omega) (by omega) (fun v2 h_v2 => ?_)
  refine r_aload_n hC dX5_associates_11 rfl ?_
  refine r_iload_n hC dX5_associates_12 rfl ?_
  refine r_aload_n hC dX5_associates_13 rfl ?_
  refine r_iload_n hC dX5_associates_14 rfl ?_
  refine r_iload_n hC dX5_associates_15 rfl ?_
  refine z_inv2 hM dX5_associates_16 vl_RX5_90 rfl rfl rfl (Nat.le_of_ble_eq_true rfl) (Nat.le_of_ble_eq_true rfl) ?_
  refine qs_product (by omega) (by omega) (fun v3 h_v3 => ?_)
  refine z_inv2 hM dX5_associates_19 vl_RX5_90 rfl rfl rfl (Nat.le_of_ble_eq_true rfl) (Nat.le_of_ble_eq_true rfl) ?_
  refine qs_product (by omega) (by omega) (fun v4 h_v4 => ?_)
  have J30_6 : ∀ (w6 : Int), 0 ≤ w6 ∧ w6 ≤ 1 → K 30 [some (vR 2 0), some (vI x), some (vI y), some (vI z)] [vI w6] σ := by
    intro w6  f_w6 
    refine y_zret hK rfl dX5_associates_30 (by omega) ?_
    exact k _ (by omega)
  refine r_icmp_ne (tgt := 29) hC dX5_associates_22 rfl (fun h5 => ?_) (fun h5 => ?_)
  · refine r_iconst hC dX5_associates_29 rfl ?_
    exact J30_6 (0)  (by omega) 
  · refine r_iconst hC dX5_associates_25 rfl ?_
    refine r_goto (tgt := 30) hC dX5_associates_26 rfl ?_
    exact J30_6 (1)  (by omega) 
theorem qs_triple {e : Ev} {d : Nat} {P : Option Vl → Mm → Prop} {σ : Mm} {w : Int}   (k : ∀ r : Int, -2147483648 ≤ r ∧ r ≤ 2147483647 → P (some (vI r)) σ) : WT e (d + 3) 49 [vR 2 0, vI w] σ P := by
  refine WT_in fun K hK => ?_
  have hK : StpY e cX5_triple RX5 (some .int) (WT e (d + 2)) P K := hK
  have hM := hK.1
  have hC := hK.1.1
  show K 0 [some (vR 2 0), some (vI w), none, none, none] [] σ
  refine r_rngz hC (fun g0 => ?_)
  have r_w : -2147483648 ≤ w ∧ w ≤ 2147483647 := inR_le (g0 (vI w) (by simp))
  refine r_iload_n hC dX5_triple_0 rfl ?_
  refine r_iconst hC dX5_triple_1 rfl ?_
  refine r_iconst hC dX5_triple_2 rfl ?_
  refine z_ins3 hM dX5_triple_3 tl_RX5_59 rfl (Nat.le_of_ble_eq_true rfl) (Nat.le_of_ble_eq_true rfl) ?_
  refine qs_within (fun h2 => ?_) (fun h2 => ?_)
  · refine r_if_ne (tgt := 11) hC dX5_triple_6 rfl (fun h3 => ?_) (fun h3 => by omega)
    refine r_iconst hC dX5_triple_11 rfl ?_
    refine r_istore_n hC dX5_triple_12 rfl ?_
    refine r_iconst hC dX5_triple_13 rfl ?_
    refine r_istore_n hC dX5_triple_14 rfl ?_
    refine r_iconst hC dX5_triple_15 rfl ?_
    refine r_istore hC dX5_triple_16 rfl ?_
    have L18 : ∀ (n18 : Nat) (w4 w5 w6 : Int), -1 ≤ w4 ∧ w4 ≤ 63 → -2147483648 ≤ w5 ∧ w5 ≤ 2147483647 → 0 ≤ w6 ∧ w6 ≤ 64 → 64 - w6 < (n18 : Int) → K 18 [some (vR 2 0), some (vI w), some (vI w4), some (vI w5), some (vI w6)] [] σ := by
      intro n18
      induction n18 with
      | zero => intro w4 w5 w6  f_w4 f_w5 f_w6  hm  ; omega
      | succ n18 ih18 =>
        intro w4 w5 w6  f_w4 f_w5 f_w6  hm18  
        refine r_iload hC dX5_triple_18 rfl ?_
        refine r_bipush hC dX5_triple_20 rfl ?_
        refine r_icmp_ge (tgt := 67) hC dX5_triple_22 rfl (fun h7 => ?_) (fun h7 => ?_)
        · refine r_iload_n hC dX5_triple_67 rfl ?_
          refine r_iconst hC dX5_triple_68 rfl ?_
          refine r_icmp_ne (tgt := 74) hC dX5_triple_69 rfl (fun h8 => ?_) (fun h8 => ?_)
          · refine r_iload_n hC dX5_triple_74 rfl ?_
            refine r_iconst hC dX5_triple_75 rfl ?_
            refine r_icmp_ne (tgt := 81) hC dX5_triple_76 rfl (fun h9 => ?_) (fun h9 => ?_)
            · refine r_iload_n hC dX5_triple_81 rfl ?_
              have J108_11 : ∀ (w11 : Int), 0 ≤ w11 ∧ w11 ≤ 3 → K 108 [some (vR 2 0), some (vI w), some (vI w4), some (vI w5), some (vI w6)] [vI w11] σ := by
                intro w11  f_w11 
                refine y_iret hK rfl dX5_triple_108 ?_
                exact k _ (by omega)
              refine r_if_ne (tgt := 92) hC dX5_triple_82 rfl (fun h10 => ?_) (fun h10 => ?_)
              · refine r_iload_n hC dX5_triple_92 rfl ?_
                refine r_iconst hC dX5_triple_93 rfl ?_
                refine r_icmp_ne (tgt := 105) hC dX5_triple_94 rfl (fun h13 => ?_) (fun h13 => ?_)
                · refine r_iload_n hC dX5_triple_105 rfl ?_
                  refine r_iconst hC dX5_triple_106 rfl ?_
                  refine r_iremN hC dX5_triple_107 (by omega) (by omega) ?_
                  exact J108_11 ((w4 % 4))  (by omega) 
                · refine r_iload_n hC dX5_triple_97 rfl ?_
                  refine r_iconst hC dX5_triple_98 rfl ?_
                  refine r_idivN hC dX5_triple_99 (by omega) (by omega) ?_
                  refine r_iconst hC dX5_triple_100 rfl ?_
                  refine r_iremN hC dX5_triple_101 (by omega) (by omega) ?_
                  refine r_goto (tgt := 108) hC dX5_triple_102 rfl ?_
                  exact J108_11 (((w4 / 4) % 4))  (by omega) 
              · refine r_iload_n hC dX5_triple_85 rfl ?_
                refine r_bipush hC dX5_triple_86 rfl ?_
                refine r_idivN hC dX5_triple_88 (by omega) (by omega) ?_
                refine r_goto (tgt := 108) hC dX5_triple_89 rfl ?_
                exact J108_11 ((w4 / 16))  (by omega) 
            · refine r_iconst hC dX5_triple_79 rfl ?_
              refine y_iret hK rfl dX5_triple_80 ?_
              exact k _ (by omega)
          · refine r_iload_n hC dX5_triple_72 rfl ?_
            refine y_iret hK rfl dX5_triple_73 ?_
            exact k _ (by omega)
        · refine r_aload_n hC dX5_triple_25 rfl ?_
          refine r_iload hC dX5_triple_26 rfl ?_
          refine r_bipush hC dX5_triple_28 rfl ?_
          refine r_idivN hC dX5_triple_30 (by omega) (by omega) ?_
          refine r_iload hC dX5_triple_31 rfl ?_
          refine r_iconst hC dX5_triple_33 rfl ?_
          refine r_idivN hC dX5_triple_34 (by omega) (by omega) ?_
          refine r_iconst hC dX5_triple_35 rfl ?_
          refine r_iremN hC dX5_triple_36 (by omega) (by omega) ?_
          refine r_iload hC dX5_triple_37 rfl ?_
          refine r_iconst hC dX5_triple_39 rfl ?_
          refine r_iremN hC dX5_triple_40 (by omega) (by omega) ?_
          refine z_inv3 hM dX5_triple_41 vl_RX5_74 rfl rfl rfl (Nat.le_of_ble_eq_true rfl) (Nat.le_of_ble_eq_true rfl) ?_
          refine qs_associates (by omega) (by omega) (by omega) (fun v14 h_v14 => ?_)
          have J61_17 : ∀ (w16 w17 : Int), -1 ≤ w16 ∧ w16 ≤ 63 → -2147483648 ≤ w17 ∧ w17 ≤ 2147483647 → K 61 [some (vR 2 0), some (vI w), some (vI w16), some (vI w17), some (vI w6)] [] σ := by
            intro w16 w17  f_w16 f_w17 
            refine r_iincE hC ((w6 + 1)) dX5_triple_61 rfl rfl (by omega) (by unfold inR; omega) ?_
            refine r_goto (tgt := 18) hC dX5_triple_64 rfl ?_
            exact ih18 (w16) (w17) ((w6 + 1))  (by omega) (by omega) (by omega)  (by omega)  
          refine r_if_eq (tgt := 53) hC dX5_triple_44 rfl (fun h15 => ?_) (fun h15 => ?_)
          · refine r_iload_n hC dX5_triple_53 rfl ?_
            refine r_iconst hC dX5_triple_54 rfl ?_
            refine r_icmp_ne (tgt := 61) hC dX5_triple_55 rfl (fun h19 => ?_) (fun h19 => ?_)
            · exact J61_17 (w4) (w5)  (by omega) (by omega)
            · refine r_iload hC dX5_triple_58 rfl ?_
              refine r_istore_n hC dX5_triple_60 rfl ?_
              exact J61_17 (w6) (w5)  (by omega) (by omega) 
          · refine r_iincG hC dX5_triple_47 rfl rfl (fun v20 h_v20 => ?_)
            refine r_goto (tgt := 61) hC dX5_triple_50 rfl ?_
            exact J61_17 (w4) (v20)  (by omega) (by omega) 
    exact L18 66 ((-1)) (0) (0)  (by omega) (by omega) (by omega)  (by omega)  
  · refine r_if_ne (tgt := 11) hC dX5_triple_6 rfl (fun h21 => by omega) (fun h21 => ?_)
    refine r_iconst hC dX5_triple_9 rfl ?_
    refine y_iret hK rfl dX5_triple_10 ?_
    exact k _ (by omega)
theorem qs_firstNeutral {e : Ev} {d : Nat} {P : Option Vl → Mm → Prop} {σ : Mm}   (k : ∀ r : Int, -1 ≤ r ∧ r ≤ 3 → P (some (vI r)) σ) : WT e (d + 2) 53 [vR 2 0] σ P := by
  refine WT_in fun K hK => ?_
  have hK : StpY e cX5_firstNeutral RX5 (some .int) (WT e (d + 1)) P K := hK
  have hM := hK.1
  have hC := hK.1.1
  show K 0 [some (vR 2 0), none, none, none] [] σ
  refine r_iconst hC dX5_firstNeutral_0 rfl ?_
  refine r_istore_n hC dX5_firstNeutral_1 rfl ?_
  have L2 : ∀ (n2 : Nat) (w1 : Int), 0 ≤ w1 ∧ w1 ≤ 4 → 4 - w1 < (n2 : Int) → K 2 [some (vR 2 0), some (vI w1), none, none] [] σ := by
    intro n2
    induction n2 with
    | zero => intro w1  f_w1  hm  ; omega
    | succ n2 ih2 =>
      intro w1  f_w1  hm2  
      refine r_iload_n hC dX5_firstNeutral_2 rfl ?_
      refine r_iconst hC dX5_firstNeutral_3 rfl ?_
      refine r_icmp_ge (tgt := 63) hC dX5_firstNeutral_4 rfl (fun h2 => ?_) (fun h2 => ?_)
      · refine r_iconst hC dX5_firstNeutral_63 rfl ?_
        refine y_iret hK rfl dX5_firstNeutral_64 ?_
        exact k _ (by omega)
      · refine r_iconst hC dX5_firstNeutral_7 rfl ?_
        refine r_istore_n hC dX5_firstNeutral_8 rfl ?_
        refine r_iconst hC dX5_firstNeutral_9 rfl ?_
        refine r_istore_n hC dX5_firstNeutral_10 rfl ?_
        have L11 : ∀ (n11 : Nat) (w3 w4 : Int), -2147483648 ≤ w3 ∧ w3 ≤ 2147483647 → 0 ≤ w4 ∧ w4 ≤ 4 → 4 - w4 < (n11 : Int) → K 11 [some (vR 2 0), some (vI w1), some (vI w3), some (vI w4)] [] σ := by
          intro n11
          induction n11 with
          | zero => intro w3 w4  f_w3 f_w4  hm  ; omega
          | succ n11 ih11 =>
            intro w3 w4  f_w3 f_w4  hm11  
            refine r_iload_n hC dX5_firstNeutral_11 rfl ?_
            refine r_iconst hC dX5_firstNeutral_12 rfl ?_
            refine r_icmp_ge (tgt := 50) hC dX5_firstNeutral_13 rfl (fun h5 => ?_) (fun h5 => ?_)
            · refine r_iload_n hC dX5_firstNeutral_50 rfl ?_
              refine r_iconst hC dX5_firstNeutral_51 rfl ?_
              refine r_icmp_ne (tgt := 57) hC dX5_firstNeutral_52 rfl (fun h6 => ?_) (fun h6 => ?_)
              · refine r_iincE hC ((w1 + 1)) dX5_firstNeutral_57 rfl rfl (by omega) (by unfold inR; omega) ?_
                refine r_goto (tgt := 2) hC dX5_firstNeutral_60 rfl ?_
                refine r_forget hC (ls2 := [some (vR 2 0), some (vI (w1 + 1)), none, none]) (lsub_some (lsub_some (lsub_none (lsub_none lsub_nil)))) ?_
                exact ih2 ((w1 + 1))  (by omega)  (by omega)  
              · refine r_iload_n hC dX5_firstNeutral_55 rfl ?_
                refine y_iret hK rfl dX5_firstNeutral_56 ?_
                exact k _ (by omega)
            · refine r_iload_n hC dX5_firstNeutral_16 rfl ?_
              refine r_aload_n hC dX5_firstNeutral_17 rfl ?_
              refine r_iload_n hC dX5_firstNeutral_18 rfl ?_
              refine r_iload_n hC dX5_firstNeutral_19 rfl ?_
              refine z_inv2 hM dX5_firstNeutral_20 vl_RX5_90 rfl rfl rfl (Nat.le_of_ble_eq_true rfl) (Nat.le_of_ble_eq_true rfl) ?_
              refine qs_product (by omega) (by omega) (fun v7 h_v7 => ?_)
              refine r_iload_n hC dX5_firstNeutral_23 rfl ?_
              have J42_9 : ∀ (w9 : Int), 0 ≤ w9 ∧ w9 ≤ 1 → K 42 [some (vR 2 0), some (vI w1), some (vI w3), some (vI w4)] [vI w9, vI w3] σ := by
                intro w9  f_w9 
                refine r_iaddG hC dX5_firstNeutral_42 (fun v11 h_v11 => ?_)
                refine r_istore_n hC dX5_firstNeutral_43 rfl ?_
                refine r_iincE hC ((w4 + 1)) dX5_firstNeutral_44 rfl rfl (by omega) (by unfold inR; omega) ?_
                refine r_goto (tgt := 11) hC dX5_firstNeutral_47 rfl ?_
                exact ih11 (v11) ((w4 + 1))  (by omega) (by omega)  (by omega)  
              refine r_icmp_ne (tgt := 41) hC dX5_firstNeutral_24 rfl (fun h8 => ?_) (fun h8 => ?_)
              · refine r_iconst hC dX5_firstNeutral_41 rfl ?_
                exact J42_9 (0)  (by omega) 
              · refine r_aload_n hC dX5_firstNeutral_27 rfl ?_
                refine r_iload_n hC dX5_firstNeutral_28 rfl ?_
                refine r_iload_n hC dX5_firstNeutral_29 rfl ?_
                refine z_inv2 hM dX5_firstNeutral_30 vl_RX5_90 rfl rfl rfl (Nat.le_of_ble_eq_true rfl) (Nat.le_of_ble_eq_true rfl) ?_
                refine qs_product (by omega) (by omega) (fun v12 h_v12 => ?_)
                refine r_iload_n hC dX5_firstNeutral_33 rfl ?_
                refine r_icmp_ne (tgt := 41) hC dX5_firstNeutral_34 rfl (fun h13 => ?_) (fun h13 => ?_)
                · refine r_iconst hC dX5_firstNeutral_41 rfl ?_
                  exact J42_9 (0)  (by omega) 
                · refine r_iconst hC dX5_firstNeutral_37 rfl ?_
                  refine r_goto (tgt := 42) hC dX5_firstNeutral_38 rfl ?_
                  exact J42_9 (1)  (by omega) 
        exact L11 6 (0) (0)  (by omega) (by omega)  (by omega)  
  exact L2 6 (0)  (by omega)  (by omega)  
theorem qs_firstAbsorbing {e : Ev} {d : Nat} {P : Option Vl → Mm → Prop} {σ : Mm}   (k : ∀ r : Int, -1 ≤ r ∧ r ≤ 3 → P (some (vI r)) σ) : WT e (d + 2) 54 [vR 2 0] σ P := by
  refine WT_in fun K hK => ?_
  have hK : StpY e cX5_firstAbsorbing RX5 (some .int) (WT e (d + 1)) P K := hK
  have hM := hK.1
  have hC := hK.1.1
  show K 0 [some (vR 2 0), none, none, none] [] σ
  refine r_iconst hC dX5_firstAbsorbing_0 rfl ?_
  refine r_istore_n hC dX5_firstAbsorbing_1 rfl ?_
  have L2 : ∀ (n2 : Nat) (w1 : Int), 0 ≤ w1 ∧ w1 ≤ 4 → 4 - w1 < (n2 : Int) → K 2 [some (vR 2 0), some (vI w1), none, none] [] σ := by
    intro n2
    induction n2 with
    | zero => intro w1  f_w1  hm  ; omega
    | succ n2 ih2 =>
      intro w1  f_w1  hm2  
      refine r_iload_n hC dX5_firstAbsorbing_2 rfl ?_
      refine r_iconst hC dX5_firstAbsorbing_3 rfl ?_
      refine r_icmp_ge (tgt := 63) hC dX5_firstAbsorbing_4 rfl (fun h2 => ?_) (fun h2 => ?_)
      · refine r_iconst hC dX5_firstAbsorbing_63 rfl ?_
        refine y_iret hK rfl dX5_firstAbsorbing_64 ?_
        exact k _ (by omega)
      · refine r_iconst hC dX5_firstAbsorbing_7 rfl ?_
        refine r_istore_n hC dX5_firstAbsorbing_8 rfl ?_
        refine r_iconst hC dX5_firstAbsorbing_9 rfl ?_
        refine r_istore_n hC dX5_firstAbsorbing_10 rfl ?_
        have L11 : ∀ (n11 : Nat) (w3 w4 : Int), -2147483648 ≤ w3 ∧ w3 ≤ 2147483647 → 0 ≤ w4 ∧ w4 ≤ 4 → 4 - w4 < (n11 : Int) → K 11 [some (vR 2 0), some (vI w1), some (vI w3), some (vI w4)] [] σ := by
          intro n11
          induction n11 with
          | zero => intro w3 w4  f_w3 f_w4  hm  ; omega
          | succ n11 ih11 =>
            intro w3 w4  f_w3 f_w4  hm11  
            refine r_iload_n hC dX5_firstAbsorbing_11 rfl ?_
            refine r_iconst hC dX5_firstAbsorbing_12 rfl ?_
            refine r_icmp_ge (tgt := 50) hC dX5_firstAbsorbing_13 rfl (fun h5 => ?_) (fun h5 => ?_)
            · refine r_iload_n hC dX5_firstAbsorbing_50 rfl ?_
              refine r_iconst hC dX5_firstAbsorbing_51 rfl ?_
              refine r_icmp_ne (tgt := 57) hC dX5_firstAbsorbing_52 rfl (fun h6 => ?_) (fun h6 => ?_)
              · refine r_iincE hC ((w1 + 1)) dX5_firstAbsorbing_57 rfl rfl (by omega) (by unfold inR; omega) ?_
                refine r_goto (tgt := 2) hC dX5_firstAbsorbing_60 rfl ?_
                refine r_forget hC (ls2 := [some (vR 2 0), some (vI (w1 + 1)), none, none]) (lsub_some (lsub_some (lsub_none (lsub_none lsub_nil)))) ?_
                exact ih2 ((w1 + 1))  (by omega)  (by omega)  
              · refine r_iload_n hC dX5_firstAbsorbing_55 rfl ?_
                refine y_iret hK rfl dX5_firstAbsorbing_56 ?_
                exact k _ (by omega)
            · refine r_iload_n hC dX5_firstAbsorbing_16 rfl ?_
              refine r_aload_n hC dX5_firstAbsorbing_17 rfl ?_
              refine r_iload_n hC dX5_firstAbsorbing_18 rfl ?_
              refine r_iload_n hC dX5_firstAbsorbing_19 rfl ?_
              refine z_inv2 hM dX5_firstAbsorbing_20 vl_RX5_90 rfl rfl rfl (Nat.le_of_ble_eq_true rfl) (Nat.le_of_ble_eq_true rfl) ?_
              refine qs_product (by omega) (by omega) (fun v7 h_v7 => ?_)
              refine r_iload_n hC dX5_firstAbsorbing_23 rfl ?_
              have J42_9 : ∀ (w9 : Int), 0 ≤ w9 ∧ w9 ≤ 1 → K 42 [some (vR 2 0), some (vI w1), some (vI w3), some (vI w4)] [vI w9, vI w3] σ := by
                intro w9  f_w9 
                refine r_iaddG hC dX5_firstAbsorbing_42 (fun v11 h_v11 => ?_)
                refine r_istore_n hC dX5_firstAbsorbing_43 rfl ?_
                refine r_iincE hC ((w4 + 1)) dX5_firstAbsorbing_44 rfl rfl (by omega) (by unfold inR; omega) ?_
                refine r_goto (tgt := 11) hC dX5_firstAbsorbing_47 rfl ?_
                exact ih11 (v11) ((w4 + 1))  (by omega) (by omega)  (by omega)  
              refine r_icmp_ne (tgt := 41) hC dX5_firstAbsorbing_24 rfl (fun h8 => ?_) (fun h8 => ?_)
              · refine r_iconst hC dX5_firstAbsorbing_41 rfl ?_
                exact J42_9 (0)  (by omega) 
              · refine r_aload_n hC dX5_firstAbsorbing_27 rfl ?_
                refine r_iload_n hC dX5_firstAbsorbing_28 rfl ?_
                refine r_iload_n hC dX5_firstAbsorbing_29 rfl ?_
                refine z_inv2 hM dX5_firstAbsorbing_30 vl_RX5_90 rfl rfl rfl (Nat.le_of_ble_eq_true rfl) (Nat.le_of_ble_eq_true rfl) ?_
                refine qs_product (by omega) (by omega) (fun v12 h_v12 => ?_)
                refine r_iload_n hC dX5_firstAbsorbing_33 rfl ?_
                refine r_icmp_ne (tgt := 41) hC dX5_firstAbsorbing_34 rfl (fun h13 => ?_) (fun h13 => ?_)
                · refine r_iconst hC dX5_firstAbsorbing_41 rfl ?_
                  exact J42_9 (0)  (by omega) 
                · refine r_iconst hC dX5_firstAbsorbing_37 rfl ?_
                  refine r_goto (tgt := 42) hC dX5_firstAbsorbing_38 rfl ?_
                  exact J42_9 (1)  (by omega) 
        exact L11 6 (0) (0)  (by omega) (by omega)  (by omega)  
  exact L2 6 (0)  (by omega)  (by omega)  
theorem qs_idempotents {e : Ev} {d : Nat} {P : Option Vl → Mm → Prop} {σ : Mm}   (k : ∀ r : Int, -2147483648 ≤ r ∧ r ≤ 2147483647 → P (some (vI r)) σ) : WT e (d + 2) 55 [vR 2 0] σ P := by
  refine WT_in fun K hK => ?_
  have hK : StpY e cX5_idempotents RX5 (some .int) (WT e (d + 1)) P K := hK
  have hM := hK.1
  have hC := hK.1.1
  show K 0 [some (vR 2 0), none, none] [] σ
  refine r_iconst hC dX5_idempotents_0 rfl ?_
  refine r_istore_n hC dX5_idempotents_1 rfl ?_
  refine r_iconst hC dX5_idempotents_2 rfl ?_
  refine r_istore_n hC dX5_idempotents_3 rfl ?_
  have L4 : ∀ (n4 : Nat) (w1 w2 : Int), -2147483648 ≤ w1 ∧ w1 ≤ 2147483647 → 0 ≤ w2 ∧ w2 ≤ 4 → 4 - w2 < (n4 : Int) → K 4 [some (vR 2 0), some (vI w1), some (vI w2)] [] σ := by
    intro n4
    induction n4 with
    | zero => intro w1 w2  f_w1 f_w2  hm  ; omega
    | succ n4 ih4 =>
      intro w1 w2  f_w1 f_w2  hm4  
      refine r_iload_n hC dX5_idempotents_4 rfl ?_
      refine r_iconst hC dX5_idempotents_5 rfl ?_
      refine r_icmp_ge (tgt := 33) hC dX5_idempotents_6 rfl (fun h3 => ?_) (fun h3 => ?_)
      · refine r_iload_n hC dX5_idempotents_33 rfl ?_
        refine y_iret hK rfl dX5_idempotents_34 ?_
        exact k _ (by omega)
      · refine r_iload_n hC dX5_idempotents_9 rfl ?_
        refine r_aload_n hC dX5_idempotents_10 rfl ?_
        refine r_iload_n hC dX5_idempotents_11 rfl ?_
        refine r_iload_n hC dX5_idempotents_12 rfl ?_
        refine z_inv2 hM dX5_idempotents_13 vl_RX5_90 rfl rfl rfl (Nat.le_of_ble_eq_true rfl) (Nat.le_of_ble_eq_true rfl) ?_
        refine qs_product (by omega) (by omega) (fun v4 h_v4 => ?_)
        refine r_iload_n hC dX5_idempotents_16 rfl ?_
        have J25_6 : ∀ (w6 : Int), 0 ≤ w6 ∧ w6 ≤ 1 → K 25 [some (vR 2 0), some (vI w1), some (vI w2)] [vI w6, vI w1] σ := by
          intro w6  f_w6 
          refine r_iaddG hC dX5_idempotents_25 (fun v8 h_v8 => ?_)
          refine r_istore_n hC dX5_idempotents_26 rfl ?_
          refine r_iincE hC ((w2 + 1)) dX5_idempotents_27 rfl rfl (by omega) (by unfold inR; omega) ?_
          refine r_goto (tgt := 4) hC dX5_idempotents_30 rfl ?_
          exact ih4 (v8) ((w2 + 1))  (by omega) (by omega)  (by omega)  
        refine r_icmp_ne (tgt := 24) hC dX5_idempotents_17 rfl (fun h5 => ?_) (fun h5 => ?_)
        · refine r_iconst hC dX5_idempotents_24 rfl ?_
          exact J25_6 (0)  (by omega) 
        · refine r_iconst hC dX5_idempotents_20 rfl ?_
          refine r_goto (tgt := 25) hC dX5_idempotents_21 rfl ?_
          exact J25_6 (1)  (by omega) 
  exact L4 6 (0) (0)  (by omega) (by omega)  (by omega)  
theorem qs_commutingPairs {e : Ev} {d : Nat} {P : Option Vl → Mm → Prop} {σ : Mm}   (k : ∀ r : Int, -2147483648 ≤ r ∧ r ≤ 2147483647 → P (some (vI r)) σ) : WT e (d + 2) 56 [vR 2 0] σ P := by
  refine WT_in fun K hK => ?_
  have hK : StpY e cX5_commutingPairs RX5 (some .int) (WT e (d + 1)) P K := hK
  have hM := hK.1
  have hC := hK.1.1
  show K 0 [some (vR 2 0), none, none, none] [] σ
  refine r_iconst hC dX5_commutingPairs_0 rfl ?_
  refine r_istore_n hC dX5_commutingPairs_1 rfl ?_
  refine r_iconst hC dX5_commutingPairs_2 rfl ?_
  refine r_istore_n hC dX5_commutingPairs_3 rfl ?_
  have L4 : ∀ (n4 : Nat) (w1 w2 : Int), -2147483648 ≤ w1 ∧ w1 ≤ 2147483647 → 0 ≤ w2 ∧ w2 ≤ 4 → 4 - w2 < (n4 : Int) → K 4 [some (vR 2 0), some (vI w1), some (vI w2), none] [] σ := by
    intro n4
    induction n4 with
    | zero => intro w1 w2  f_w1 f_w2  hm  ; omega
    | succ n4 ih4 =>
      intro w1 w2  f_w1 f_w2  hm4  
      refine r_iload_n hC dX5_commutingPairs_4 rfl ?_
      refine r_iconst hC dX5_commutingPairs_5 rfl ?_
      refine r_icmp_ge (tgt := 51) hC dX5_commutingPairs_6 rfl (fun h3 => ?_) (fun h3 => ?_)
      · refine r_iload_n hC dX5_commutingPairs_51 rfl ?_
        refine y_iret hK rfl dX5_commutingPairs_52 ?_
        exact k _ (by omega)
      · refine r_iconst hC dX5_commutingPairs_9 rfl ?_
        refine r_istore_n hC dX5_commutingPairs_10 rfl ?_
        have L11 : ∀ (n11 : Nat) (w4 w5 : Int), -2147483648 ≤ w4 ∧ w4 ≤ 2147483647 → 0 ≤ w5 ∧ w5 ≤ 4 → 4 - w5 < (n11 : Int) → K 11 [some (vR 2 0), some (vI w4), some (vI w2), some (vI w5)] [] σ := by
          intro n11
          induction n11 with
          | zero => intro w4 w5  f_w4 f_w5  hm  ; omega
          | succ n11 ih11 =>
            intro w4 w5  f_w4 f_w5  hm11  
            refine r_iload_n hC dX5_commutingPairs_11 rfl ?_
            refine r_iconst hC dX5_commutingPairs_12 rfl ?_
            refine r_icmp_ge (tgt := 45) hC dX5_commutingPairs_13 rfl (fun h6 => ?_) (fun h6 => ?_)
            · refine r_iincE hC ((w2 + 1)) dX5_commutingPairs_45 rfl rfl (by omega) (by unfold inR; omega) ?_
              refine r_goto (tgt := 4) hC dX5_commutingPairs_48 rfl ?_
              refine r_forget hC (ls2 := [some (vR 2 0), some (vI w4), some (vI (w2 + 1)), none]) (lsub_some (lsub_some (lsub_some (lsub_none lsub_nil)))) ?_
              exact ih4 (w4) ((w2 + 1))  (by omega) (by omega)  (by omega)  
            · refine r_iload_n hC dX5_commutingPairs_16 rfl ?_
              refine r_aload_n hC dX5_commutingPairs_17 rfl ?_
              refine r_iload_n hC dX5_commutingPairs_18 rfl ?_
              refine r_iload_n hC dX5_commutingPairs_19 rfl ?_
              refine z_inv2 hM dX5_commutingPairs_20 vl_RX5_90 rfl rfl rfl (Nat.le_of_ble_eq_true rfl) (Nat.le_of_ble_eq_true rfl) ?_
              refine qs_product (by omega) (by omega) (fun v7 h_v7 => ?_)
              refine r_aload_n hC dX5_commutingPairs_23 rfl ?_
              refine r_iload_n hC dX5_commutingPairs_24 rfl ?_
              refine r_iload_n hC dX5_commutingPairs_25 rfl ?_
              refine z_inv2 hM dX5_commutingPairs_26 vl_RX5_90 rfl rfl rfl (Nat.le_of_ble_eq_true rfl) (Nat.le_of_ble_eq_true rfl) ?_
              refine qs_product (by omega) (by omega) (fun v8 h_v8 => ?_)
              have J37_10 : ∀ (w10 : Int), 0 ≤ w10 ∧ w10 ≤ 1 → K 37 [some (vR 2 0), some (vI w4), some (vI w2), some (vI w5)] [vI w10, vI w4] σ := by
                intro w10  f_w10 
                refine r_iaddG hC dX5_commutingPairs_37 (fun v12 h_v12 => ?_)
                refine r_istore_n hC dX5_commutingPairs_38 rfl ?_
                refine r_iincE hC ((w5 + 1)) dX5_commutingPairs_39 rfl rfl (by omega) (by unfold inR; omega) ?_
                refine r_goto (tgt := 11) hC dX5_commutingPairs_42 rfl ?_
                exact ih11 (v12) ((w5 + 1))  (by omega) (by omega)  (by omega)  
              refine r_icmp_ne (tgt := 36) hC dX5_commutingPairs_29 rfl (fun h9 => ?_) (fun h9 => ?_)
              · refine r_iconst hC dX5_commutingPairs_36 rfl ?_
                exact J37_10 (0)  (by omega) 
              · refine r_iconst hC dX5_commutingPairs_32 rfl ?_
                refine r_goto (tgt := 37) hC dX5_commutingPairs_33 rfl ?_
                exact J37_10 (1)  (by omega) 
        exact L11 6 (w1) (0)  (by omega) (by omega)  (by omega)  
  exact L4 6 (0) (0)  (by omega) (by omega)  (by omega)  
theorem qs_element {e : Ev} {d : Nat} {P : Option Vl → Mm → Prop} {σ : Mm} {w : Int}   (k : ∀ r : Int, -2147483648 ≤ r ∧ r ≤ 2147483647 → P (some (vI r)) σ) : WT e (d + 3) 50 [vR 2 0, vI w] σ P := by
  refine WT_in fun K hK => ?_
  have hK : StpY e cX5_element RX5 (some .int) (WT e (d + 2)) P K := hK
  have hM := hK.1
  have hC := hK.1.1
  show K 0 [some (vR 2 0), some (vI w)] [] σ
  refine r_rngz hC (fun g0 => ?_)
  have r_w : -2147483648 ≤ w ∧ w ≤ 2147483647 := inR_le (g0 (vI w) (by simp))
  refine r_iload_n hC dX5_element_0 rfl ?_
  rcases (by omega : (w < 0 ∨ 3 < w) ∨ w = 0 ∨ w = 1 ∨ w = 2 ∨ w = 3) with h1 | h1 | h1 | h1 | h1
  · refine r_tableOut (tgt := 52) hC dX5_element_1 h1 rfl ?_
    refine r_iconst hC dX5_element_52 rfl ?_
    refine y_iret hK rfl dX5_element_53 ?_
    exact k _ (by omega)
  · refine r_tableIn (tgt := 32) (off := 31) hC dX5_element_1 (by omega) (by omega) (by rw [h1]; rfl) rfl ?_
    refine r_aload_n hC dX5_element_32 rfl ?_
    refine z_inv0 hM dX5_element_33 vl_RX5_77 rfl rfl rfl (Nat.le_of_ble_eq_true rfl) (Nat.le_of_ble_eq_true rfl) ?_
    refine qs_firstNeutral (fun v2 h_v2 => ?_)
    refine y_iret hK rfl dX5_element_36 ?_
    exact k _ (by omega)
  · refine r_tableIn (tgt := 37) (off := 36) hC dX5_element_1 (by omega) (by omega) (by rw [h1]; rfl) rfl ?_
    refine r_aload_n hC dX5_element_37 rfl ?_
    refine z_inv0 hM dX5_element_38 vl_RX5_81 rfl rfl rfl (Nat.le_of_ble_eq_true rfl) (Nat.le_of_ble_eq_true rfl) ?_
    refine qs_firstAbsorbing (fun v3 h_v3 => ?_)
    refine y_iret hK rfl dX5_element_41 ?_
    exact k _ (by omega)
  · refine r_tableIn (tgt := 42) (off := 41) hC dX5_element_1 (by omega) (by omega) (by rw [h1]; rfl) rfl ?_
    refine r_aload_n hC dX5_element_42 rfl ?_
    refine z_inv0 hM dX5_element_43 vl_RX5_84 rfl rfl rfl (Nat.le_of_ble_eq_true rfl) (Nat.le_of_ble_eq_true rfl) ?_
    refine qs_idempotents (fun v4 h_v4 => ?_)
    refine y_iret hK rfl dX5_element_46 ?_
    exact k _ (by omega)
  · refine r_tableIn (tgt := 47) (off := 46) hC dX5_element_1 (by omega) (by omega) (by rw [h1]; rfl) rfl ?_
    refine r_aload_n hC dX5_element_47 rfl ?_
    refine z_inv0 hM dX5_element_48 vl_RX5_87 rfl rfl rfl (Nat.le_of_ble_eq_true rfl) (Nat.le_of_ble_eq_true rfl) ?_
    refine qs_commutingPairs (fun v5 h_v5 => ?_)
    refine y_iret hK rfl dX5_element_51 ?_
    exact k _ (by omega)
theorem qs_isUsed {e : Ev} {d : Nat} {P : Option Vl → Mm → Prop} {σ : Mm} {o : Int}   (k : ∀ r : Int, 0 ≤ r ∧ r ≤ 1 → P (some (vI r)) σ) : WT e (d + 1) 57 [vR 2 0, vI o] σ P := by
  refine WT_in fun K hK => ?_
  have hK : StpY e cX5_isUsed RX5 (some .boolean) (WT e (d + 0)) P K := hK
  have hM := hK.1
  have hC := hK.1.1
  show K 0 [some (vR 2 0), some (vI o), none] [] σ
  refine r_rngz hC (fun g0 => ?_)
  have r_o : -2147483648 ≤ o ∧ o ≤ 2147483647 := inR_le (g0 (vI o) (by simp))
  refine r_iconst hC dX5_isUsed_0 rfl ?_
  refine r_istore_n hC dX5_isUsed_1 rfl ?_
  have L2 : ∀ (n2 : Nat) (w1 : Int), 0 ≤ w1 ∧ w1 ≤ 4 → 4 - w1 < (n2 : Int) → K 2 [some (vR 2 0), some (vI o), some (vI w1)] [] σ := by
    intro n2
    induction n2 with
    | zero => intro w1  f_w1  hm  ; omega
    | succ n2 ih2 =>
      intro w1  f_w1  hm2  
      refine r_iload_n hC dX5_isUsed_2 rfl ?_
      refine r_iconst hC dX5_isUsed_3 rfl ?_
      refine r_icmp_ge (tgt := 40) hC dX5_isUsed_4 rfl (fun h2 => ?_) (fun h2 => ?_)
      · refine r_iconst hC dX5_isUsed_40 rfl ?_
        refine r_istore_n hC dX5_isUsed_41 rfl ?_
        have L42 : ∀ (n42 : Nat) (w3 : Int), 0 ≤ w3 ∧ w3 ≤ 3 → 3 - w3 < (n42 : Int) → K 42 [some (vR 2 0), some (vI o), some (vI w3)] [] σ := by
          intro n42
          induction n42 with
          | zero => intro w3  f_w3  hm  ; omega
          | succ n42 ih42 =>
            intro w3  f_w3  hm42  
            refine r_iload_n hC dX5_isUsed_42 rfl ?_
            refine r_iconst hC dX5_isUsed_43 rfl ?_
            refine r_icmp_ge (tgt := 80) hC dX5_isUsed_44 rfl (fun h4 => ?_) (fun h4 => ?_)
            · refine r_iconst hC dX5_isUsed_80 rfl ?_
              refine y_zret hK rfl dX5_isUsed_81 (by omega) ?_
              exact k _ (by omega)
            · refine r_aload_n hC dX5_isUsed_47 rfl ?_
              refine z_getR hM dX5_isUsed_48 fl_RX5_27 rfl rfl (vld_of (n := 1) rfl (by omega) (by omega)) ?_
              refine r_iload_n hC dX5_isUsed_51 rfl ?_
              refine z_aald hM dX5_isUsed_52 rfl (by decide) (by omega) (by omega) (vld_of (n := 7) rfl (by omega) (by omega)) ?_
              rw [show rfa 4 w3 = (7, (w3 + 4)) from by simp [rfa]; try omega]
              refine z_getI (jz := 1) hM dX5_isUsed_53 fl_RX5_94 rfl rfl rfl (fun v5 h_v5 o_v5 t_v5 => ?_)
              clear t_v5
              have q_v5 : 0 ≤ v5 ∧ v5 ≤ 1 := by have := o_v5.2.1 rfl; omega
              refine r_if_eq (tgt := 74) hC dX5_isUsed_56 rfl (fun h6 => ?_) (fun h6 => ?_)
              · refine r_iincE hC ((w3 + 1)) dX5_isUsed_74 rfl rfl (by omega) (by unfold inR; omega) ?_
                refine r_goto (tgt := 42) hC dX5_isUsed_77 rfl ?_
                exact ih42 ((w3 + 1))  (by omega)  (by omega)  
              · refine r_aload_n hC dX5_isUsed_59 rfl ?_
                refine z_getR hM dX5_isUsed_60 fl_RX5_27 rfl rfl (vld_of (n := 1) rfl (by omega) (by omega)) ?_
                refine r_iload_n hC dX5_isUsed_63 rfl ?_
                refine z_aald hM dX5_isUsed_64 rfl (by decide) (by omega) (by omega) (vld_of (n := 7) rfl (by omega) (by omega)) ?_
                rw [show rfa 4 w3 = (7, (w3 + 4)) from by simp [rfa]; try omega]
                refine z_getI (jz := 2) hM dX5_isUsed_65 fl_RX5_98 rfl rfl rfl (fun v7 h_v7 o_v7 t_v7 => ?_)
                clear t_v7
                have q_v7 : 0 ≤ v7 ∧ v7 ≤ 9 := o_v7.2.2 rfl
                refine r_iload_n hC dX5_isUsed_68 rfl ?_
                refine r_icmp_ne (tgt := 74) hC dX5_isUsed_69 rfl (fun h8 => ?_) (fun h8 => ?_)
                · refine r_iincE hC ((w3 + 1)) dX5_isUsed_74 rfl rfl (by omega) (by unfold inR; omega) ?_
                  refine r_goto (tgt := 42) hC dX5_isUsed_77 rfl ?_
                  exact ih42 ((w3 + 1))  (by omega)  (by omega)  
                · refine r_iconst hC dX5_isUsed_72 rfl ?_
                  refine y_zret hK rfl dX5_isUsed_73 (by omega) ?_
                  exact k _ (by omega)
        exact L42 5 (0)  (by omega)  (by omega)  
      · refine r_aload_n hC dX5_isUsed_7 rfl ?_
        refine z_getR hM dX5_isUsed_8 fl_RX5_13 rfl rfl (vld_of (n := 1) rfl (by omega) (by omega)) ?_
        refine r_iload_n hC dX5_isUsed_11 rfl ?_
        refine z_aald hM dX5_isUsed_12 rfl (by decide) (by omega) (by omega) (vld_of (n := 7) rfl (by omega) (by omega)) ?_
        refine z_getI (jz := 1) hM dX5_isUsed_13 fl_RX5_94 rfl rfl rfl (fun v9 h_v9 o_v9 t_v9 => ?_)
        clear t_v9
        have q_v9 : 0 ≤ v9 ∧ v9 ≤ 1 := by have := o_v9.2.1 rfl; omega
        refine r_if_eq (tgt := 34) hC dX5_isUsed_16 rfl (fun h10 => ?_) (fun h10 => ?_)
        · refine r_iincE hC ((w1 + 1)) dX5_isUsed_34 rfl rfl (by omega) (by unfold inR; omega) ?_
          refine r_goto (tgt := 2) hC dX5_isUsed_37 rfl ?_
          exact ih2 ((w1 + 1))  (by omega)  (by omega)  
        · refine r_aload_n hC dX5_isUsed_19 rfl ?_
          refine z_getR hM dX5_isUsed_20 fl_RX5_13 rfl rfl (vld_of (n := 1) rfl (by omega) (by omega)) ?_
          refine r_iload_n hC dX5_isUsed_23 rfl ?_
          refine z_aald hM dX5_isUsed_24 rfl (by decide) (by omega) (by omega) (vld_of (n := 7) rfl (by omega) (by omega)) ?_
          refine z_getI (jz := 2) hM dX5_isUsed_25 fl_RX5_98 rfl rfl rfl (fun v11 h_v11 o_v11 t_v11 => ?_)
          clear t_v11
          have q_v11 : 0 ≤ v11 ∧ v11 ≤ 9 := o_v11.2.2 rfl
          refine r_iload_n hC dX5_isUsed_28 rfl ?_
          refine r_icmp_ne (tgt := 34) hC dX5_isUsed_29 rfl (fun h12 => ?_) (fun h12 => ?_)
          · refine r_iincE hC ((w1 + 1)) dX5_isUsed_34 rfl rfl (by omega) (by unfold inR; omega) ?_
            refine r_goto (tgt := 2) hC dX5_isUsed_37 rfl ?_
            exact ih2 ((w1 + 1))  (by omega)  (by omega)  
          · refine r_iconst hC dX5_isUsed_32 rfl ?_
            refine y_zret hK rfl dX5_isUsed_33 (by omega) ?_
            exact k _ (by omega)
  exact L2 6 (0)  (by omega)  (by omega)  
theorem qs_openLane {e : Ev} {d : Nat} {P : Option Vl → Mm → Prop} {σ : Mm} {l : Int}   (kN : P (some vN) σ) (kR : (0 ≤ l ∧ l ≤ 3) → P (some (vR 7 l)) σ) : WT e (d + 3) 129 [vR 2 0, vI l] σ P := by
  refine WT_in fun K hK => ?_
  have hK : StpY e cX5_openLane RX5 (some (.object "SlideFold$Lane")) (WT e (d + 2)) P K := hK
  have hM := hK.1
  have hC := hK.1.1
  show K 0 [some (vR 2 0), some (vI l)] [] σ
  refine r_rngz hC (fun g0 => ?_)
  have r_l : -2147483648 ≤ l ∧ l ≤ 2147483647 := inR_le (g0 (vI l) (by simp))
  refine r_iload_n hC dX5_openLane_0 rfl ?_
  refine z_ins1 hM dX5_openLane_1 tl_RX5_102 rfl (Nat.le_of_ble_eq_true rfl) (Nat.le_of_ble_eq_true rfl) ?_
  refine qs_isLane (fun h2 => ?_) (fun h2 => ?_)
  · refine r_if_eq (tgt := 28) hC dX5_openLane_4 rfl (fun h3 => by omega) (fun h3 => ?_)
    refine r_aload_n hC dX5_openLane_7 rfl ?_
    refine z_getR hM dX5_openLane_8 fl_RX5_13 rfl rfl (vld_of (n := 1) rfl (by omega) (by omega)) ?_
    refine r_iload_n hC dX5_openLane_11 rfl ?_
    refine z_aald hM dX5_openLane_12 rfl (by decide) (by omega) (by omega) (vld_of (n := 7) rfl (by omega) (by omega)) ?_
    refine z_getI (jz := 1) hM dX5_openLane_13 fl_RX5_94 rfl rfl rfl (fun v4 h_v4 o_v4 t_v4 => ?_)
    clear t_v4
    have q_v4 : 0 ≤ v4 ∧ v4 ≤ 1 := by have := o_v4.2.1 rfl; omega
    refine r_if_eq (tgt := 28) hC dX5_openLane_16 rfl (fun h5 => ?_) (fun h5 => ?_)
    · refine r_null hC dX5_openLane_28 ?_
      refine y_aret hK rfl dX5_openLane_29 ?_
      exact kN
    · refine r_aload_n hC dX5_openLane_19 rfl ?_
      refine z_getR hM dX5_openLane_20 fl_RX5_13 rfl rfl (vld_of (n := 1) rfl (by omega) (by omega)) ?_
      refine r_iload_n hC dX5_openLane_23 rfl ?_
      refine z_aald hM dX5_openLane_24 rfl (by decide) (by omega) (by omega) (vld_of (n := 7) rfl (by omega) (by omega)) ?_
      refine r_goto (tgt := 29) hC dX5_openLane_25 rfl ?_
      refine y_aret hK rfl dX5_openLane_29 ?_
      exact kR (by omega)
  · refine r_if_eq (tgt := 28) hC dX5_openLane_4 rfl (fun h6 => ?_) (fun h6 => by omega)
    refine r_null hC dX5_openLane_28 ?_
    refine y_aret hK rfl dX5_openLane_29 ?_
    exact kN
theorem qs_hasNumber {e : Ev} {d : Nat} {P : Option Vl → Mm → Prop} {σ : Mm} {i w : Int} (b_i : 0 ≤ i ∧ i ≤ 6)  (k : ∀ r : Int, 0 ≤ r ∧ r ≤ 1 → P (some (vI r)) σ) : WT e (d + 2) 28 [vR 7 i, vI w] σ P := by
  refine WT_in fun K hK => ?_
  have hK : StpY e cX2_hasNumber RX2 (some .boolean) (WT e (d + 1)) P K := hK
  have hM := hK.1
  have hC := hK.1.1
  show K 0 [some (vR 7 i), some (vI w)] [] σ
  refine r_rngz hC (fun g0 => ?_)
  have r_w : -2147483648 ≤ w ∧ w ≤ 2147483647 := inR_le (g0 (vI w) (by simp))
  refine r_iload_n hC dX2_hasNumber_0 rfl ?_
  refine r_iconst hC dX2_hasNumber_1 rfl ?_
  refine z_nums hM dX2_hasNumber_2 sl_RX2_82 ?_
  refine r_aload_n hC dX2_hasNumber_5 rfl ?_
  refine z_getI (jz := 2) hM dX2_hasNumber_6 fl_RX2_36 rfl rfl rfl (fun v1 h_v1 o_v1 t_v1 => ?_)
  clear t_v1
  have q_v1 : 0 ≤ v1 ∧ v1 ≤ 9 := o_v1.2.2 rfl
  refine z_nald hM dX2_hasNumber_9 (by omega) (by omega) ?_
  obtain ⟨v2, e_v2⟩ : ∃ x, x = numF v1 := ⟨_, rfl⟩
  rw [← e_v2]
  have h_v2 : 1 ≤ v2 ∧ v2 ≤ 7 := by rw [e_v2]; exact numF_rng _
  refine r_iconst hC dX2_hasNumber_10 rfl ?_
  refine r_isubE hC ((v2 - 1)) dX2_hasNumber_11 (by omega) (by unfold inR; omega) ?_
  refine z_ins3 hM dX2_hasNumber_12 tl_RX2_85 rfl (Nat.le_of_ble_eq_true rfl) (Nat.le_of_ble_eq_true rfl) ?_
  refine qs_within (fun h4 => ?_) (fun h4 => ?_)
  · refine y_zret hK rfl dX2_hasNumber_15 (by omega) ?_
    exact k _ (by omega)
  · refine y_zret hK rfl dX2_hasNumber_15 (by omega) ?_
    exact k _ (by omega)
theorem qs_laneWith {e : Ev} {d : Nat} {P : Option Vl → Mm → Prop} {σ : Mm} {l w : Int}   (kN : P (some vN) σ) (kR : (0 ≤ l ∧ l ≤ 3) → P (some (vR 7 l)) σ) : WT e (d + 4) 130 [vR 2 0, vI l, vI w] σ P := by
  refine WT_in fun K hK => ?_
  have hK : StpY e cX5_laneWith RX5 (some (.object "SlideFold$Lane")) (WT e (d + 3)) P K := hK
  have hM := hK.1
  have hC := hK.1.1
  show K 0 [some (vR 2 0), some (vI l), some (vI w), none] [] σ
  refine r_rngz hC (fun g0 => ?_)
  have r_l : -2147483648 ≤ l ∧ l ≤ 2147483647 := inR_le (g0 (vI l) (by simp))
  have r_w : -2147483648 ≤ w ∧ w ≤ 2147483647 := inR_le (g0 (vI w) (by simp))
  refine r_aload_n hC dX5_laneWith_0 rfl ?_
  refine r_iload_n hC dX5_laneWith_1 rfl ?_
  refine z_inv1 hM dX5_laneWith_2 vl_RX5_123 rfl rfl rfl (Nat.le_of_ble_eq_true rfl) (Nat.le_of_ble_eq_true rfl) ?_
  refine qs_openLane ?_ (fun h1 => ?_)
  · refine r_astoreN_n hC dX5_laneWith_5 rfl ?_
    refine r_aloadN_n hC dX5_laneWith_6 rfl ?_
    refine r_ifnullN (tgt := 22) hC dX5_laneWith_7 rfl ?_
    refine r_null hC dX5_laneWith_22 ?_
    refine y_aret hK rfl dX5_laneWith_23 ?_
    exact kN
  · refine r_astore_n hC dX5_laneWith_5 rfl ?_
    refine r_aload_n hC dX5_laneWith_6 rfl ?_
    refine r_ifnullR hC dX5_laneWith_7 ?_
    refine r_aload_n hC dX5_laneWith_10 rfl ?_
    refine r_iload_n hC dX5_laneWith_11 rfl ?_
    refine z_inv1 hM dX5_laneWith_12 vl_RX5_266 rfl rfl rfl (Nat.le_of_ble_eq_true rfl) (Nat.le_of_ble_eq_true rfl) ?_
    refine qs_hasNumber (by omega) (fun v2 h_v2 => ?_)
    refine r_if_eq (tgt := 22) hC dX5_laneWith_15 rfl (fun h3 => ?_) (fun h3 => ?_)
    · refine r_null hC dX5_laneWith_22 ?_
      refine y_aret hK rfl dX5_laneWith_23 ?_
      exact kN
    · refine r_aload_n hC dX5_laneWith_18 rfl ?_
      refine r_goto (tgt := 23) hC dX5_laneWith_19 rfl ?_
      refine y_aret hK rfl dX5_laneWith_23 ?_
      exact kR (by omega)
theorem qs_laneHolding {e : Ev} {d : Nat} {P : Option Vl → Mm → Prop} {σ : Mm} {l x : Int}   (kN : P (some vN) σ) (kR : (0 ≤ l ∧ l ≤ 3) ∧ 0 ≤ x ∧ x ≤ 120 → (true = true → x < σ 7 l 6) → P (some (vR 7 l)) σ) : WT e (d + 4) 131 [vR 2 0, vI l, vI x] σ P := by
  refine WT_in fun K hK => ?_
  have hK : StpY e cX5_laneHolding RX5 (some (.object "SlideFold$Lane")) (WT e (d + 3)) P K := hK
  have hM := hK.1
  have hC := hK.1.1
  show K 0 [some (vR 2 0), some (vI l), some (vI x), none] [] σ
  refine r_rngz hC (fun g0 => ?_)
  have r_l : -2147483648 ≤ l ∧ l ≤ 2147483647 := inR_le (g0 (vI l) (by simp))
  have r_x : -2147483648 ≤ x ∧ x ≤ 2147483647 := inR_le (g0 (vI x) (by simp))
  refine r_aload_n hC dX5_laneHolding_0 rfl ?_
  refine r_iload_n hC dX5_laneHolding_1 rfl ?_
  refine z_inv1 hM dX5_laneHolding_2 vl_RX5_123 rfl rfl rfl (Nat.le_of_ble_eq_true rfl) (Nat.le_of_ble_eq_true rfl) ?_
  refine qs_openLane ?_ (fun h1 => ?_)
  · refine r_astoreN_n hC dX5_laneHolding_5 rfl ?_
    refine r_aloadN_n hC dX5_laneHolding_6 rfl ?_
    refine r_ifnullN (tgt := 28) hC dX5_laneHolding_7 rfl ?_
    refine r_null hC dX5_laneHolding_28 ?_
    refine y_aret hK rfl dX5_laneHolding_29 ?_
    exact kN
  · refine r_astore_n hC dX5_laneHolding_5 rfl ?_
    refine r_aload_n hC dX5_laneHolding_6 rfl ?_
    refine r_ifnullR hC dX5_laneHolding_7 ?_
    refine r_iload_n hC dX5_laneHolding_10 rfl ?_
    refine r_iconst hC dX5_laneHolding_11 rfl ?_
    refine r_aload_n hC dX5_laneHolding_12 rfl ?_
    refine z_getI (jz := 6) hM dX5_laneHolding_13 fl_RX5_154 rfl rfl rfl (fun v2 h_v2 o_v2 t_v2 => ?_)
    have q_v2 : 0 ≤ v2 ∧ v2 ≤ 121 := o_v2.1 rfl
    refine r_iconst hC dX5_laneHolding_16 rfl ?_
    refine r_isubE hC ((v2 - 1)) dX5_laneHolding_17 (by omega) (by unfold inR; omega) ?_
    refine z_ins3 hM dX5_laneHolding_18 tl_RX5_59 rfl (Nat.le_of_ble_eq_true rfl) (Nat.le_of_ble_eq_true rfl) ?_
    refine qs_within (fun h4 => ?_) (fun h4 => ?_)
    · refine r_if_eq (tgt := 28) hC dX5_laneHolding_21 rfl (fun h5 => by omega) (fun h5 => ?_)
      refine r_aload_n hC dX5_laneHolding_24 rfl ?_
      refine r_goto (tgt := 29) hC dX5_laneHolding_25 rfl ?_
      refine y_aret hK rfl dX5_laneHolding_29 ?_
      exact kR (by omega) (fun he => by have := t_v2 (Or.inl (by simp [Tb])); omega)
    · refine r_if_eq (tgt := 28) hC dX5_laneHolding_21 rfl (fun h6 => ?_) (fun h6 => by omega)
      refine r_null hC dX5_laneHolding_28 ?_
      refine y_aret hK rfl dX5_laneHolding_29 ?_
      exact kN
theorem qs_openLanes {e : Ev} {d : Nat} {P : Option Vl → Mm → Prop} {σ : Mm}   (k : ∀ r : Int, -2147483648 ≤ r ∧ r ≤ 2147483647 → P (some (vI r)) σ) : WT e (d + 1) 117 [vR 2 0] σ P := by
  refine WT_in fun K hK => ?_
  have hK : StpY e cX5_openLanes RX5 (some .int) (WT e (d + 0)) P K := hK
  have hM := hK.1
  have hC := hK.1.1
  show K 0 [some (vR 2 0), none, none] [] σ
  refine r_iconst hC dX5_openLanes_0 rfl ?_
  refine r_istore_n hC dX5_openLanes_1 rfl ?_
  refine r_iconst hC dX5_openLanes_2 rfl ?_
  refine r_istore_n hC dX5_openLanes_3 rfl ?_
  have L4 : ∀ (n4 : Nat) (w1 w2 : Int), -2147483648 ≤ w1 ∧ w1 ≤ 2147483647 → 0 ≤ w2 ∧ w2 ≤ 4 → 4 - w2 < (n4 : Int) → K 4 [some (vR 2 0), some (vI w1), some (vI w2)] [] σ := by
    intro n4
    induction n4 with
    | zero => intro w1 w2  f_w1 f_w2  hm  ; omega
    | succ n4 ih4 =>
      intro w1 w2  f_w1 f_w2  hm4  
      refine r_iload_n hC dX5_openLanes_4 rfl ?_
      refine r_iconst hC dX5_openLanes_5 rfl ?_
      refine r_icmp_ge (tgt := 35) hC dX5_openLanes_6 rfl (fun h3 => ?_) (fun h3 => ?_)
      · refine r_iload_n hC dX5_openLanes_35 rfl ?_
        refine y_iret hK rfl dX5_openLanes_36 ?_
        exact k _ (by omega)
      · refine r_iload_n hC dX5_openLanes_9 rfl ?_
        refine r_aload_n hC dX5_openLanes_10 rfl ?_
        refine z_getR hM dX5_openLanes_11 fl_RX5_13 rfl rfl (vld_of (n := 1) rfl (by omega) (by omega)) ?_
        refine r_iload_n hC dX5_openLanes_14 rfl ?_
        refine z_aald hM dX5_openLanes_15 rfl (by decide) (by omega) (by omega) (vld_of (n := 7) rfl (by omega) (by omega)) ?_
        refine z_getI (jz := 1) hM dX5_openLanes_16 fl_RX5_94 rfl rfl rfl (fun v4 h_v4 o_v4 t_v4 => ?_)
        clear t_v4
        have q_v4 : 0 ≤ v4 ∧ v4 ≤ 1 := by have := o_v4.2.1 rfl; omega
        have J27_6 : ∀ (w6 : Int), 0 ≤ w6 ∧ w6 ≤ 1 → K 27 [some (vR 2 0), some (vI w1), some (vI w2)] [vI w6, vI w1] σ := by
          intro w6  f_w6 
          refine r_iaddG hC dX5_openLanes_27 (fun v8 h_v8 => ?_)
          refine r_istore_n hC dX5_openLanes_28 rfl ?_
          refine r_iincE hC ((w2 + 1)) dX5_openLanes_29 rfl rfl (by omega) (by unfold inR; omega) ?_
          refine r_goto (tgt := 4) hC dX5_openLanes_32 rfl ?_
          exact ih4 (v8) ((w2 + 1))  (by omega) (by omega)  (by omega)  
        refine r_if_eq (tgt := 26) hC dX5_openLanes_19 rfl (fun h5 => ?_) (fun h5 => ?_)
        · refine r_iconst hC dX5_openLanes_26 rfl ?_
          exact J27_6 (0)  (by omega) 
        · refine r_iconst hC dX5_openLanes_22 rfl ?_
          refine r_goto (tgt := 27) hC dX5_openLanes_23 rfl ?_
          exact J27_6 (1)  (by omega) 
  exact L4 6 (0) (0)  (by omega) (by omega)  (by omega)  
theorem qs_heldInAll {e : Ev} {d : Nat} {P : Option Vl → Mm → Prop} {σ : Mm}   (k : ∀ r : Int, -2147483648 ≤ r ∧ r ≤ 2147483647 → P (some (vI r)) σ) : WT e (d + 1) 118 [vR 2 0] σ P := by
  refine WT_in fun K hK => ?_
  have hK : StpY e cX5_heldInAll RX5 (some .int) (WT e (d + 0)) P K := hK
  have hM := hK.1
  have hC := hK.1.1
  show K 0 [some (vR 2 0), none, none] [] σ
  refine r_iconst hC dX5_heldInAll_0 rfl ?_
  refine r_istore_n hC dX5_heldInAll_1 rfl ?_
  refine r_iconst hC dX5_heldInAll_2 rfl ?_
  refine r_istore_n hC dX5_heldInAll_3 rfl ?_
  have L4 : ∀ (n4 : Nat) (w1 w2 : Int), -2147483648 ≤ w1 ∧ w1 ≤ 2147483647 → 0 ≤ w2 ∧ w2 ≤ 4 → 4 - w2 < (n4 : Int) → K 4 [some (vR 2 0), some (vI w1), some (vI w2)] [] σ := by
    intro n4
    induction n4 with
    | zero => intro w1 w2  f_w1 f_w2  hm  ; omega
    | succ n4 ih4 =>
      intro w1 w2  f_w1 f_w2  hm4  
      refine r_iload_n hC dX5_heldInAll_4 rfl ?_
      refine r_iconst hC dX5_heldInAll_5 rfl ?_
      refine r_icmp_ge (tgt := 43) hC dX5_heldInAll_6 rfl (fun h3 => ?_) (fun h3 => ?_)
      · refine r_iload_n hC dX5_heldInAll_43 rfl ?_
        refine y_iret hK rfl dX5_heldInAll_44 ?_
        exact k _ (by omega)
      · refine r_iload_n hC dX5_heldInAll_9 rfl ?_
        refine r_aload_n hC dX5_heldInAll_10 rfl ?_
        refine z_getR hM dX5_heldInAll_11 fl_RX5_13 rfl rfl (vld_of (n := 1) rfl (by omega) (by omega)) ?_
        refine r_iload_n hC dX5_heldInAll_14 rfl ?_
        refine z_aald hM dX5_heldInAll_15 rfl (by decide) (by omega) (by omega) (vld_of (n := 7) rfl (by omega) (by omega)) ?_
        refine z_getI (jz := 1) hM dX5_heldInAll_16 fl_RX5_94 rfl rfl rfl (fun v4 h_v4 o_v4 t_v4 => ?_)
        clear t_v4
        have q_v4 : 0 ≤ v4 ∧ v4 ≤ 1 := by have := o_v4.2.1 rfl; omega
        have J35_6 : ∀ (w6 : Int), 0 ≤ w6 ∧ w6 ≤ 121 → K 35 [some (vR 2 0), some (vI w1), some (vI w2)] [vI w6, vI w1] σ := by
          intro w6  f_w6 
          refine r_iaddG hC dX5_heldInAll_35 (fun v8 h_v8 => ?_)
          refine r_istore_n hC dX5_heldInAll_36 rfl ?_
          refine r_iincE hC ((w2 + 1)) dX5_heldInAll_37 rfl rfl (by omega) (by unfold inR; omega) ?_
          refine r_goto (tgt := 4) hC dX5_heldInAll_40 rfl ?_
          exact ih4 (v8) ((w2 + 1))  (by omega) (by omega)  (by omega)  
        refine r_if_eq (tgt := 34) hC dX5_heldInAll_19 rfl (fun h5 => ?_) (fun h5 => ?_)
        · refine r_iconst hC dX5_heldInAll_34 rfl ?_
          exact J35_6 (0)  (by omega) 
        · refine r_aload_n hC dX5_heldInAll_22 rfl ?_
          refine z_getR hM dX5_heldInAll_23 fl_RX5_13 rfl rfl (vld_of (n := 1) rfl (by omega) (by omega)) ?_
          refine r_iload_n hC dX5_heldInAll_26 rfl ?_
          refine z_aald hM dX5_heldInAll_27 rfl (by decide) (by omega) (by omega) (vld_of (n := 7) rfl (by omega) (by omega)) ?_
          refine z_getI (jz := 6) hM dX5_heldInAll_28 fl_RX5_154 rfl rfl rfl (fun v9 h_v9 o_v9 t_v9 => ?_)
          clear t_v9
          have q_v9 : 0 ≤ v9 ∧ v9 ≤ 121 := o_v9.1 rfl
          refine r_goto (tgt := 35) hC dX5_heldInAll_31 rfl ?_
          exact J35_6 (v9)  (by omega) 
  exact L4 6 (0) (0)  (by omega) (by omega)  (by omega)  
theorem qs_spentInAll {e : Ev} {d : Nat} {P : Option Vl → Mm → Prop} {σ : Mm}   (k : ∀ r : Int, -2147483648 ≤ r ∧ r ≤ 2147483647 → P (some (vI r)) σ) : WT e (d + 1) 119 [vR 2 0] σ P := by
  refine WT_in fun K hK => ?_
  have hK : StpY e cX5_spentInAll RX5 (some .int) (WT e (d + 0)) P K := hK
  have hM := hK.1
  have hC := hK.1.1
  show K 0 [some (vR 2 0), none, none] [] σ
  refine r_iconst hC dX5_spentInAll_0 rfl ?_
  refine r_istore_n hC dX5_spentInAll_1 rfl ?_
  refine r_iconst hC dX5_spentInAll_2 rfl ?_
  refine r_istore_n hC dX5_spentInAll_3 rfl ?_
  have L4 : ∀ (n4 : Nat) (w1 w2 : Int), -2147483648 ≤ w1 ∧ w1 ≤ 2147483647 → 0 ≤ w2 ∧ w2 ≤ 4 → 4 - w2 < (n4 : Int) → K 4 [some (vR 2 0), some (vI w1), some (vI w2)] [] σ := by
    intro n4
    induction n4 with
    | zero => intro w1 w2  f_w1 f_w2  hm  ; omega
    | succ n4 ih4 =>
      intro w1 w2  f_w1 f_w2  hm4  
      refine r_iload_n hC dX5_spentInAll_4 rfl ?_
      refine r_iconst hC dX5_spentInAll_5 rfl ?_
      refine r_icmp_ge (tgt := 46) hC dX5_spentInAll_6 rfl (fun h3 => ?_) (fun h3 => ?_)
      · refine r_iload_n hC dX5_spentInAll_46 rfl ?_
        refine y_iret hK rfl dX5_spentInAll_47 ?_
        exact k _ (by omega)
      · refine r_iload_n hC dX5_spentInAll_9 rfl ?_
        refine r_aload_n hC dX5_spentInAll_10 rfl ?_
        refine z_getR hM dX5_spentInAll_11 fl_RX5_13 rfl rfl (vld_of (n := 1) rfl (by omega) (by omega)) ?_
        refine r_iload_n hC dX5_spentInAll_14 rfl ?_
        refine z_aald hM dX5_spentInAll_15 rfl (by decide) (by omega) (by omega) (vld_of (n := 7) rfl (by omega) (by omega)) ?_
        refine z_getI (jz := 1) hM dX5_spentInAll_16 fl_RX5_94 rfl rfl rfl (fun v4 h_v4 o_v4 t_v4 => ?_)
        clear t_v4
        have q_v4 : 0 ≤ v4 ∧ v4 ≤ 1 := by have := o_v4.2.1 rfl; omega
        have J38_6 : ∀ (w6 : Int), -2147483648 ≤ w6 ∧ w6 ≤ 2147483647 → K 38 [some (vR 2 0), some (vI w1), some (vI w2)] [vI w6, vI w1] σ := by
          intro w6  f_w6 
          refine r_iaddG hC dX5_spentInAll_38 (fun v8 h_v8 => ?_)
          refine r_istore_n hC dX5_spentInAll_39 rfl ?_
          refine r_iincE hC ((w2 + 1)) dX5_spentInAll_40 rfl rfl (by omega) (by unfold inR; omega) ?_
          refine r_goto (tgt := 4) hC dX5_spentInAll_43 rfl ?_
          exact ih4 (v8) ((w2 + 1))  (by omega) (by omega)  (by omega)  
        refine r_if_eq (tgt := 37) hC dX5_spentInAll_19 rfl (fun h5 => ?_) (fun h5 => ?_)
        · refine r_iconst hC dX5_spentInAll_37 rfl ?_
          exact J38_6 (0)  (by omega) 
        · refine r_aload_n hC dX5_spentInAll_22 rfl ?_
          refine z_getR hM dX5_spentInAll_23 fl_RX5_13 rfl rfl (vld_of (n := 1) rfl (by omega) (by omega)) ?_
          refine r_iload_n hC dX5_spentInAll_26 rfl ?_
          refine z_aald hM dX5_spentInAll_27 rfl (by decide) (by omega) (by omega) (vld_of (n := 7) rfl (by omega) (by omega)) ?_
          refine z_getR hM dX5_spentInAll_28 fl_RX5_189 rfl rfl (vld_of (n := 8) rfl (by omega) (by omega)) ?_
          refine z_getI (jz := 5) hM dX5_spentInAll_31 fl_RX5_304 rfl rfl rfl (fun v9 h_v9 o_v9 t_v9 => ?_)
          clear t_v9
          refine r_goto (tgt := 38) hC dX5_spentInAll_34 rfl ?_
          exact J38_6 (v9)  (by omega) 
  exact L4 6 (0) (0)  (by omega) (by omega)  (by omega)  
theorem qs_fullBoxes {e : Ev} {d : Nat} {P : Option Vl → Mm → Prop} {σ : Mm}   (k : ∀ r : Int, -2147483648 ≤ r ∧ r ≤ 2147483647 → P (some (vI r)) σ) : WT e (d + 1) 121 [vR 2 0] σ P := by
  refine WT_in fun K hK => ?_
  have hK : StpY e cX5_fullBoxes RX5 (some .int) (WT e (d + 0)) P K := hK
  have hM := hK.1
  have hC := hK.1.1
  show K 0 [some (vR 2 0), none, none] [] σ
  refine r_iconst hC dX5_fullBoxes_0 rfl ?_
  refine r_istore_n hC dX5_fullBoxes_1 rfl ?_
  refine r_iconst hC dX5_fullBoxes_2 rfl ?_
  refine r_istore_n hC dX5_fullBoxes_3 rfl ?_
  have L4 : ∀ (n4 : Nat) (w1 w2 : Int), -2147483648 ≤ w1 ∧ w1 ≤ 2147483647 → 0 ≤ w2 ∧ w2 ≤ 3 → 3 - w2 < (n4 : Int) → K 4 [some (vR 2 0), some (vI w1), some (vI w2)] [] σ := by
    intro n4
    induction n4 with
    | zero => intro w1 w2  f_w1 f_w2  hm  ; omega
    | succ n4 ih4 =>
      intro w1 w2  f_w1 f_w2  hm4  
      refine r_iload_n hC dX5_fullBoxes_4 rfl ?_
      refine r_iconst hC dX5_fullBoxes_5 rfl ?_
      refine r_icmp_ge (tgt := 35) hC dX5_fullBoxes_6 rfl (fun h3 => ?_) (fun h3 => ?_)
      · refine r_iload_n hC dX5_fullBoxes_35 rfl ?_
        refine y_iret hK rfl dX5_fullBoxes_36 ?_
        exact k _ (by omega)
      · refine r_iload_n hC dX5_fullBoxes_9 rfl ?_
        refine r_aload_n hC dX5_fullBoxes_10 rfl ?_
        refine z_getR hM dX5_fullBoxes_11 fl_RX5_27 rfl rfl (vld_of (n := 1) rfl (by omega) (by omega)) ?_
        refine r_iload_n hC dX5_fullBoxes_14 rfl ?_
        refine z_aald hM dX5_fullBoxes_15 rfl (by decide) (by omega) (by omega) (vld_of (n := 7) rfl (by omega) (by omega)) ?_
        rw [show rfa 4 w2 = (7, (w2 + 4)) from by simp [rfa]; try omega]
        refine z_getI (jz := 1) hM dX5_fullBoxes_16 fl_RX5_94 rfl rfl rfl (fun v4 h_v4 o_v4 t_v4 => ?_)
        clear t_v4
        have q_v4 : 0 ≤ v4 ∧ v4 ≤ 1 := by have := o_v4.2.1 rfl; omega
        have J27_6 : ∀ (w6 : Int), 0 ≤ w6 ∧ w6 ≤ 1 → K 27 [some (vR 2 0), some (vI w1), some (vI w2)] [vI w6, vI w1] σ := by
          intro w6  f_w6 
          refine r_iaddG hC dX5_fullBoxes_27 (fun v8 h_v8 => ?_)
          refine r_istore_n hC dX5_fullBoxes_28 rfl ?_
          refine r_iincE hC ((w2 + 1)) dX5_fullBoxes_29 rfl rfl (by omega) (by unfold inR; omega) ?_
          refine r_goto (tgt := 4) hC dX5_fullBoxes_32 rfl ?_
          exact ih4 (v8) ((w2 + 1))  (by omega) (by omega)  (by omega)  
        refine r_if_eq (tgt := 26) hC dX5_fullBoxes_19 rfl (fun h5 => ?_) (fun h5 => ?_)
        · refine r_iconst hC dX5_fullBoxes_26 rfl ?_
          exact J27_6 (0)  (by omega) 
        · refine r_iconst hC dX5_fullBoxes_22 rfl ?_
          refine r_goto (tgt := 27) hC dX5_fullBoxes_23 rfl ?_
          exact J27_6 (1)  (by omega) 
  exact L4 5 (0) (0)  (by omega) (by omega)  (by omega)  
theorem qs_linksInAll {e : Ev} {d : Nat} {P : Option Vl → Mm → Prop} {σ : Mm}   (k : ∀ r : Int, -2147483648 ≤ r ∧ r ≤ 2147483647 → P (some (vI r)) σ) : WT e (d + 1) 123 [vR 2 0] σ P := by
  refine WT_in fun K hK => ?_
  have hK : StpY e cX5_linksInAll RX5 (some .int) (WT e (d + 0)) P K := hK
  have hM := hK.1
  have hC := hK.1.1
  show K 0 [some (vR 2 0), none, none] [] σ
  refine r_iconst hC dX5_linksInAll_0 rfl ?_
  refine r_istore_n hC dX5_linksInAll_1 rfl ?_
  refine r_iconst hC dX5_linksInAll_2 rfl ?_
  refine r_istore_n hC dX5_linksInAll_3 rfl ?_
  have L4 : ∀ (n4 : Nat) (w1 w2 : Int), -2147483648 ≤ w1 ∧ w1 ≤ 2147483647 → 0 ≤ w2 ∧ w2 ≤ 4 → 4 - w2 < (n4 : Int) → K 4 [some (vR 2 0), some (vI w1), some (vI w2)] [] σ := by
    intro n4
    induction n4 with
    | zero => intro w1 w2  f_w1 f_w2  hm  ; omega
    | succ n4 ih4 =>
      intro w1 w2  f_w1 f_w2  hm4  
      refine r_iload_n hC dX5_linksInAll_4 rfl ?_
      refine r_iconst hC dX5_linksInAll_5 rfl ?_
      refine r_icmp_ge (tgt := 36) hC dX5_linksInAll_6 rfl (fun h3 => ?_) (fun h3 => ?_)
      · refine r_iload_n hC dX5_linksInAll_36 rfl ?_
        refine y_iret hK rfl dX5_linksInAll_37 ?_
        exact k _ (by omega)
      · refine r_iload_n hC dX5_linksInAll_9 rfl ?_
        refine r_aload_n hC dX5_linksInAll_10 rfl ?_
        refine z_getR hM dX5_linksInAll_11 fl_RX5_19 rfl rfl (vld_of (n := 1) rfl (by omega) (by omega)) ?_
        refine r_iload_n hC dX5_linksInAll_14 rfl ?_
        refine z_aald hM dX5_linksInAll_15 rfl (by decide) (by omega) (by omega) (vld_of (n := 4) rfl (by omega) (by omega)) ?_
        refine z_getI (jz := 0) hM dX5_linksInAll_16 fl_RX5_215 rfl rfl rfl (fun v4 h_v4 o_v4 t_v4 => ?_)
        clear t_v4
        refine r_iconst hC dX5_linksInAll_19 rfl ?_
        have J28_6 : ∀ (w6 : Int), 0 ≤ w6 ∧ w6 ≤ 1 → K 28 [some (vR 2 0), some (vI w1), some (vI w2)] [vI w6, vI w1] σ := by
          intro w6  f_w6 
          refine r_iaddG hC dX5_linksInAll_28 (fun v8 h_v8 => ?_)
          refine r_istore_n hC dX5_linksInAll_29 rfl ?_
          refine r_iincE hC ((w2 + 1)) dX5_linksInAll_30 rfl rfl (by omega) (by unfold inR; omega) ?_
          refine r_goto (tgt := 4) hC dX5_linksInAll_33 rfl ?_
          exact ih4 (v8) ((w2 + 1))  (by omega) (by omega)  (by omega)  
        refine r_icmp_eq (tgt := 27) hC dX5_linksInAll_20 rfl (fun h5 => ?_) (fun h5 => ?_)
        · refine r_iconst hC dX5_linksInAll_27 rfl ?_
          exact J28_6 (0)  (by omega) 
        · refine r_iconst hC dX5_linksInAll_23 rfl ?_
          refine r_goto (tgt := 28) hC dX5_linksInAll_24 rfl ?_
          exact J28_6 (1)  (by omega) 
  exact L4 6 (0) (0)  (by omega) (by omega)  (by omega)  
theorem qs_isTold {e : Ev} {d : Nat} {P : Option Vl → Mm → Prop} {σ : Mm} {v : Int}   (k1 : 0 ≤ v ∧ v ≤ 7 → P (some (vI 1)) σ) (k0 : P (some (vI 0)) σ) : WT e (d + 2) 101 [vR 2 0, vI v] σ P := by
  refine WT_in fun K hK => ?_
  have hK : StpY e cX5_isTold RX5 (some .boolean) (WT e (d + 1)) P K := hK
  have hM := hK.1
  have hC := hK.1.1
  show K 0 [some (vR 2 0), some (vI v)] [] σ
  refine r_rngz hC (fun g0 => ?_)
  have r_v : -2147483648 ≤ v ∧ v ≤ 2147483647 := inR_le (g0 (vI v) (by simp))
  refine r_iload_n hC dX5_isTold_0 rfl ?_
  refine r_iconst hC dX5_isTold_1 rfl ?_
  refine r_bipush hC dX5_isTold_2 rfl ?_
  refine z_ins3 hM dX5_isTold_4 tl_RX5_59 rfl (Nat.le_of_ble_eq_true rfl) (Nat.le_of_ble_eq_true rfl) ?_
  refine qs_within (fun h2 => ?_) (fun h2 => ?_)
  · refine r_if_eq (tgt := 27) hC dX5_isTold_7 rfl (fun h3 => by omega) (fun h3 => ?_)
    refine r_aload_n hC dX5_isTold_10 rfl ?_
    refine z_getR hM dX5_isTold_11 fl_RX5_32 rfl rfl (vld_of (n := 1) rfl (by omega) (by omega)) ?_
    refine r_iload_n hC dX5_isTold_14 rfl ?_
    refine z_aald hM dX5_isTold_15 rfl (by decide) (by omega) (by omega) (vld_of (n := 8) rfl (by omega) (by omega)) ?_
    refine z_getI (jz := 0) hM dX5_isTold_16 fl_RX5_321 rfl rfl rfl (fun v4 h_v4 o_v4 t_v4 => ?_)
    clear t_v4
    refine r_iconst hC dX5_isTold_19 rfl ?_
    refine r_icmp_eq (tgt := 27) hC dX5_isTold_20 rfl (fun h5 => ?_) (fun h5 => ?_)
    · refine r_iconst hC dX5_isTold_27 rfl ?_
      refine y_zret hK rfl dX5_isTold_28 (by omega) ?_
      exact k0
    · refine r_iconst hC dX5_isTold_23 rfl ?_
      refine r_goto (tgt := 28) hC dX5_isTold_24 rfl ?_
      refine y_zret hK rfl dX5_isTold_28 (by omega) ?_
      exact k1 (by omega)
  · refine r_if_eq (tgt := 27) hC dX5_isTold_7 rfl (fun h6 => ?_) (fun h6 => by omega)
    refine r_iconst hC dX5_isTold_27 rfl ?_
    refine y_zret hK rfl dX5_isTold_28 (by omega) ?_
    exact k0
theorem qs_toldWatches {e : Ev} {d : Nat} {P : Option Vl → Mm → Prop} {σ : Mm}   (k : ∀ r : Int, -2147483648 ≤ r ∧ r ≤ 2147483647 → P (some (vI r)) σ) : WT e (d + 3) 120 [vR 2 0] σ P := by
  refine WT_in fun K hK => ?_
  have hK : StpY e cX5_toldWatches RX5 (some .int) (WT e (d + 2)) P K := hK
  have hM := hK.1
  have hC := hK.1.1
  show K 0 [some (vR 2 0), none, none] [] σ
  refine r_iconst hC dX5_toldWatches_0 rfl ?_
  refine r_istore_n hC dX5_toldWatches_1 rfl ?_
  refine r_iconst hC dX5_toldWatches_2 rfl ?_
  refine r_istore_n hC dX5_toldWatches_3 rfl ?_
  have L4 : ∀ (n4 : Nat) (w1 w2 : Int), -2147483648 ≤ w1 ∧ w1 ≤ 2147483647 → 0 ≤ w2 ∧ w2 ≤ 8 → 8 - w2 < (n4 : Int) → K 4 [some (vR 2 0), some (vI w1), some (vI w2)] [] σ := by
    intro n4
    induction n4 with
    | zero => intro w1 w2  f_w1 f_w2  hm  ; omega
    | succ n4 ih4 =>
      intro w1 w2  f_w1 f_w2  hm4  
      refine r_iload_n hC dX5_toldWatches_4 rfl ?_
      refine r_bipush hC dX5_toldWatches_5 rfl ?_
      refine r_icmp_ge (tgt := 32) hC dX5_toldWatches_7 rfl (fun h3 => ?_) (fun h3 => ?_)
      · refine r_iload_n hC dX5_toldWatches_32 rfl ?_
        refine y_iret hK rfl dX5_toldWatches_33 ?_
        exact k _ (by omega)
      · refine r_iload_n hC dX5_toldWatches_10 rfl ?_
        refine r_aload_n hC dX5_toldWatches_11 rfl ?_
        refine r_iload_n hC dX5_toldWatches_12 rfl ?_
        refine z_inv1 hM dX5_toldWatches_13 vl_RX5_312 rfl rfl rfl (Nat.le_of_ble_eq_true rfl) (Nat.le_of_ble_eq_true rfl) ?_
        refine qs_isTold (fun h4 => ?_) ?_
        · refine r_if_eq (tgt := 23) hC dX5_toldWatches_16 rfl (fun h5 => by omega) (fun h5 => ?_)
          refine r_iconst hC dX5_toldWatches_19 rfl ?_
          refine r_goto (tgt := 24) hC dX5_toldWatches_20 rfl ?_
          refine r_iaddG hC dX5_toldWatches_24 (fun v6 h_v6 => ?_)
          refine r_istore_n hC dX5_toldWatches_25 rfl ?_
          refine r_iincE hC ((w2 + 1)) dX5_toldWatches_26 rfl rfl (by omega) (by unfold inR; omega) ?_
          refine r_goto (tgt := 4) hC dX5_toldWatches_29 rfl ?_
          exact ih4 (v6) ((w2 + 1))  (by omega) (by omega)  (by omega)  
        · refine r_if_eq (tgt := 23) hC dX5_toldWatches_16 rfl (fun h7 => ?_) (fun h7 => by omega)
          refine r_iconst hC dX5_toldWatches_23 rfl ?_
          refine r_iaddE hC (w1) dX5_toldWatches_24 (by omega) (by unfold inR; omega) ?_
          refine r_istore_n hC dX5_toldWatches_25 rfl ?_
          refine r_iincE hC ((w2 + 1)) dX5_toldWatches_26 rfl rfl (by omega) (by unfold inR; omega) ?_
          refine r_goto (tgt := 4) hC dX5_toldWatches_29 rfl ?_
          exact ih4 (w1) ((w2 + 1))  (by omega) (by omega)  (by omega)  
  exact L4 10 (0) (0)  (by omega) (by omega)  (by omega)  
theorem qs_ringsInAll {e : Ev} {d : Nat} {P : Option Vl → Mm → Prop} {σ : Mm}   (k : ∀ r : Int, -2147483648 ≤ r ∧ r ≤ 2147483647 → P (some (vI r)) σ) : WT e (d + 3) 122 [vR 2 0] σ P := by
  refine WT_in fun K hK => ?_
  have hK : StpY e cX5_ringsInAll RX5 (some .int) (WT e (d + 2)) P K := hK
  have hM := hK.1
  have hC := hK.1.1
  show K 0 [some (vR 2 0), none, none] [] σ
  refine r_iconst hC dX5_ringsInAll_0 rfl ?_
  refine r_istore_n hC dX5_ringsInAll_1 rfl ?_
  refine r_iconst hC dX5_ringsInAll_2 rfl ?_
  refine r_istore_n hC dX5_ringsInAll_3 rfl ?_
  have L4 : ∀ (n4 : Nat) (w1 w2 : Int), -2147483648 ≤ w1 ∧ w1 ≤ 2147483647 → 0 ≤ w2 ∧ w2 ≤ 8 → 8 - w2 < (n4 : Int) → K 4 [some (vR 2 0), some (vI w1), some (vI w2)] [] σ := by
    intro n4
    induction n4 with
    | zero => intro w1 w2  f_w1 f_w2  hm  ; omega
    | succ n4 ih4 =>
      intro w1 w2  f_w1 f_w2  hm4  
      refine r_iload_n hC dX5_ringsInAll_4 rfl ?_
      refine r_bipush hC dX5_ringsInAll_5 rfl ?_
      refine r_icmp_ge (tgt := 40) hC dX5_ringsInAll_7 rfl (fun h3 => ?_) (fun h3 => ?_)
      · refine r_iload_n hC dX5_ringsInAll_40 rfl ?_
        refine y_iret hK rfl dX5_ringsInAll_41 ?_
        exact k _ (by omega)
      · refine r_iload_n hC dX5_ringsInAll_10 rfl ?_
        refine r_aload_n hC dX5_ringsInAll_11 rfl ?_
        refine r_iload_n hC dX5_ringsInAll_12 rfl ?_
        refine z_inv1 hM dX5_ringsInAll_13 vl_RX5_312 rfl rfl rfl (Nat.le_of_ble_eq_true rfl) (Nat.le_of_ble_eq_true rfl) ?_
        refine qs_isTold (fun h4 => ?_) ?_
        · refine r_if_eq (tgt := 31) hC dX5_ringsInAll_16 rfl (fun h5 => by omega) (fun h5 => ?_)
          refine r_aload_n hC dX5_ringsInAll_19 rfl ?_
          refine z_getR hM dX5_ringsInAll_20 fl_RX5_32 rfl rfl (vld_of (n := 1) rfl (by omega) (by omega)) ?_
          refine r_iload_n hC dX5_ringsInAll_23 rfl ?_
          refine z_aald hM dX5_ringsInAll_24 rfl (by decide) (by omega) (by omega) (vld_of (n := 8) rfl (by omega) (by omega)) ?_
          refine z_getI (jz := 4) hM dX5_ringsInAll_25 fl_RX5_315 rfl rfl rfl (fun v6 h_v6 o_v6 t_v6 => ?_)
          clear t_v6
          refine r_goto (tgt := 32) hC dX5_ringsInAll_28 rfl ?_
          refine r_iaddG hC dX5_ringsInAll_32 (fun v7 h_v7 => ?_)
          refine r_istore_n hC dX5_ringsInAll_33 rfl ?_
          refine r_iincE hC ((w2 + 1)) dX5_ringsInAll_34 rfl rfl (by omega) (by unfold inR; omega) ?_
          refine r_goto (tgt := 4) hC dX5_ringsInAll_37 rfl ?_
          exact ih4 (v7) ((w2 + 1))  (by omega) (by omega)  (by omega)  
        · refine r_if_eq (tgt := 31) hC dX5_ringsInAll_16 rfl (fun h8 => ?_) (fun h8 => by omega)
          refine r_iconst hC dX5_ringsInAll_31 rfl ?_
          refine r_iaddE hC (w1) dX5_ringsInAll_32 (by omega) (by unfold inR; omega) ?_
          refine r_istore_n hC dX5_ringsInAll_33 rfl ?_
          refine r_iincE hC ((w2 + 1)) dX5_ringsInAll_34 rfl rfl (by omega) (by unfold inR; omega) ?_
          refine r_goto (tgt := 4) hC dX5_ringsInAll_37 rfl ?_
          exact ih4 (w1) ((w2 + 1))  (by omega) (by omega)  (by omega)  
  exact L4 10 (0) (0)  (by omega) (by omega)  (by omega)  
theorem qs_about {e : Ev} {d : Nat} {P : Option Vl → Mm → Prop} {σ : Mm} {w : Int}   (k : ∀ r : Int, -2147483648 ≤ r ∧ r ≤ 2147483647 → P (some (vI r)) σ) : WT e (d + 4) 116 [vR 2 0, vI w] σ P := by
  refine WT_in fun K hK => ?_
  have hK : StpY e cX5_about RX5 (some .int) (WT e (d + 3)) P K := hK
  have hM := hK.1
  have hC := hK.1.1
  show K 0 [some (vR 2 0), some (vI w)] [] σ
  refine r_rngz hC (fun g0 => ?_)
  have r_w : -2147483648 ≤ w ∧ w ≤ 2147483647 := inR_le (g0 (vI w) (by simp))
  refine r_iload_n hC dX5_about_0 rfl ?_
  rcases (by omega : (w < 0 ∨ 6 < w) ∨ w = 0 ∨ w = 1 ∨ w = 2 ∨ w = 3 ∨ w = 4 ∨ w = 5 ∨ w = 6) with h1 | h1 | h1 | h1 | h1 | h1 | h1 | h1
  · refine r_tableOut (tgt := 79) hC dX5_about_1 h1 rfl ?_
    refine r_iconst hC dX5_about_79 rfl ?_
    refine y_iret hK rfl dX5_about_80 ?_
    exact k _ (by omega)
  · refine r_tableIn (tgt := 44) (off := 43) hC dX5_about_1 (by omega) (by omega) (by rw [h1]; rfl) rfl ?_
    refine r_aload_n hC dX5_about_44 rfl ?_
    refine z_inv0 hM dX5_about_45 vl_RX5_120 rfl rfl rfl (Nat.le_of_ble_eq_true rfl) (Nat.le_of_ble_eq_true rfl) ?_
    refine qs_openLanes (fun v2 h_v2 => ?_)
    refine y_iret hK rfl dX5_about_48 ?_
    exact k _ (by omega)
  · refine r_tableIn (tgt := 49) (off := 48) hC dX5_about_1 (by omega) (by omega) (by rw [h1]; rfl) rfl ?_
    refine r_aload_n hC dX5_about_49 rfl ?_
    refine z_inv0 hM dX5_about_50 vl_RX5_351 rfl rfl rfl (Nat.le_of_ble_eq_true rfl) (Nat.le_of_ble_eq_true rfl) ?_
    refine qs_heldInAll (fun v3 h_v3 => ?_)
    refine y_iret hK rfl dX5_about_53 ?_
    exact k _ (by omega)
  · refine r_tableIn (tgt := 54) (off := 53) hC dX5_about_1 (by omega) (by omega) (by rw [h1]; rfl) rfl ?_
    refine r_aload_n hC dX5_about_54 rfl ?_
    refine z_inv0 hM dX5_about_55 vl_RX5_354 rfl rfl rfl (Nat.le_of_ble_eq_true rfl) (Nat.le_of_ble_eq_true rfl) ?_
    refine qs_spentInAll (fun v4 h_v4 => ?_)
    refine y_iret hK rfl dX5_about_58 ?_
    exact k _ (by omega)
  · refine r_tableIn (tgt := 59) (off := 58) hC dX5_about_1 (by omega) (by omega) (by rw [h1]; rfl) rfl ?_
    refine r_aload_n hC dX5_about_59 rfl ?_
    refine z_inv0 hM dX5_about_60 vl_RX5_357 rfl rfl rfl (Nat.le_of_ble_eq_true rfl) (Nat.le_of_ble_eq_true rfl) ?_
    refine qs_toldWatches (fun v5 h_v5 => ?_)
    refine y_iret hK rfl dX5_about_63 ?_
    exact k _ (by omega)
  · refine r_tableIn (tgt := 64) (off := 63) hC dX5_about_1 (by omega) (by omega) (by rw [h1]; rfl) rfl ?_
    refine r_aload_n hC dX5_about_64 rfl ?_
    refine z_inv0 hM dX5_about_65 vl_RX5_360 rfl rfl rfl (Nat.le_of_ble_eq_true rfl) (Nat.le_of_ble_eq_true rfl) ?_
    refine qs_fullBoxes (fun v6 h_v6 => ?_)
    refine y_iret hK rfl dX5_about_68 ?_
    exact k _ (by omega)
  · refine r_tableIn (tgt := 69) (off := 68) hC dX5_about_1 (by omega) (by omega) (by rw [h1]; rfl) rfl ?_
    refine r_aload_n hC dX5_about_69 rfl ?_
    refine z_inv0 hM dX5_about_70 vl_RX5_363 rfl rfl rfl (Nat.le_of_ble_eq_true rfl) (Nat.le_of_ble_eq_true rfl) ?_
    refine qs_ringsInAll (fun v7 h_v7 => ?_)
    refine y_iret hK rfl dX5_about_73 ?_
    exact k _ (by omega)
  · refine r_tableIn (tgt := 74) (off := 73) hC dX5_about_1 (by omega) (by omega) (by rw [h1]; rfl) rfl ?_
    refine r_aload_n hC dX5_about_74 rfl ?_
    refine z_inv0 hM dX5_about_75 vl_RX5_366 rfl rfl rfl (Nat.le_of_ble_eq_true rfl) (Nat.le_of_ble_eq_true rfl) ?_
    refine qs_linksInAll (fun v8 h_v8 => ?_)
    refine y_iret hK rfl dX5_about_78 ?_
    exact k _ (by omega)
theorem qs_rings {e : Ev} {d : Nat} {P : Option Vl → Mm → Prop} {σ : Mm} {v : Int}   (k : ∀ r : Int, -2147483648 ≤ r ∧ r ≤ 2147483647 → P (some (vI r)) σ) : WT e (d + 3) 99 [vR 2 0, vI v] σ P := by
  refine WT_in fun K hK => ?_
  have hK : StpY e cX5_rings RX5 (some .int) (WT e (d + 2)) P K := hK
  have hM := hK.1
  have hC := hK.1.1
  show K 0 [some (vR 2 0), some (vI v)] [] σ
  refine r_rngz hC (fun g0 => ?_)
  have r_v : -2147483648 ≤ v ∧ v ≤ 2147483647 := inR_le (g0 (vI v) (by simp))
  refine r_aload_n hC dX5_rings_0 rfl ?_
  refine r_iload_n hC dX5_rings_1 rfl ?_
  refine z_inv1 hM dX5_rings_2 vl_RX5_312 rfl rfl rfl (Nat.le_of_ble_eq_true rfl) (Nat.le_of_ble_eq_true rfl) ?_
  refine qs_isTold (fun h1 => ?_) ?_
  · refine r_if_eq (tgt := 20) hC dX5_rings_5 rfl (fun h2 => by omega) (fun h2 => ?_)
    refine r_aload_n hC dX5_rings_8 rfl ?_
    refine z_getR hM dX5_rings_9 fl_RX5_32 rfl rfl (vld_of (n := 1) rfl (by omega) (by omega)) ?_
    refine r_iload_n hC dX5_rings_12 rfl ?_
    refine z_aald hM dX5_rings_13 rfl (by decide) (by omega) (by omega) (vld_of (n := 8) rfl (by omega) (by omega)) ?_
    refine z_getI (jz := 4) hM dX5_rings_14 fl_RX5_315 rfl rfl rfl (fun v3 h_v3 o_v3 t_v3 => ?_)
    clear t_v3
    refine r_goto (tgt := 21) hC dX5_rings_17 rfl ?_
    refine y_iret hK rfl dX5_rings_21 ?_
    exact k _ (by omega)
  · refine r_if_eq (tgt := 20) hC dX5_rings_5 rfl (fun h4 => ?_) (fun h4 => by omega)
    refine r_iconst hC dX5_rings_20 rfl ?_
    refine y_iret hK rfl dX5_rings_21 ?_
    exact k _ (by omega)
theorem qs_rang {e : Ev} {d : Nat} {P : Option Vl → Mm → Prop} {σ : Mm} {v : Int}   (k : ∀ r : Int, -2147483648 ≤ r ∧ r ≤ 2147483647 → P (some (vI r)) σ) : WT e (d + 3) 100 [vR 2 0, vI v] σ P := by
  refine WT_in fun K hK => ?_
  have hK : StpY e cX5_rang RX5 (some .int) (WT e (d + 2)) P K := hK
  have hM := hK.1
  have hC := hK.1.1
  show K 0 [some (vR 2 0), some (vI v)] [] σ
  refine r_rngz hC (fun g0 => ?_)
  have r_v : -2147483648 ≤ v ∧ v ≤ 2147483647 := inR_le (g0 (vI v) (by simp))
  refine r_aload_n hC dX5_rang_0 rfl ?_
  refine r_iload_n hC dX5_rang_1 rfl ?_
  refine z_inv1 hM dX5_rang_2 vl_RX5_312 rfl rfl rfl (Nat.le_of_ble_eq_true rfl) (Nat.le_of_ble_eq_true rfl) ?_
  refine qs_isTold (fun h1 => ?_) ?_
  · refine r_if_eq (tgt := 20) hC dX5_rang_5 rfl (fun h2 => by omega) (fun h2 => ?_)
    refine r_aload_n hC dX5_rang_8 rfl ?_
    refine z_getR hM dX5_rang_9 fl_RX5_32 rfl rfl (vld_of (n := 1) rfl (by omega) (by omega)) ?_
    refine r_iload_n hC dX5_rang_12 rfl ?_
    refine z_aald hM dX5_rang_13 rfl (by decide) (by omega) (by omega) (vld_of (n := 8) rfl (by omega) (by omega)) ?_
    refine z_getI (jz := 5) hM dX5_rang_14 fl_RX5_318 rfl rfl rfl (fun v3 h_v3 o_v3 t_v3 => ?_)
    clear t_v3
    refine r_goto (tgt := 21) hC dX5_rang_17 rfl ?_
    refine y_iret hK rfl dX5_rang_21 ?_
    exact k _ (by omega)
  · refine r_if_eq (tgt := 20) hC dX5_rang_5 rfl (fun h4 => ?_) (fun h4 => by omega)
    refine r_iconst hC dX5_rang_20 rfl ?_
    refine y_iret hK rfl dX5_rang_21 ?_
    exact k _ (by omega)
theorem qs_isWatched {e : Ev} {d : Nat} {P : Option Vl → Mm → Prop} {σ : Mm} {l : Int}   (k : ∀ r : Int, 0 ≤ r ∧ r ≤ 1 → P (some (vI r)) σ) : WT e (d + 1) 103 [vR 2 0, vI l] σ P := by
  refine WT_in fun K hK => ?_
  have hK : StpY e cX5_isWatched RX5 (some .boolean) (WT e (d + 0)) P K := hK
  have hM := hK.1
  have hC := hK.1.1
  show K 0 [some (vR 2 0), some (vI l), none] [] σ
  refine r_rngz hC (fun g0 => ?_)
  have r_l : -2147483648 ≤ l ∧ l ≤ 2147483647 := inR_le (g0 (vI l) (by simp))
  refine r_iconst hC dX5_isWatched_0 rfl ?_
  refine r_istore_n hC dX5_isWatched_1 rfl ?_
  have L2 : ∀ (n2 : Nat) (w1 : Int), 0 ≤ w1 ∧ w1 ≤ 8 → 8 - w1 < (n2 : Int) → K 2 [some (vR 2 0), some (vI l), some (vI w1)] [] σ := by
    intro n2
    induction n2 with
    | zero => intro w1  f_w1  hm  ; omega
    | succ n2 ih2 =>
      intro w1  f_w1  hm2  
      refine r_iload_n hC dX5_isWatched_2 rfl ?_
      refine r_bipush hC dX5_isWatched_3 rfl ?_
      refine r_icmp_ge (tgt := 29) hC dX5_isWatched_5 rfl (fun h2 => ?_) (fun h2 => ?_)
      · refine r_iconst hC dX5_isWatched_29 rfl ?_
        refine y_zret hK rfl dX5_isWatched_30 (by omega) ?_
        exact k _ (by omega)
      · refine r_aload_n hC dX5_isWatched_8 rfl ?_
        refine z_getR hM dX5_isWatched_9 fl_RX5_32 rfl rfl (vld_of (n := 1) rfl (by omega) (by omega)) ?_
        refine r_iload_n hC dX5_isWatched_12 rfl ?_
        refine z_aald hM dX5_isWatched_13 rfl (by decide) (by omega) (by omega) (vld_of (n := 8) rfl (by omega) (by omega)) ?_
        refine z_getI (jz := 0) hM dX5_isWatched_14 fl_RX5_321 rfl rfl rfl (fun v3 h_v3 o_v3 t_v3 => ?_)
        clear t_v3
        refine r_iload_n hC dX5_isWatched_17 rfl ?_
        refine r_icmp_ne (tgt := 23) hC dX5_isWatched_18 rfl (fun h4 => ?_) (fun h4 => ?_)
        · refine r_iincE hC ((w1 + 1)) dX5_isWatched_23 rfl rfl (by omega) (by unfold inR; omega) ?_
          refine r_goto (tgt := 2) hC dX5_isWatched_26 rfl ?_
          exact ih2 ((w1 + 1))  (by omega)  (by omega)  
        · refine r_iconst hC dX5_isWatched_21 rfl ?_
          refine y_zret hK rfl dX5_isWatched_22 (by omega) ?_
          exact k _ (by omega)
  exact L2 10 (0)  (by omega)  (by omega)  
theorem qs_isLinkedTo {e : Ev} {d : Nat} {P : Option Vl → Mm → Prop} {σ : Mm} {l : Int}   (k : ∀ r : Int, 0 ≤ r ∧ r ≤ 1 → P (some (vI r)) σ) : WT e (d + 1) 107 [vR 2 0, vI l] σ P := by
  refine WT_in fun K hK => ?_
  have hK : StpY e cX5_isLinkedTo RX5 (some .boolean) (WT e (d + 0)) P K := hK
  have hM := hK.1
  have hC := hK.1.1
  show K 0 [some (vR 2 0), some (vI l), none] [] σ
  refine r_rngz hC (fun g0 => ?_)
  have r_l : -2147483648 ≤ l ∧ l ≤ 2147483647 := inR_le (g0 (vI l) (by simp))
  refine r_iconst hC dX5_isLinkedTo_0 rfl ?_
  refine r_istore_n hC dX5_isLinkedTo_1 rfl ?_
  have L2 : ∀ (n2 : Nat) (w1 : Int), 0 ≤ w1 ∧ w1 ≤ 4 → 4 - w1 < (n2 : Int) → K 2 [some (vR 2 0), some (vI l), some (vI w1)] [] σ := by
    intro n2
    induction n2 with
    | zero => intro w1  f_w1  hm  ; omega
    | succ n2 ih2 =>
      intro w1  f_w1  hm2  
      refine r_iload_n hC dX5_isLinkedTo_2 rfl ?_
      refine r_iconst hC dX5_isLinkedTo_3 rfl ?_
      refine r_icmp_ge (tgt := 28) hC dX5_isLinkedTo_4 rfl (fun h2 => ?_) (fun h2 => ?_)
      · refine r_iconst hC dX5_isLinkedTo_28 rfl ?_
        refine y_zret hK rfl dX5_isLinkedTo_29 (by omega) ?_
        exact k _ (by omega)
      · refine r_aload_n hC dX5_isLinkedTo_7 rfl ?_
        refine z_getR hM dX5_isLinkedTo_8 fl_RX5_19 rfl rfl (vld_of (n := 1) rfl (by omega) (by omega)) ?_
        refine r_iload_n hC dX5_isLinkedTo_11 rfl ?_
        refine z_aald hM dX5_isLinkedTo_12 rfl (by decide) (by omega) (by omega) (vld_of (n := 4) rfl (by omega) (by omega)) ?_
        refine z_getI (jz := 0) hM dX5_isLinkedTo_13 fl_RX5_215 rfl rfl rfl (fun v3 h_v3 o_v3 t_v3 => ?_)
        clear t_v3
        refine r_iload_n hC dX5_isLinkedTo_16 rfl ?_
        refine r_icmp_ne (tgt := 22) hC dX5_isLinkedTo_17 rfl (fun h4 => ?_) (fun h4 => ?_)
        · refine r_iincE hC ((w1 + 1)) dX5_isLinkedTo_22 rfl rfl (by omega) (by unfold inR; omega) ?_
          refine r_goto (tgt := 2) hC dX5_isLinkedTo_25 rfl ?_
          exact ih2 ((w1 + 1))  (by omega)  (by omega)  
        · refine r_iconst hC dX5_isLinkedTo_20 rfl ?_
          refine y_zret hK rfl dX5_isLinkedTo_21 (by omega) ?_
          exact k _ (by omega)
  exact L2 6 (0)  (by omega)  (by omega)  
theorem qs_Flip_told {e : Ev} {d : Nat} {P : Option Vl → Mm → Prop} {σ : Mm} {i w : Int} (b_i : 0 ≤ i ∧ i ≤ 7)  (k : ∀ r : Int, -2147483648 ≤ r ∧ r ≤ 2147483647 → P (some (vI r)) σ) : WT e (d + 1) 7 [vR 11 i, vI w] σ P := by
  refine WT_in fun K hK => ?_
  have hK : StpY e cX0_told RX0 (some .int) (WT e (d + 0)) P K := hK
  have hM := hK.1
  have hC := hK.1.1
  show K 0 [some (vR 11 i), some (vI w)] [] σ
  refine r_rngz hC (fun g0 => ?_)
  have r_w : -2147483648 ≤ w ∧ w ≤ 2147483647 := inR_le (g0 (vI w) (by simp))
  refine r_iload_n hC dX0_told_0 rfl ?_
  rcases (by omega : (w < 0 ∨ 6 < w) ∨ w = 0 ∨ w = 1 ∨ w = 2 ∨ w = 3 ∨ w = 4 ∨ w = 5 ∨ w = 6) with h1 | h1 | h1 | h1 | h1 | h1 | h1 | h1
  · refine r_tableOut (tgt := 79) hC dX0_told_1 h1 rfl ?_
    refine r_iconst hC dX0_told_79 rfl ?_
    refine y_iret hK rfl dX0_told_80 ?_
    exact k _ (by omega)
  · refine r_tableIn (tgt := 44) (off := 43) hC dX0_told_1 (by omega) (by omega) (by rw [h1]; rfl) rfl ?_
    refine r_aload_n hC dX0_told_44 rfl ?_
    refine z_getI (jz := 0) hM dX0_told_45 fl_RX0_9 rfl rfl rfl (fun v2 h_v2 o_v2 t_v2 => ?_)
    clear t_v2
    refine y_iret hK rfl dX0_told_48 ?_
    exact k _ (by omega)
  · refine r_tableIn (tgt := 49) (off := 48) hC dX0_told_1 (by omega) (by omega) (by rw [h1]; rfl) rfl ?_
    refine r_aload_n hC dX0_told_49 rfl ?_
    refine z_getI (jz := 1) hM dX0_told_50 fl_RX0_15 rfl rfl rfl (fun v3 h_v3 o_v3 t_v3 => ?_)
    clear t_v3
    refine y_iret hK rfl dX0_told_53 ?_
    exact k _ (by omega)
  · refine r_tableIn (tgt := 54) (off := 53) hC dX0_told_1 (by omega) (by omega) (by rw [h1]; rfl) rfl ?_
    refine r_aload_n hC dX0_told_54 rfl ?_
    refine z_getI (jz := 2) hM dX0_told_55 fl_RX0_18 rfl rfl rfl (fun v4 h_v4 o_v4 t_v4 => ?_)
    clear t_v4
    refine y_iret hK rfl dX0_told_58 ?_
    exact k _ (by omega)
  · refine r_tableIn (tgt := 59) (off := 58) hC dX0_told_1 (by omega) (by omega) (by rw [h1]; rfl) rfl ?_
    refine r_aload_n hC dX0_told_59 rfl ?_
    refine z_getI (jz := 3) hM dX0_told_60 fl_RX0_21 rfl rfl rfl (fun v5 h_v5 o_v5 t_v5 => ?_)
    clear t_v5
    refine y_iret hK rfl dX0_told_63 ?_
    exact k _ (by omega)
  · refine r_tableIn (tgt := 64) (off := 63) hC dX0_told_1 (by omega) (by omega) (by rw [h1]; rfl) rfl ?_
    refine r_aload_n hC dX0_told_64 rfl ?_
    refine z_getI (jz := 4) hM dX0_told_65 fl_RX0_24 rfl rfl rfl (fun v6 h_v6 o_v6 t_v6 => ?_)
    clear t_v6
    refine y_iret hK rfl dX0_told_68 ?_
    exact k _ (by omega)
  · refine r_tableIn (tgt := 69) (off := 68) hC dX0_told_1 (by omega) (by omega) (by rw [h1]; rfl) rfl ?_
    refine r_aload_n hC dX0_told_69 rfl ?_
    refine z_getI (jz := 5) hM dX0_told_70 fl_RX0_27 rfl rfl rfl (fun v7 h_v7 o_v7 t_v7 => ?_)
    clear t_v7
    refine y_iret hK rfl dX0_told_73 ?_
    exact k _ (by omega)
  · refine r_tableIn (tgt := 74) (off := 73) hC dX0_told_1 (by omega) (by omega) (by rw [h1]; rfl) rfl ?_
    refine r_aload_n hC dX0_told_74 rfl ?_
    refine z_getI (jz := 6) hM dX0_told_75 fl_RX0_30 rfl rfl rfl (fun v8 h_v8 o_v8 t_v8 => ?_)
    clear t_v8
    refine y_iret hK rfl dX0_told_78 ?_
    exact k _ (by omega)
theorem qs_Lane_told {e : Ev} {d : Nat} {P : Option Vl → Mm → Prop} {σ : Mm} {i w : Int} (b_i : 0 ≤ i ∧ i ≤ 6)  (k : ∀ r : Int, -2147483648 ≤ r ∧ r ≤ 2147483647 → P (some (vI r)) σ) : WT e (d + 1) 37 [vR 7 i, vI w] σ P := by
  refine WT_in fun K hK => ?_
  have hK : StpY e cX2_told RX2 (some .int) (WT e (d + 0)) P K := hK
  have hM := hK.1
  have hC := hK.1.1
  show K 0 [some (vR 7 i), some (vI w)] [] σ
  refine r_rngz hC (fun g0 => ?_)
  have r_w : -2147483648 ≤ w ∧ w ≤ 2147483647 := inR_le (g0 (vI w) (by simp))
  refine r_iload_n hC dX2_told_0 rfl ?_
  rcases (by omega : (w < 0 ∨ 10 < w) ∨ w = 0 ∨ w = 1 ∨ w = 2 ∨ w = 3 ∨ w = 4 ∨ w = 5 ∨ w = 6 ∨ w = 7 ∨ w = 8 ∨ w = 9 ∨ w = 10) with h1 | h1 | h1 | h1 | h1 | h1 | h1 | h1 | h1 | h1 | h1 | h1
  · refine r_tableOut (tgt := 115) hC dX2_told_1 h1 rfl ?_
    refine r_iconst hC dX2_told_115 rfl ?_
    refine y_iret hK rfl dX2_told_116 ?_
    exact k _ (by omega)
  · refine r_tableIn (tgt := 60) (off := 59) hC dX2_told_1 (by omega) (by omega) (by rw [h1]; rfl) rfl ?_
    refine r_aload_n hC dX2_told_60 rfl ?_
    refine z_getI (jz := 2) hM dX2_told_61 fl_RX2_36 rfl rfl rfl (fun v2 h_v2 o_v2 t_v2 => ?_)
    clear t_v2
    have q_v2 : 0 ≤ v2 ∧ v2 ≤ 9 := o_v2.2.2 rfl
    refine y_iret hK rfl dX2_told_64 ?_
    exact k _ (by omega)
  · refine r_tableIn (tgt := 65) (off := 64) hC dX2_told_1 (by omega) (by omega) (by rw [h1]; rfl) rfl ?_
    refine r_aload_n hC dX2_told_65 rfl ?_
    refine z_getI (jz := 3) hM dX2_told_66 fl_RX2_39 rfl rfl rfl (fun v3 h_v3 o_v3 t_v3 => ?_)
    clear t_v3
    refine y_iret hK rfl dX2_told_69 ?_
    exact k _ (by omega)
  · refine r_tableIn (tgt := 70) (off := 69) hC dX2_told_1 (by omega) (by omega) (by rw [h1]; rfl) rfl ?_
    refine r_aload_n hC dX2_told_70 rfl ?_
    refine z_getI (jz := 4) hM dX2_told_71 fl_RX2_42 rfl rfl rfl (fun v4 h_v4 o_v4 t_v4 => ?_)
    clear t_v4
    refine y_iret hK rfl dX2_told_74 ?_
    exact k _ (by omega)
  · refine r_tableIn (tgt := 75) (off := 74) hC dX2_told_1 (by omega) (by omega) (by rw [h1]; rfl) rfl ?_
    refine r_aload_n hC dX2_told_75 rfl ?_
    refine z_getI (jz := 5) hM dX2_told_76 fl_RX2_45 rfl rfl rfl (fun v5 h_v5 o_v5 t_v5 => ?_)
    clear t_v5
    refine y_iret hK rfl dX2_told_79 ?_
    exact k _ (by omega)
  · refine r_tableIn (tgt := 80) (off := 79) hC dX2_told_1 (by omega) (by omega) (by rw [h1]; rfl) rfl ?_
    refine r_aload_n hC dX2_told_80 rfl ?_
    refine z_getI (jz := 6) hM dX2_told_81 fl_RX2_48 rfl rfl rfl (fun v6 h_v6 o_v6 t_v6 => ?_)
    clear t_v6
    have q_v6 : 0 ≤ v6 ∧ v6 ≤ 121 := o_v6.1 rfl
    refine y_iret hK rfl dX2_told_84 ?_
    exact k _ (by omega)
  · refine r_tableIn (tgt := 85) (off := 84) hC dX2_told_1 (by omega) (by omega) (by rw [h1]; rfl) rfl ?_
    refine r_aload_n hC dX2_told_85 rfl ?_
    refine z_getI (jz := 10) hM dX2_told_86 fl_RX2_51 rfl rfl rfl (fun v7 h_v7 o_v7 t_v7 => ?_)
    clear t_v7
    refine y_iret hK rfl dX2_told_89 ?_
    exact k _ (by omega)
  · refine r_tableIn (tgt := 90) (off := 89) hC dX2_told_1 (by omega) (by omega) (by rw [h1]; rfl) rfl ?_
    refine r_aload_n hC dX2_told_90 rfl ?_
    refine z_getI (jz := 11) hM dX2_told_91 fl_RX2_54 rfl rfl rfl (fun v8 h_v8 o_v8 t_v8 => ?_)
    clear t_v8
    refine y_iret hK rfl dX2_told_94 ?_
    exact k _ (by omega)
  · refine r_tableIn (tgt := 95) (off := 94) hC dX2_told_1 (by omega) (by omega) (by rw [h1]; rfl) rfl ?_
    refine r_aload_n hC dX2_told_95 rfl ?_
    refine z_getI (jz := 12) hM dX2_told_96 fl_RX2_57 rfl rfl rfl (fun v9 h_v9 o_v9 t_v9 => ?_)
    clear t_v9
    refine y_iret hK rfl dX2_told_99 ?_
    exact k _ (by omega)
  · refine r_tableIn (tgt := 100) (off := 99) hC dX2_told_1 (by omega) (by omega) (by rw [h1]; rfl) rfl ?_
    refine r_aload_n hC dX2_told_100 rfl ?_
    refine z_getI (jz := 13) hM dX2_told_101 fl_RX2_60 rfl rfl rfl (fun v10 h_v10 o_v10 t_v10 => ?_)
    clear t_v10
    refine y_iret hK rfl dX2_told_104 ?_
    exact k _ (by omega)
  · refine r_tableIn (tgt := 105) (off := 104) hC dX2_told_1 (by omega) (by omega) (by rw [h1]; rfl) rfl ?_
    refine r_aload_n hC dX2_told_105 rfl ?_
    refine z_getI (jz := 14) hM dX2_told_106 fl_RX2_63 rfl rfl rfl (fun v11 h_v11 o_v11 t_v11 => ?_)
    clear t_v11
    refine y_iret hK rfl dX2_told_109 ?_
    exact k _ (by omega)
  · refine r_tableIn (tgt := 110) (off := 109) hC dX2_told_1 (by omega) (by omega) (by rw [h1]; rfl) rfl ?_
    refine r_aload_n hC dX2_told_110 rfl ?_
    refine z_getI (jz := 15) hM dX2_told_111 fl_RX2_66 rfl rfl rfl (fun v12 h_v12 o_v12 t_v12 => ?_)
    clear t_v12
    refine y_iret hK rfl dX2_told_114 ?_
    exact k _ (by omega)
theorem qs_Link_told {e : Ev} {d : Nat} {P : Option Vl → Mm → Prop} {σ : Mm} {i w : Int} (b_i : 0 ≤ i ∧ i ≤ 3)  (k : ∀ r : Int, -2147483648 ≤ r ∧ r ≤ 2147483647 → P (some (vI r)) σ) : WT e (d + 1) 41 [vR 13 i, vI w] σ P := by
  refine WT_in fun K hK => ?_
  have hK : StpY e cX3_told RX3 (some .int) (WT e (d + 0)) P K := hK
  have hM := hK.1
  have hC := hK.1.1
  show K 0 [some (vR 13 i), some (vI w)] [] σ
  refine r_rngz hC (fun g0 => ?_)
  have r_w : -2147483648 ≤ w ∧ w ≤ 2147483647 := inR_le (g0 (vI w) (by simp))
  refine r_iload_n hC dX3_told_0 rfl ?_
  rcases (by omega : (w < 0 ∨ 3 < w) ∨ w = 0 ∨ w = 1 ∨ w = 2 ∨ w = 3) with h1 | h1 | h1 | h1 | h1
  · refine r_tableOut (tgt := 52) hC dX3_told_1 h1 rfl ?_
    refine r_iconst hC dX3_told_52 rfl ?_
    refine y_iret hK rfl dX3_told_53 ?_
    exact k _ (by omega)
  · refine r_tableIn (tgt := 32) (off := 31) hC dX3_told_1 (by omega) (by omega) (by rw [h1]; rfl) rfl ?_
    refine r_aload_n hC dX3_told_32 rfl ?_
    refine z_getI (jz := 0) hM dX3_told_33 fl_RX3_9 rfl rfl rfl (fun v2 h_v2 o_v2 t_v2 => ?_)
    clear t_v2
    refine y_iret hK rfl dX3_told_36 ?_
    exact k _ (by omega)
  · refine r_tableIn (tgt := 37) (off := 36) hC dX3_told_1 (by omega) (by omega) (by rw [h1]; rfl) rfl ?_
    refine r_aload_n hC dX3_told_37 rfl ?_
    refine z_getI (jz := 1) hM dX3_told_38 fl_RX3_15 rfl rfl rfl (fun v3 h_v3 o_v3 t_v3 => ?_)
    clear t_v3
    refine y_iret hK rfl dX3_told_41 ?_
    exact k _ (by omega)
  · refine r_tableIn (tgt := 42) (off := 41) hC dX3_told_1 (by omega) (by omega) (by rw [h1]; rfl) rfl ?_
    refine r_aload_n hC dX3_told_42 rfl ?_
    refine z_getI (jz := 2) hM dX3_told_43 fl_RX3_18 rfl rfl rfl (fun v4 h_v4 o_v4 t_v4 => ?_)
    clear t_v4
    refine y_iret hK rfl dX3_told_46 ?_
    exact k _ (by omega)
  · refine r_tableIn (tgt := 47) (off := 46) hC dX3_told_1 (by omega) (by omega) (by rw [h1]; rfl) rfl ?_
    refine r_aload_n hC dX3_told_47 rfl ?_
    refine z_getI (jz := 3) hM dX3_told_48 fl_RX3_21 rfl rfl rfl (fun v5 h_v5 o_v5 t_v5 => ?_)
    clear t_v5
    refine y_iret hK rfl dX3_told_51 ?_
    exact k _ (by omega)
theorem qs_linked {e : Ev} {d : Nat} {P : Option Vl → Mm → Prop} {σ : Mm} {l w : Int}   (k : ∀ r : Int, -2147483648 ≤ r ∧ r ≤ 2147483647 → P (some (vI r)) σ) : WT e (d + 3) 106 [vR 2 0, vI l, vI w] σ P := by
  refine WT_in fun K hK => ?_
  have hK : StpY e cX5_linked RX5 (some .int) (WT e (d + 2)) P K := hK
  have hM := hK.1
  have hC := hK.1.1
  show K 0 [some (vR 2 0), some (vI l), some (vI w)] [] σ
  refine r_rngz hC (fun g0 => ?_)
  have r_l : -2147483648 ≤ l ∧ l ≤ 2147483647 := inR_le (g0 (vI l) (by simp))
  have r_w : -2147483648 ≤ w ∧ w ≤ 2147483647 := inR_le (g0 (vI w) (by simp))
  refine r_iload_n hC dX5_linked_0 rfl ?_
  refine z_ins1 hM dX5_linked_1 tl_RX5_102 rfl (Nat.le_of_ble_eq_true rfl) (Nat.le_of_ble_eq_true rfl) ?_
  refine qs_isLane (fun h2 => ?_) (fun h2 => ?_)
  · refine r_if_eq (tgt := 33) hC dX5_linked_4 rfl (fun h3 => by omega) (fun h3 => ?_)
    refine r_aload_n hC dX5_linked_7 rfl ?_
    refine z_getR hM dX5_linked_8 fl_RX5_19 rfl rfl (vld_of (n := 1) rfl (by omega) (by omega)) ?_
    refine r_iload_n hC dX5_linked_11 rfl ?_
    refine z_aald hM dX5_linked_12 rfl (by decide) (by omega) (by omega) (vld_of (n := 4) rfl (by omega) (by omega)) ?_
    refine z_getI (jz := 0) hM dX5_linked_13 fl_RX5_215 rfl rfl rfl (fun v4 h_v4 o_v4 t_v4 => ?_)
    clear t_v4
    refine r_iconst hC dX5_linked_16 rfl ?_
    have J34_6 : ∀ (w6 : Int), -2147483648 ≤ w6 ∧ w6 ≤ 2147483647 → K 34 [some (vR 2 0), some (vI l), some (vI w)] [vI w6] σ := by
      intro w6  f_w6 
      refine y_iret hK rfl dX5_linked_34 ?_
      exact k _ (by omega)
    refine r_icmp_eq (tgt := 33) hC dX5_linked_17 rfl (fun h5 => ?_) (fun h5 => ?_)
    · refine r_iconst hC dX5_linked_33 rfl ?_
      exact J34_6 ((-1))  (by omega) 
    · refine r_aload_n hC dX5_linked_20 rfl ?_
      refine z_getR hM dX5_linked_21 fl_RX5_19 rfl rfl (vld_of (n := 1) rfl (by omega) (by omega)) ?_
      refine r_iload_n hC dX5_linked_24 rfl ?_
      refine z_aald hM dX5_linked_25 rfl (by decide) (by omega) (by omega) (vld_of (n := 4) rfl (by omega) (by omega)) ?_
      refine r_iload_n hC dX5_linked_26 rfl ?_
      refine z_inv1 hM dX5_linked_27 vl_RX5_343 rfl rfl rfl (Nat.le_of_ble_eq_true rfl) (Nat.le_of_ble_eq_true rfl) ?_
      refine qs_Link_told (by omega) (fun v8 h_v8 => ?_)
      refine r_goto (tgt := 34) hC dX5_linked_30 rfl ?_
      exact J34_6 (v8)  (by omega) 
  · refine r_if_eq (tgt := 33) hC dX5_linked_4 rfl (fun h9 => ?_) (fun h9 => by omega)
    refine r_iconst hC dX5_linked_33 rfl ?_
    refine y_iret hK rfl dX5_linked_34 ?_
    exact k _ (by omega)
theorem qs_state {e : Ev} {d : Nat} {P : Option Vl → Mm → Prop} {σ : Mm} {l w : Int}   (k : ∀ r : Int, -2147483648 ≤ r ∧ r ≤ 2147483647 → P (some (vI r)) σ) : WT e (d + 4) 94 [vR 2 0, vI l, vI w] σ P := by
  refine WT_in fun K hK => ?_
  have hK : StpY e cX5_state RX5 (some .int) (WT e (d + 3)) P K := hK
  have hM := hK.1
  have hC := hK.1.1
  show K 0 [some (vR 2 0), some (vI l), some (vI w), none] [] σ
  refine r_rngz hC (fun g0 => ?_)
  have r_l : -2147483648 ≤ l ∧ l ≤ 2147483647 := inR_le (g0 (vI l) (by simp))
  have r_w : -2147483648 ≤ w ∧ w ≤ 2147483647 := inR_le (g0 (vI w) (by simp))
  refine r_aload_n hC dX5_state_0 rfl ?_
  refine r_iload_n hC dX5_state_1 rfl ?_
  refine z_inv1 hM dX5_state_2 vl_RX5_123 rfl rfl rfl (Nat.le_of_ble_eq_true rfl) (Nat.le_of_ble_eq_true rfl) ?_
  refine qs_openLane ?_ (fun h1 => ?_)
  · refine r_astoreN_n hC dX5_state_5 rfl ?_
    refine r_aloadN_n hC dX5_state_6 rfl ?_
    refine r_ifnonnullN hC dX5_state_7 ?_
    refine r_iconst hC dX5_state_10 rfl ?_
    refine r_goto (tgt := 22) hC dX5_state_11 rfl ?_
    refine y_iret hK rfl dX5_state_22 ?_
    exact k _ (by omega)
  · refine r_astore_n hC dX5_state_5 rfl ?_
    refine r_aload_n hC dX5_state_6 rfl ?_
    refine r_ifnonnullR (tgt := 14) hC dX5_state_7 rfl ?_
    refine r_aload_n hC dX5_state_14 rfl ?_
    refine z_getR hM dX5_state_15 fl_RX5_189 rfl rfl (vld_of (n := 8) rfl (by omega) (by omega)) ?_
    refine r_iload_n hC dX5_state_18 rfl ?_
    refine z_inv1 hM dX5_state_19 vl_RX5_288 rfl rfl rfl (Nat.le_of_ble_eq_true rfl) (Nat.le_of_ble_eq_true rfl) ?_
    refine qs_Flip_told (by omega) (fun v2 h_v2 => ?_)
    refine y_iret hK rfl dX5_state_22 ?_
    exact k _ (by omega)
theorem qs_soon {e : Ev} {d : Nat} {P : Option Vl → Mm → Prop} {σ : Mm} {l w : Int}   (k : ∀ r : Int, -2147483648 ≤ r ∧ r ≤ 2147483647 → P (some (vI r)) σ) : WT e (d + 4) 95 [vR 2 0, vI l, vI w] σ P := by
  refine WT_in fun K hK => ?_
  have hK : StpY e cX5_soon RX5 (some .int) (WT e (d + 3)) P K := hK
  have hM := hK.1
  have hC := hK.1.1
  show K 0 [some (vR 2 0), some (vI l), some (vI w), none, none] [] σ
  refine r_rngz hC (fun g0 => ?_)
  have r_l : -2147483648 ≤ l ∧ l ≤ 2147483647 := inR_le (g0 (vI l) (by simp))
  have r_w : -2147483648 ≤ w ∧ w ≤ 2147483647 := inR_le (g0 (vI w) (by simp))
  refine r_aload_n hC dX5_soon_0 rfl ?_
  refine r_iload_n hC dX5_soon_1 rfl ?_
  refine z_inv1 hM dX5_soon_2 vl_RX5_123 rfl rfl rfl (Nat.le_of_ble_eq_true rfl) (Nat.le_of_ble_eq_true rfl) ?_
  refine qs_openLane ?_ (fun h1 => ?_)
  · refine r_astoreN_n hC dX5_soon_5 rfl ?_
    refine r_aloadN_n hC dX5_soon_6 rfl ?_
    refine r_ifnullN (tgt := 19) hC dX5_soon_7 rfl ?_
    refine r_iconst hC dX5_soon_19 rfl ?_
    refine y_iret hK rfl dX5_soon_20 ?_
    exact k _ (by omega)
  · refine r_astore_n hC dX5_soon_5 rfl ?_
    refine r_aload_n hC dX5_soon_6 rfl ?_
    refine r_ifnullR hC dX5_soon_7 ?_
    refine r_iload_n hC dX5_soon_10 rfl ?_
    refine r_iconst hC dX5_soon_11 rfl ?_
    refine r_iconst hC dX5_soon_12 rfl ?_
    refine z_ins3 hM dX5_soon_13 tl_RX5_59 rfl (Nat.le_of_ble_eq_true rfl) (Nat.le_of_ble_eq_true rfl) ?_
    refine qs_within (fun h3 => ?_) (fun h3 => ?_)
    · refine r_if_ne (tgt := 21) hC dX5_soon_16 rfl (fun h4 => ?_) (fun h4 => by omega)
      refine r_aload_n hC dX5_soon_21 rfl ?_
      refine z_getR hM dX5_soon_22 fl_RX5_189 rfl rfl (vld_of (n := 8) rfl (by omega) (by omega)) ?_
      refine r_astore hC dX5_soon_25 rfl ?_
      refine r_iload_n hC dX5_soon_27 rfl ?_
      refine r_if_ne (tgt := 57) hC dX5_soon_28 rfl (fun h5 => ?_) (fun h5 => ?_)
      · refine r_aload hC dX5_soon_57 rfl ?_
        refine z_getI (jz := 3) hM dX5_soon_59 fl_RX5_291 rfl rfl rfl (fun v6 h_v6 o_v6 t_v6 => ?_)
        clear t_v6
        have J80_8 : ∀ (w8 : Int), -2147483648 ≤ w8 ∧ w8 ≤ 2147483647 → K 80 [some (vR 2 0), some (vI l), some (vI w), some (vR 7 l), some (vR 11 l)] [vI w8] σ := by
          intro w8  f_w8 
          refine y_iret hK rfl dX5_soon_80 ?_
          exact k _ (by omega)
        refine r_if_le (tgt := 79) hC dX5_soon_62 rfl (fun h7 => ?_) (fun h7 => ?_)
        · refine r_iconst hC dX5_soon_79 rfl ?_
          exact J80_8 ((-1))  (by omega) 
        · refine r_aload hC dX5_soon_65 rfl ?_
          refine z_getI (jz := 3) hM dX5_soon_67 fl_RX5_291 rfl rfl rfl (fun v10 h_v10 o_v10 t_v10 => ?_)
          clear t_v10
          refine r_iconst hC dX5_soon_70 rfl ?_
          refine r_iaddG hC dX5_soon_71 (fun v11 h_v11 => ?_)
          refine r_iconst hC dX5_soon_72 rfl ?_
          refine r_isubG hC dX5_soon_73 (fun v12 h_v12 => ?_)
          refine r_iconst hC dX5_soon_74 rfl ?_
          refine r_idivG hC dX5_soon_75 (by omega) (by omega) (fun v13 h_v13 => ?_)
          refine r_goto (tgt := 80) hC dX5_soon_76 rfl ?_
          exact J80_8 (v13)  (by omega) 
      · refine r_aload hC dX5_soon_31 rfl ?_
        refine z_getI (jz := 3) hM dX5_soon_33 fl_RX5_291 rfl rfl rfl (fun v14 h_v14 o_v14 t_v14 => ?_)
        clear t_v14
        have J56_16 : ∀ (w16 : Int), -2147483648 ≤ w16 ∧ w16 ≤ 2147483647 → K 56 [some (vR 2 0), some (vI l), some (vI w), some (vR 7 l), some (vR 11 l)] [vI w16] σ := by
          intro w16  f_w16 
          refine y_iret hK rfl dX5_soon_56 ?_
          exact k _ (by omega)
        refine r_if_le (tgt := 43) hC dX5_soon_36 rfl (fun h15 => ?_) (fun h15 => ?_)
        · refine r_aload hC dX5_soon_43 rfl ?_
          refine z_getI (jz := 0) hM dX5_soon_45 fl_RX5_294 rfl rfl rfl (fun v18 h_v18 o_v18 t_v18 => ?_)
          clear t_v18
          refine r_iconst hC dX5_soon_48 rfl ?_
          refine r_iaddG hC dX5_soon_49 (fun v19 h_v19 => ?_)
          refine r_aload hC dX5_soon_50 rfl ?_
          refine z_getI (jz := 2) hM dX5_soon_52 fl_RX5_297 rfl rfl rfl (fun v20 h_v20 o_v20 t_v20 => ?_)
          clear t_v20
          refine r_isubG hC dX5_soon_55 (fun v21 h_v21 => ?_)
          exact J56_16 (v21)  (by omega) 
        · refine r_iconst hC dX5_soon_39 rfl ?_
          refine r_goto (tgt := 56) hC dX5_soon_40 rfl ?_
          exact J56_16 ((-1))  (by omega) 
    · refine r_if_ne (tgt := 21) hC dX5_soon_16 rfl (fun h22 => by omega) (fun h22 => ?_)
      refine r_iconst hC dX5_soon_19 rfl ?_
      refine y_iret hK rfl dX5_soon_20 ?_
      exact k _ (by omega)
theorem qs_lane {e : Ev} {d : Nat} {P : Option Vl → Mm → Prop} {σ : Mm} {l w : Int}   (k : ∀ r : Int, -2147483648 ≤ r ∧ r ≤ 2147483647 → P (some (vI r)) σ) : WT e (d + 4) 97 [vR 2 0, vI l, vI w] σ P := by
  refine WT_in fun K hK => ?_
  have hK : StpY e cX5_lane RX5 (some .int) (WT e (d + 3)) P K := hK
  have hM := hK.1
  have hC := hK.1.1
  show K 0 [some (vR 2 0), some (vI l), some (vI w), none] [] σ
  refine r_rngz hC (fun g0 => ?_)
  have r_l : -2147483648 ≤ l ∧ l ≤ 2147483647 := inR_le (g0 (vI l) (by simp))
  have r_w : -2147483648 ≤ w ∧ w ≤ 2147483647 := inR_le (g0 (vI w) (by simp))
  refine r_aload_n hC dX5_lane_0 rfl ?_
  refine r_iload_n hC dX5_lane_1 rfl ?_
  refine z_inv1 hM dX5_lane_2 vl_RX5_123 rfl rfl rfl (Nat.le_of_ble_eq_true rfl) (Nat.le_of_ble_eq_true rfl) ?_
  refine qs_openLane ?_ (fun h1 => ?_)
  · refine r_astoreN_n hC dX5_lane_5 rfl ?_
    refine r_aloadN_n hC dX5_lane_6 rfl ?_
    refine r_ifnonnullN hC dX5_lane_7 ?_
    refine r_iconst hC dX5_lane_10 rfl ?_
    refine r_goto (tgt := 19) hC dX5_lane_11 rfl ?_
    refine y_iret hK rfl dX5_lane_19 ?_
    exact k _ (by omega)
  · refine r_astore_n hC dX5_lane_5 rfl ?_
    refine r_aload_n hC dX5_lane_6 rfl ?_
    refine r_ifnonnullR (tgt := 14) hC dX5_lane_7 rfl ?_
    refine r_aload_n hC dX5_lane_14 rfl ?_
    refine r_iload_n hC dX5_lane_15 rfl ?_
    refine z_inv1 hM dX5_lane_16 vl_RX5_308 rfl rfl rfl (Nat.le_of_ble_eq_true rfl) (Nat.le_of_ble_eq_true rfl) ?_
    refine qs_Lane_told (by omega) (fun v2 h_v2 => ?_)
    refine y_iret hK rfl dX5_lane_19 ?_
    exact k _ (by omega)
theorem qs_event {e : Ev} {d : Nat} {P : Option Vl → Mm → Prop} {σ : Mm} {l x w : Int}   (k : ∀ r : Int, -2147483648 ≤ r ∧ r ≤ 2147483647 → P (some (vI r)) σ) : WT e (d + 5) 72 [vR 2 0, vI l, vI x, vI w] σ P := by
  refine WT_in fun K hK => ?_
  have hK : StpY e cX5_event RX5 (some .int) (WT e (d + 4)) P K := hK
  have hM := hK.1
  have hC := hK.1.1
  show K 0 [some (vR 2 0), some (vI l), some (vI x), some (vI w), none] [] σ
  refine r_rngz hC (fun g0 => ?_)
  have r_l : -2147483648 ≤ l ∧ l ≤ 2147483647 := inR_le (g0 (vI l) (by simp))
  have r_x : -2147483648 ≤ x ∧ x ≤ 2147483647 := inR_le (g0 (vI x) (by simp))
  have r_w : -2147483648 ≤ w ∧ w ≤ 2147483647 := inR_le (g0 (vI w) (by simp))
  refine r_aload_n hC dX5_event_0 rfl ?_
  refine r_iload_n hC dX5_event_1 rfl ?_
  refine r_iload_n hC dX5_event_2 rfl ?_
  refine z_inv2 hM dX5_event_3 vl_RX5_171 rfl rfl rfl (Nat.le_of_ble_eq_true rfl) (Nat.le_of_ble_eq_true rfl) ?_
  refine qs_laneHolding ?_ (fun h1 x_h1 => ?_)
  · refine r_astoreN hC dX5_event_6 rfl ?_
    refine r_aloadN hC dX5_event_8 rfl ?_
    refine r_ifnonnullN hC dX5_event_10 ?_
    refine r_ldc hC dX5_event_13 co_RX5_175 rfl ?_
    refine y_iret hK rfl dX5_event_15 ?_
    exact k _ (by omega)
  · refine r_astore hC dX5_event_6 rfl ?_
    refine r_aload hC dX5_event_8 rfl ?_
    refine r_ifnonnullR (tgt := 16) hC dX5_event_10 rfl ?_
    refine r_iload_n hC dX5_event_16 rfl ?_
    rcases (by omega : (w < 0 ∨ 2 < w) ∨ w = 0 ∨ w = 1 ∨ w = 2) with h2 | h2 | h2 | h2
    · refine r_tableOut (tgt := 68) hC dX5_event_17 h2 rfl ?_
      refine r_ldc hC dX5_event_68 co_RX5_175 rfl ?_
      refine y_iret hK rfl dX5_event_70 ?_
      exact k _ (by omega)
    · refine r_tableIn (tgt := 44) (off := 27) hC dX5_event_17 (by omega) (by omega) (by rw [h2]; rfl) rfl ?_
      refine r_aload hC dX5_event_44 rfl ?_
      refine z_getR hM dX5_event_46 fl_RX5_198 rfl rfl (vld_of (n := 7) rfl (by omega) (by omega)) ?_
      refine r_iload_n hC dX5_event_49 rfl ?_
      refine z_iald hM dX5_event_50 rfl (by omega) (by omega) (fun v3 h_v3 o_v3 t_v3 => ?_)
      clear t_v3
      refine y_iret hK rfl dX5_event_51 ?_
      exact k _ (by omega)
    · refine r_tableIn (tgt := 52) (off := 35) hC dX5_event_17 (by omega) (by omega) (by rw [h2]; rfl) rfl ?_
      refine r_aload hC dX5_event_52 rfl ?_
      refine z_getR hM dX5_event_54 fl_RX5_176 rfl rfl (vld_of (n := 7) rfl (by omega) (by omega)) ?_
      refine r_iload_n hC dX5_event_57 rfl ?_
      refine z_iald hM dX5_event_58 rfl (by omega) (by omega) (fun v4 h_v4 o_v4 t_v4 => ?_)
      clear t_v4
      have q_v4 : -1000 ≤ v4 ∧ v4 ≤ 1000 := o_v4
      refine y_iret hK rfl dX5_event_59 ?_
      exact k _ (by omega)
    · refine r_tableIn (tgt := 60) (off := 43) hC dX5_event_17 (by omega) (by omega) (by rw [h2]; rfl) rfl ?_
      refine r_aload hC dX5_event_60 rfl ?_
      refine z_getR hM dX5_event_62 fl_RX5_245 rfl rfl (vld_of (n := 7) rfl (by omega) (by omega)) ?_
      refine r_iload_n hC dX5_event_65 rfl ?_
      refine z_iald hM dX5_event_66 rfl (by omega) (by omega) (fun v5 h_v5 o_v5 t_v5 => ?_)
      clear t_v5
      refine y_iret hK rfl dX5_event_67 ?_
      exact k _ (by omega)
theorem qs_isFull {e : Ev} {d : Nat} {P : Option Vl → Mm → Prop} {σ : Mm} {i : Int} (b_i : 0 ≤ i ∧ i ≤ 6)  (k : ∀ r : Int, 0 ≤ r ∧ r ≤ 1 → P (some (vI r)) σ) : WT e (d + 1) 29 [vR 7 i] σ P := by
  refine WT_in fun K hK => ?_
  have hK : StpY e cX2_isFull RX2 (some .boolean) (WT e (d + 0)) P K := hK
  have hM := hK.1
  have hC := hK.1.1
  show K 0 [some (vR 7 i)] [] σ
  refine r_aload_n hC dX2_isFull_0 rfl ?_
  refine z_getI (jz := 3) hM dX2_isFull_1 fl_RX2_39 rfl rfl rfl (fun v1 h_v1 o_v1 t_v1 => ?_)
  clear t_v1
  refine r_iconst hC dX2_isFull_4 rfl ?_
  have J22_3 : ∀ (w3 : Int), 0 ≤ w3 ∧ w3 ≤ 1 → K 22 [some (vR 7 i)] [vI w3] σ := by
    intro w3  f_w3 
    refine y_zret hK rfl dX2_isFull_22 (by omega) ?_
    exact k _ (by omega)
  refine r_icmp_eq (tgt := 21) hC dX2_isFull_5 rfl (fun h2 => ?_) (fun h2 => ?_)
  · refine r_iconst hC dX2_isFull_21 rfl ?_
    exact J22_3 (0)  (by omega) 
  · refine r_aload_n hC dX2_isFull_8 rfl ?_
    refine z_getI (jz := 6) hM dX2_isFull_9 fl_RX2_48 rfl rfl rfl (fun v5 h_v5 o_v5 t_v5 => ?_)
    clear t_v5
    have q_v5 : 0 ≤ v5 ∧ v5 ≤ 121 := o_v5.1 rfl
    refine r_bipush hC dX2_isFull_12 rfl ?_
    refine r_icmp_lt (tgt := 21) hC dX2_isFull_14 rfl (fun h6 => ?_) (fun h6 => ?_)
    · refine r_iconst hC dX2_isFull_21 rfl ?_
      exact J22_3 (0)  (by omega) 
    · refine r_iconst hC dX2_isFull_17 rfl ?_
      refine r_goto (tgt := 22) hC dX2_isFull_18 rfl ?_
      exact J22_3 (1)  (by omega) 
theorem qs_isTooLate {e : Ev} {d : Nat} {P : Option Vl → Mm → Prop} {σ : Mm} {i t : Int} (b_i : 0 ≤ i ∧ i ≤ 6)  (k : ∀ r : Int, 0 ≤ r ∧ r ≤ 1 → P (some (vI r)) σ) : WT e (d + 1) 30 [vR 7 i, vI t] σ P := by
  refine WT_in fun K hK => ?_
  have hK : StpY e cX2_isTooLate RX2 (some .boolean) (WT e (d + 0)) P K := hK
  have hM := hK.1
  have hC := hK.1.1
  show K 0 [some (vR 7 i), some (vI t)] [] σ
  refine r_rngz hC (fun g0 => ?_)
  have r_t : -2147483648 ≤ t ∧ t ≤ 2147483647 := inR_le (g0 (vI t) (by simp))
  refine r_iload_n hC dX2_isTooLate_0 rfl ?_
  refine r_aload_n hC dX2_isTooLate_1 rfl ?_
  refine z_getI (jz := 10) hM dX2_isTooLate_2 fl_RX2_51 rfl rfl rfl (fun v1 h_v1 o_v1 t_v1 => ?_)
  clear t_v1
  refine r_aload_n hC dX2_isTooLate_5 rfl ?_
  refine z_getI (jz := 5) hM dX2_isTooLate_6 fl_RX2_45 rfl rfl rfl (fun v2 h_v2 o_v2 t_v2 => ?_)
  clear t_v2
  refine r_isubG hC dX2_isTooLate_9 (fun v3 h_v3 => ?_)
  have J18_5 : ∀ (w5 : Int), 0 ≤ w5 ∧ w5 ≤ 1 → K 18 [some (vR 7 i), some (vI t)] [vI w5] σ := by
    intro w5  f_w5 
    refine y_zret hK rfl dX2_isTooLate_18 (by omega) ?_
    exact k _ (by omega)
  refine r_icmp_ge (tgt := 17) hC dX2_isTooLate_10 rfl (fun h4 => ?_) (fun h4 => ?_)
  · refine r_iconst hC dX2_isTooLate_17 rfl ?_
    exact J18_5 (0)  (by omega) 
  · refine r_iconst hC dX2_isTooLate_13 rfl ?_
    refine r_goto (tgt := 18) hC dX2_isTooLate_14 rfl ?_
    exact J18_5 (1)  (by omega) 
theorem qs_goes {e : Ev} {d : Nat} {P : Option Vl → Mm → Prop} {σ : Mm} {i m t z : Int} (b_i : 0 ≤ i ∧ i ≤ 6)  (k : ∀ r : Int, 0 ≤ r ∧ r ≤ 1 → P (some (vI r)) σ) : WT e (d + 1) 33 [vR 7 i, vI m, vI t, vI z] σ P := by
  refine WT_in fun K hK => ?_
  have hK : StpY e cX2_goes RX2 (some .boolean) (WT e (d + 0)) P K := hK
  have hM := hK.1
  have hC := hK.1.1
  show K 0 [some (vR 7 i), some (vI m), some (vI t), some (vI z)] [] σ
  refine r_rngz hC (fun g0 => ?_)
  have r_m : -2147483648 ≤ m ∧ m ≤ 2147483647 := inR_le (g0 (vI m) (by simp))
  have r_t : -2147483648 ≤ t ∧ t ≤ 2147483647 := inR_le (g0 (vI t) (by simp))
  have r_z : -2147483648 ≤ z ∧ z ≤ 2147483647 := inR_le (g0 (vI z) (by simp))
  refine r_aload_n hC dX2_goes_0 rfl ?_
  refine z_getI (jz := 3) hM dX2_goes_1 fl_RX2_39 rfl rfl rfl (fun v1 h_v1 o_v1 t_v1 => ?_)
  clear t_v1
  refine r_iconst hC dX2_goes_4 rfl ?_
  have J39_3 : ∀ (w3 : Int), 0 ≤ w3 ∧ w3 ≤ 1 → K 39 [some (vR 7 i), some (vI m), some (vI t), some (vI z)] [vI w3] σ := by
    intro w3  f_w3 
    refine y_zret hK rfl dX2_goes_39 (by omega) ?_
    exact k _ (by omega)
  refine r_icmp_ne (tgt := 16) hC dX2_goes_5 rfl (fun h2 => ?_) (fun h2 => ?_)
  · refine r_aload_n hC dX2_goes_16 rfl ?_
    refine z_getI (jz := 3) hM dX2_goes_17 fl_RX2_39 rfl rfl rfl (fun v5 h_v5 o_v5 t_v5 => ?_)
    clear t_v5
    refine r_iconst hC dX2_goes_20 rfl ?_
    refine r_icmp_ne (tgt := 38) hC dX2_goes_21 rfl (fun h6 => ?_) (fun h6 => ?_)
    · refine r_iconst hC dX2_goes_38 rfl ?_
      exact J39_3 (0)  (by omega) 
    · refine r_iload_n hC dX2_goes_24 rfl ?_
      refine r_iload_n hC dX2_goes_25 rfl ?_
      refine r_aload_n hC dX2_goes_26 rfl ?_
      refine z_getI (jz := 4) hM dX2_goes_27 fl_RX2_42 rfl rfl rfl (fun v7 h_v7 o_v7 t_v7 => ?_)
      clear t_v7
      refine r_isubG hC dX2_goes_30 (fun v8 h_v8 => ?_)
      refine r_icmp_gt (tgt := 38) hC dX2_goes_31 rfl (fun h9 => ?_) (fun h9 => ?_)
      · refine r_iconst hC dX2_goes_38 rfl ?_
        exact J39_3 (0)  (by omega) 
      · refine r_iconst hC dX2_goes_34 rfl ?_
        refine r_goto (tgt := 39) hC dX2_goes_35 rfl ?_
        exact J39_3 (1)  (by omega) 
  · refine r_iload_n hC dX2_goes_8 rfl ?_
    refine r_aload_n hC dX2_goes_9 rfl ?_
    refine z_getI (jz := 4) hM dX2_goes_10 fl_RX2_42 rfl rfl rfl (fun v10 h_v10 o_v10 t_v10 => ?_)
    clear t_v10
    refine r_icmp_gt (tgt := 34) hC dX2_goes_13 rfl (fun h11 => ?_) (fun h11 => ?_)
    · refine r_iconst hC dX2_goes_34 rfl ?_
      refine r_goto (tgt := 39) hC dX2_goes_35 rfl ?_
      exact J39_3 (1)  (by omega) 
    · refine r_aload_n hC dX2_goes_16 rfl ?_
      refine z_getI (jz := 3) hM dX2_goes_17 fl_RX2_39 rfl rfl rfl (fun v12 h_v12 o_v12 t_v12 => ?_)
      clear t_v12
      refine r_iconst hC dX2_goes_20 rfl ?_
      refine r_icmp_ne (tgt := 38) hC dX2_goes_21 rfl (fun h13 => ?_) (fun h13 => ?_)
      · refine r_iconst hC dX2_goes_38 rfl ?_
        exact J39_3 (0)  (by omega) 
      · refine r_iload_n hC dX2_goes_24 rfl ?_
        refine r_iload_n hC dX2_goes_25 rfl ?_
        refine r_aload_n hC dX2_goes_26 rfl ?_
        refine z_getI (jz := 4) hM dX2_goes_27 fl_RX2_42 rfl rfl rfl (fun v14 h_v14 o_v14 t_v14 => ?_)
        clear t_v14
        refine r_isubG hC dX2_goes_30 (fun v15 h_v15 => ?_)
        refine r_icmp_gt (tgt := 38) hC dX2_goes_31 rfl (fun h16 => ?_) (fun h16 => ?_)
        · refine r_iconst hC dX2_goes_38 rfl ?_
          exact J39_3 (0)  (by omega) 
        · refine r_iconst hC dX2_goes_34 rfl ?_
          refine r_goto (tgt := 39) hC dX2_goes_35 rfl ?_
          exact J39_3 (1)  (by omega) 
theorem qs_startsSession {e : Ev} {d : Nat} {P : Option Vl → Mm → Prop} {σ : Mm} {i x z : Int} (b_i : 0 ≤ i ∧ i ≤ 6) (b_x : 0 ≤ x ∧ x ≤ 120)  (k : ∀ r : Int, 0 ≤ r ∧ r ≤ 1 → P (some (vI r)) σ) : WT e (d + 1) 32 [vR 7 i, vI x, vI z] σ P := by
  refine WT_in fun K hK => ?_
  have hK : StpY e cX2_startsSession RX2 (some .boolean) (WT e (d + 0)) P K := hK
  have hM := hK.1
  have hC := hK.1.1
  show K 0 [some (vR 7 i), some (vI x), some (vI z)] [] σ
  refine r_rngz hC (fun g0 => ?_)
  have r_z : -2147483648 ≤ z ∧ z ≤ 2147483647 := inR_le (g0 (vI z) (by simp))
  refine r_iload_n hC dX2_startsSession_0 rfl ?_
  have J28_2 : ∀ (w2 : Int), 0 ≤ w2 ∧ w2 ≤ 1 → K 28 [some (vR 7 i), some (vI x), some (vI z)] [vI w2] σ := by
    intro w2  f_w2 
    refine y_zret hK rfl dX2_startsSession_28 (by omega) ?_
    exact k _ (by omega)
  refine r_if_eq (tgt := 23) hC dX2_startsSession_1 rfl (fun h1 => ?_) (fun h1 => ?_)
  · refine r_iconst hC dX2_startsSession_23 rfl ?_
    refine r_goto (tgt := 28) hC dX2_startsSession_24 rfl ?_
    exact J28_2 (1)  (by omega) 
  · refine r_aload_n hC dX2_startsSession_4 rfl ?_
    refine z_getR hM dX2_startsSession_5 fl_RX2_15 rfl rfl (vld_of (n := 7) rfl (by omega) (by omega)) ?_
    refine r_iload_n hC dX2_startsSession_8 rfl ?_
    refine z_iald hM dX2_startsSession_9 rfl (by omega) (by omega) (fun v4 h_v4 o_v4 t_v4 => ?_)
    clear t_v4
    refine r_aload_n hC dX2_startsSession_10 rfl ?_
    refine z_getR hM dX2_startsSession_11 fl_RX2_15 rfl rfl (vld_of (n := 7) rfl (by omega) (by omega)) ?_
    refine r_iload_n hC dX2_startsSession_14 rfl ?_
    refine r_iconst hC dX2_startsSession_15 rfl ?_
    refine r_isubE hC ((x - 1)) dX2_startsSession_16 (by omega) (by unfold inR; omega) ?_
    refine z_iald hM dX2_startsSession_17 rfl (by omega) (by omega) (fun v5 h_v5 o_v5 t_v5 => ?_)
    clear t_v5
    refine r_isubG hC dX2_startsSession_18 (fun v6 h_v6 => ?_)
    refine r_iload_n hC dX2_startsSession_19 rfl ?_
    refine r_icmp_le (tgt := 27) hC dX2_startsSession_20 rfl (fun h7 => ?_) (fun h7 => ?_)
    · refine r_iconst hC dX2_startsSession_27 rfl ?_
      exact J28_2 (0)  (by omega) 
    · refine r_iconst hC dX2_startsSession_23 rfl ?_
      refine r_goto (tgt := 28) hC dX2_startsSession_24 rfl ?_
      exact J28_2 (1)  (by omega) 
theorem qs_heldUntil {e : Ev} {d : Nat} {P : Option Vl → Mm → Prop} {σ : Mm} {i t : Int} (b_i : 0 ≤ i ∧ i ≤ 6)  (k : ∀ r : Int, 0 ≤ r ∧ r ≤ 121 → P (some (vI r)) σ) : WT e (d + 1) 31 [vR 7 i, vL t] σ P := by
  refine WT_in fun K hK => ?_
  have hK : StpY e cX2_heldUntil RX2 (some .int) (WT e (d + 0)) P K := hK
  have hM := hK.1
  have hC := hK.1.1
  show K 0 [some (vR 7 i), some (vL t), none, none] [] σ
  refine r_aload_n hC dX2_heldUntil_0 rfl ?_
  refine z_getI (jz := 6) hM dX2_heldUntil_1 fl_RX2_48 rfl rfl rfl (fun v1 h_v1 o_v1 t_v1 => ?_)
  clear t_v1
  have q_v1 : 0 ≤ v1 ∧ v1 ≤ 121 := o_v1.1 rfl
  refine r_istore_n hC dX2_heldUntil_4 rfl ?_
  have L5 : ∀ (n5 : Nat) (w2 : Int), 0 ≤ w2 ∧ w2 ≤ 121 → w2 - 0 < (n5 : Int) → K 5 [some (vR 7 i), some (vL t), none, some (vI w2)] [] σ := by
    intro n5
    induction n5 with
    | zero => intro w2  f_w2  hm  ; omega
    | succ n5 ih5 =>
      intro w2  f_w2  hm5  
      refine r_iload_n hC dX2_heldUntil_5 rfl ?_
      have J29_3 : K 29 [some (vR 7 i), some (vL t), none, some (vI w2)] [] σ := by
        refine r_iload_n hC dX2_heldUntil_29 rfl ?_
        refine y_iret hK rfl dX2_heldUntil_30 ?_
        exact k _ (by omega)
      refine r_if_le (tgt := 29) hC dX2_heldUntil_6 rfl (fun h3 => ?_) (fun h3 => ?_)
      · exact J29_3
      · refine r_aload_n hC dX2_heldUntil_9 rfl ?_
        refine z_getR hM dX2_heldUntil_10 fl_RX2_15 rfl rfl (vld_of (n := 7) rfl (by omega) (by omega)) ?_
        refine r_iload_n hC dX2_heldUntil_13 rfl ?_
        refine r_iconst hC dX2_heldUntil_14 rfl ?_
        refine r_isubE hC ((w2 - 1)) dX2_heldUntil_15 (by omega) (by unfold inR; omega) ?_
        refine z_iald hM dX2_heldUntil_16 rfl (by omega) (by omega) (fun v5 h_v5 o_v5 t_v5 => ?_)
        clear t_v5
        refine r_i2l hC dX2_heldUntil_17 ?_
        refine r_lload_n hC dX2_heldUntil_18 rfl ?_
        refine r_lcmpG hC dX2_heldUntil_19 (fun v6 h_v6 => ?_)
        refine r_if_le (tgt := 29) hC dX2_heldUntil_20 rfl (fun h7 => ?_) (fun h7 => ?_)
        · exact J29_3
        · refine r_iincE hC ((w2 - 1)) dX2_heldUntil_23 rfl rfl (by omega) (by unfold inR; omega) ?_
          refine r_goto (tgt := 5) hC dX2_heldUntil_26 rfl ?_
          exact ih5 ((w2 - 1))  (by omega)  (by omega)  
  exact L5 123 (v1)  (by omega)  (by omega)  
theorem qs_max {e : Ev} {d : Nat} {P : Option Vl → Mm → Prop} {σ : Mm} {a b : Int}   (k : ∀ r : Int, -2147483648 ≤ r ∧ r ≤ 2147483647 → P (some (vI r)) σ) : WT e (d + 1) 264 [vI a, vI b] σ P := by
  refine WT_in fun K hK => ?_
  have hK : StpY e cJ9_max_7cf53 RJ9 (some .int) (WT e (d + 0)) P K := hK
  have hM := hK.1
  have hC := hK.1.1
  show K 0 [some (vI a), some (vI b)] [] σ
  refine r_rngz hC (fun g0 => ?_)
  have r_a : -2147483648 ≤ a ∧ a ≤ 2147483647 := inR_le (g0 (vI a) (by simp))
  have r_b : -2147483648 ≤ b ∧ b ≤ 2147483647 := inR_le (g0 (vI b) (by simp))
  refine r_iload_n hC dJ9_max_7cf53_0 rfl ?_
  refine r_iload_n hC dJ9_max_7cf53_1 rfl ?_
  have J10_2 : ∀ (w2 : Int), -2147483648 ≤ w2 ∧ w2 ≤ 2147483647 → K 10 [some (vI a), some (vI b)] [vI w2] σ := by
    intro w2  f_w2 
    refine y_iret hK rfl dJ9_max_7cf53_10 ?_
    exact k _ (by omega)
  refine r_icmp_lt (tgt := 9) hC dJ9_max_7cf53_2 rfl (fun h1 => ?_) (fun h1 => ?_)
  · refine r_iload_n hC dJ9_max_7cf53_9 rfl ?_
    exact J10_2 (b)  (by omega) 
  · refine r_iload_n hC dJ9_max_7cf53_5 rfl ?_
    refine r_goto (tgt := 10) hC dJ9_max_7cf53_6 rfl ?_
    exact J10_2 (a)  (by omega) 
theorem qs_min {e : Ev} {d : Nat} {P : Option Vl → Mm → Prop} {σ : Mm} {a b : Int}   (k : ∀ r : Int, -2147483648 ≤ r ∧ r ≤ 2147483647 → P (some (vI r)) σ) : WT e (d + 1) 265 [vI a, vI b] σ P := by
  refine WT_in fun K hK => ?_
  have hK : StpY e cJ9_min_7cf53 RJ9 (some .int) (WT e (d + 0)) P K := hK
  have hM := hK.1
  have hC := hK.1.1
  show K 0 [some (vI a), some (vI b)] [] σ
  refine r_rngz hC (fun g0 => ?_)
  have r_a : -2147483648 ≤ a ∧ a ≤ 2147483647 := inR_le (g0 (vI a) (by simp))
  have r_b : -2147483648 ≤ b ∧ b ≤ 2147483647 := inR_le (g0 (vI b) (by simp))
  refine r_iload_n hC dJ9_min_7cf53_0 rfl ?_
  refine r_iload_n hC dJ9_min_7cf53_1 rfl ?_
  have J10_2 : ∀ (w2 : Int), -2147483648 ≤ w2 ∧ w2 ≤ 2147483647 → K 10 [some (vI a), some (vI b)] [vI w2] σ := by
    intro w2  f_w2 
    refine y_iret hK rfl dJ9_min_7cf53_10 ?_
    exact k _ (by omega)
  refine r_icmp_gt (tgt := 9) hC dJ9_min_7cf53_2 rfl (fun h1 => ?_) (fun h1 => ?_)
  · refine r_iload_n hC dJ9_min_7cf53_9 rfl ?_
    exact J10_2 (b)  (by omega) 
  · refine r_iload_n hC dJ9_min_7cf53_5 rfl ?_
    refine r_goto (tgt := 10) hC dJ9_min_7cf53_6 rfl ?_
    exact J10_2 (a)  (by omega) 
theorem qs_abs {e : Ev} {d : Nat} {P : Option Vl → Mm → Prop} {σ : Mm} {a : Int}   (k : ∀ r : Int, -2147483648 ≤ r ∧ r ≤ 2147483647 → P (some (vI r)) σ) : WT e (d + 1) 263 [vI a] σ P := by
  refine WT_in fun K hK => ?_
  have hK : StpY e cJ9_abs_0f7a4 RJ9 (some .int) (WT e (d + 0)) P K := hK
  have hM := hK.1
  have hC := hK.1.1
  show K 0 [some (vI a)] [] σ
  refine r_rngz hC (fun g0 => ?_)
  have r_a : -2147483648 ≤ a ∧ a ≤ 2147483647 := inR_le (g0 (vI a) (by simp))
  refine r_iload_n hC dJ9_abs_0f7a4_0 rfl ?_
  have J10_2 : ∀ (w2 : Int), -2147483648 ≤ w2 ∧ w2 ≤ 2147483647 → K 10 [some (vI a)] [vI w2] σ := by
    intro w2  f_w2 
    refine y_iret hK rfl dJ9_abs_0f7a4_10 ?_
    exact k _ (by omega)
  refine r_if_ge (tgt := 9) hC dJ9_abs_0f7a4_1 rfl (fun h1 => ?_) (fun h1 => ?_)
  · refine r_iload_n hC dJ9_abs_0f7a4_9 rfl ?_
    exact J10_2 (a)  (by omega) 
  · refine r_iload_n hC dJ9_abs_0f7a4_4 rfl ?_
    refine r_inegG hC dJ9_abs_0f7a4_5 (fun v4 h_v4 => ?_)
    refine r_goto (tgt := 10) hC dJ9_abs_0f7a4_6 rfl ?_
    exact J10_2 (v4)  (by omega) 
theorem qs_bitCount {e : Ev} {d : Nat} {P : Option Vl → Mm → Prop} {σ : Mm} {a : Int}   (k : ∀ r : Int, 0 ≤ r ∧ r ≤ 63 → P (some (vI r)) σ) : WT e (d + 1) 261 [vI a] σ P := by
  refine WT_in fun K hK => ?_
  have hK : StpY e cJ6_bitCount_0f7a4 RJ6 (some .int) (WT e (d + 0)) P K := hK
  have hM := hK.1
  have hC := hK.1.1
  show K 0 [some (vI a)] [] σ
  refine r_rngz hC (fun g0 => ?_)
  have r_a : -2147483648 ≤ a ∧ a ≤ 2147483647 := inR_le (g0 (vI a) (by simp))
  refine r_iload_n hC dJ6_bitCount_0f7a4_0 rfl ?_
  refine r_iload_n hC dJ6_bitCount_0f7a4_1 rfl ?_
  refine r_iconst hC dJ6_bitCount_0f7a4_2 rfl ?_
  refine r_iushrG hC dJ6_bitCount_0f7a4_3 (fun v1 h_v1 => ?_)
  refine r_ldcw hC dJ6_bitCount_0f7a4_4 co_RJ6_265 rfl ?_
  refine r_iandB hC dJ6_bitCount_0f7a4_7 (by omega) (inR_lit rfl) (fun v2 h_v2 => ?_)
  refine r_isubG hC dJ6_bitCount_0f7a4_8 (fun v3 h_v3 => ?_)
  refine r_istore_n hC dJ6_bitCount_0f7a4_9 rfl ?_
  refine r_iload_n hC dJ6_bitCount_0f7a4_10 rfl ?_
  refine r_ldcw hC dJ6_bitCount_0f7a4_11 co_RJ6_266 rfl ?_
  refine r_iandB hC dJ6_bitCount_0f7a4_14 (by omega) (inR_lit rfl) (fun v4 h_v4 => ?_)
  refine r_iload_n hC dJ6_bitCount_0f7a4_15 rfl ?_
  refine r_iconst hC dJ6_bitCount_0f7a4_16 rfl ?_
  refine r_iushrG hC dJ6_bitCount_0f7a4_17 (fun v5 h_v5 => ?_)
  refine r_ldcw hC dJ6_bitCount_0f7a4_18 co_RJ6_266 rfl ?_
  refine r_iandB hC dJ6_bitCount_0f7a4_21 (by omega) (inR_lit rfl) (fun v6 h_v6 => ?_)
  refine r_iaddE hC ((v4 + v6)) dJ6_bitCount_0f7a4_22 (by omega) (by unfold inR; omega) ?_
  refine r_istore_n hC dJ6_bitCount_0f7a4_23 rfl ?_
  refine r_iload_n hC dJ6_bitCount_0f7a4_24 rfl ?_
  refine r_iload_n hC dJ6_bitCount_0f7a4_25 rfl ?_
  refine r_iconst hC dJ6_bitCount_0f7a4_26 rfl ?_
  refine r_iushrG hC dJ6_bitCount_0f7a4_27 (fun v7 h_v7 => ?_)
  refine r_iaddG hC dJ6_bitCount_0f7a4_28 (fun v8 h_v8 => ?_)
  refine r_ldcw hC dJ6_bitCount_0f7a4_29 co_RJ6_267 rfl ?_
  refine r_iandB hC dJ6_bitCount_0f7a4_32 (by omega) (inR_lit rfl) (fun v9 h_v9 => ?_)
  refine r_istore_n hC dJ6_bitCount_0f7a4_33 rfl ?_
  show K _ [_] _ _
  refine r_iload_n hC dJ6_bitCount_0f7a4_34 rfl ?_
  refine r_iload_n hC dJ6_bitCount_0f7a4_35 rfl ?_
  refine r_bipush hC dJ6_bitCount_0f7a4_36 rfl ?_
  refine r_iushrG hC dJ6_bitCount_0f7a4_38 (fun v10 h_v10 => ?_)
  refine r_iaddG hC dJ6_bitCount_0f7a4_39 (fun v11 h_v11 => ?_)
  refine r_istore_n hC dJ6_bitCount_0f7a4_40 rfl ?_
  refine r_iload_n hC dJ6_bitCount_0f7a4_41 rfl ?_
  refine r_iload_n hC dJ6_bitCount_0f7a4_42 rfl ?_
  refine r_bipush hC dJ6_bitCount_0f7a4_43 rfl ?_
  refine r_iushrG hC dJ6_bitCount_0f7a4_45 (fun v12 h_v12 => ?_)
  refine r_iaddG hC dJ6_bitCount_0f7a4_46 (fun v13 h_v13 => ?_)
  refine r_istore_n hC dJ6_bitCount_0f7a4_47 rfl ?_
  refine r_iload_n hC dJ6_bitCount_0f7a4_48 rfl ?_
  refine r_bipush hC dJ6_bitCount_0f7a4_49 rfl ?_
  refine r_iandB hC dJ6_bitCount_0f7a4_51 (by omega) (inR_lit rfl) (fun v14 h_v14 => ?_)
  refine y_iret hK rfl dJ6_bitCount_0f7a4_52 ?_
  exact k _ (by omega)
theorem qs_many {e : Ev} {d : Nat} {P : Option Vl → Mm → Prop} {σ : Mm} {l x y : Int}   (k : ∀ r : Int, -2147483648 ≤ r ∧ r ≤ 2147483647 → P (some (vI r)) σ) : WT e (d + 4) 76 [vR 2 0, vI l, vI x, vI y] σ P := by
  refine WT_in fun K hK => ?_
  have hK : StpY e cX5_many RX5 (some .int) (WT e (d + 3)) P K := hK
  have hM := hK.1
  have hC := hK.1.1
  show K 0 [some (vR 2 0), some (vI l), some (vI x), some (vI y), none] [] σ
  refine r_rngz hC (fun g0 => ?_)
  have r_l : -2147483648 ≤ l ∧ l ≤ 2147483647 := inR_le (g0 (vI l) (by simp))
  have r_x : -2147483648 ≤ x ∧ x ≤ 2147483647 := inR_le (g0 (vI x) (by simp))
  have r_y : -2147483648 ≤ y ∧ y ≤ 2147483647 := inR_le (g0 (vI y) (by simp))
  refine r_aload_n hC dX5_many_0 rfl ?_
  refine r_iload_n hC dX5_many_1 rfl ?_
  refine z_inv1 hM dX5_many_2 vl_RX5_123 rfl rfl rfl (Nat.le_of_ble_eq_true rfl) (Nat.le_of_ble_eq_true rfl) ?_
  refine qs_openLane ?_ (fun h1 => ?_)
  · refine r_astoreN hC dX5_many_5 rfl ?_
    refine r_aloadN hC dX5_many_7 rfl ?_
    refine r_ifnonnullN hC dX5_many_9 ?_
    refine r_iconst hC dX5_many_12 rfl ?_
    refine r_goto (tgt := 37) hC dX5_many_13 rfl ?_
    refine y_iret hK rfl dX5_many_37 ?_
    exact k _ (by omega)
  · refine r_astore hC dX5_many_5 rfl ?_
    refine r_aload hC dX5_many_7 rfl ?_
    refine r_ifnonnullR (tgt := 16) hC dX5_many_9 rfl ?_
    refine r_iconst hC dX5_many_16 rfl ?_
    refine r_aload hC dX5_many_17 rfl ?_
    refine r_iload_n hC dX5_many_19 rfl ?_
    refine r_i2l hC dX5_many_20 ?_
    refine z_inv1 hM dX5_many_21 vl_RX5_167 rfl rfl rfl (Nat.le_of_ble_eq_true rfl) (Nat.le_of_ble_eq_true rfl) ?_
    refine qs_heldUntil (by omega) (fun v2 h_v2 => ?_)
    refine r_aload hC dX5_many_24 rfl ?_
    refine r_iload_n hC dX5_many_26 rfl ?_
    refine r_i2l hC dX5_many_27 ?_
    refine r_lconst hC dX5_many_28 (a := 1) rfl ?_
    refine r_lsub hC dX5_many_29 ?_
    refine z_inv1 hM dX5_many_30 vl_RX5_167 rfl rfl rfl (Nat.le_of_ble_eq_true rfl) (Nat.le_of_ble_eq_true rfl) ?_
    refine qs_heldUntil (by omega) (fun v3 h_v3 => ?_)
    refine r_isubE hC ((v2 - v3)) dX5_many_33 (by omega) (by unfold inR; omega) ?_
    refine z_ins2 hM dX5_many_34 tl_RX5_239 rfl (Nat.le_of_ble_eq_true rfl) (Nat.le_of_ble_eq_true rfl) ?_
    refine qs_max (fun v4 h_v4 => ?_)
    refine y_iret hK rfl dX5_many_37 ?_
    exact k _ (by omega)
theorem qs_panes {e : Ev} {d : Nat} {P : Option Vl → Mm → Prop} {σ : Mm} {l w : Int}   (k : ∀ r : Int, -2147483648 ≤ r ∧ r ≤ 2147483647 → P (some (vI r)) σ) : WT e (d + 4) 89 [vR 2 0, vI l, vI w] σ P := by
  refine WT_in fun K hK => ?_
  have hK : StpY e cX5_panes RX5 (some .int) (WT e (d + 3)) P K := hK
  have hM := hK.1
  have hC := hK.1.1
  show K 0 [some (vR 2 0), some (vI l), some (vI w), none, none, none, none, none] [] σ
  refine r_rngz hC (fun g0 => ?_)
  have r_l : -2147483648 ≤ l ∧ l ≤ 2147483647 := inR_le (g0 (vI l) (by simp))
  have r_w : -2147483648 ≤ w ∧ w ≤ 2147483647 := inR_le (g0 (vI w) (by simp))
  refine r_aload_n hC dX5_panes_0 rfl ?_
  refine r_iload_n hC dX5_panes_1 rfl ?_
  refine z_inv1 hM dX5_panes_2 vl_RX5_123 rfl rfl rfl (Nat.le_of_ble_eq_true rfl) (Nat.le_of_ble_eq_true rfl) ?_
  refine qs_openLane ?_ (fun h1 => ?_)
  · refine r_astoreN_n hC dX5_panes_5 rfl ?_
    refine r_aloadN_n hC dX5_panes_6 rfl ?_
    refine r_ifnullN (tgt := 21) hC dX5_panes_7 rfl ?_
    refine r_iconst hC dX5_panes_21 rfl ?_
    refine y_iret hK rfl dX5_panes_22 ?_
    exact k _ (by omega)
  · refine r_astore_n hC dX5_panes_5 rfl ?_
    refine r_aload_n hC dX5_panes_6 rfl ?_
    refine r_ifnullR hC dX5_panes_7 ?_
    refine r_iload_n hC dX5_panes_10 rfl ?_
    refine r_iconst hC dX5_panes_11 rfl ?_
    refine r_ldcw hC dX5_panes_12 co_RX5_284 rfl ?_
    refine z_ins3 hM dX5_panes_15 tl_RX5_59 rfl (Nat.le_of_ble_eq_true rfl) (Nat.le_of_ble_eq_true rfl) ?_
    refine qs_within (fun h3 => ?_) (fun h3 => ?_)
    · refine r_if_ne (tgt := 23) hC dX5_panes_18 rfl (fun h4 => ?_) (fun h4 => by omega)
      refine r_iconst hC dX5_panes_23 rfl ?_
      refine r_istore hC dX5_panes_24 rfl ?_
      refine r_iconst hC dX5_panes_26 rfl ?_
      refine r_istore hC dX5_panes_27 rfl ?_
      refine r_iconst hC dX5_panes_29 rfl ?_
      refine r_istore hC dX5_panes_30 rfl ?_
      have L32 : ∀ (n32 : Nat) (w5 w6 w7 : Int), -2147483648 ≤ w5 ∧ w5 ≤ 2147483647 → -2147483648 ≤ w6 ∧ w6 ≤ 2147483647 → 0 ≤ w7 ∧ w7 ≤ 121 → 121 - w7 < (n32 : Int) → K 32 [some (vR 2 0), some (vI l), some (vI w), some (vR 7 l), some (vI w5), some (vI w6), some (vI w7), none] [] σ := by
        intro n32
        induction n32 with
        | zero => intro w5 w6 w7  f_w5 f_w6 f_w7  hm  ; omega
        | succ n32 ih32 =>
          intro w5 w6 w7  f_w5 f_w6 f_w7  hm32  
          refine r_iload hC dX5_panes_32 rfl ?_
          refine r_aload_n hC dX5_panes_34 rfl ?_
          refine z_getI (jz := 6) hM dX5_panes_35 fl_RX5_154 rfl rfl rfl (fun v8 h_v8 o_v8 t_v8 => ?_)
          clear t_v8
          have q_v8 : 0 ≤ v8 ∧ v8 ≤ 121 := o_v8.1 rfl
          refine r_icmp_ge (tgt := 79) hC dX5_panes_38 rfl (fun h9 => ?_) (fun h9 => ?_)
          · refine r_iload hC dX5_panes_79 rfl ?_
            refine y_iret hK rfl dX5_panes_81 ?_
            exact k _ (by omega)
          · refine r_aload_n hC dX5_panes_41 rfl ?_
            refine z_getR hM dX5_panes_42 fl_RX5_198 rfl rfl (vld_of (n := 7) rfl (by omega) (by omega)) ?_
            refine r_iload hC dX5_panes_45 rfl ?_
            refine z_iald hM dX5_panes_47 rfl (by omega) (by omega) (fun v10 h_v10 o_v10 t_v10 => ?_)
            clear t_v10
            refine r_iload_n hC dX5_panes_48 rfl ?_
            refine r_idivG hC dX5_panes_49 (by omega) (by omega) (fun v11 h_v11 => ?_)
            refine r_istore hC dX5_panes_50 rfl ?_
            refine r_iload hC dX5_panes_52 rfl ?_
            refine r_iload hC dX5_panes_54 rfl ?_
            refine r_iload hC dX5_panes_56 rfl ?_
            have J66_13 : ∀ (w13 : Int), 0 ≤ w13 ∧ w13 ≤ 1 → K 66 [some (vR 2 0), some (vI l), some (vI w), some (vR 7 l), some (vI w5), some (vI w6), some (vI w7), some (vI v11)] [vI w13, vI w5] σ := by
              intro w13  f_w13 
              refine r_iaddG hC dX5_panes_66 (fun v15 h_v15 => ?_)
              refine r_istore hC dX5_panes_67 rfl ?_
              refine r_iload hC dX5_panes_69 rfl ?_
              refine r_istore hC dX5_panes_71 rfl ?_
              refine r_iincE hC ((w7 + 1)) dX5_panes_73 rfl rfl (by omega) (by unfold inR; omega) ?_
              show K _ [_, _, _, _, _, _, _, _] _ _
              refine r_goto (tgt := 32) hC dX5_panes_76 rfl ?_
              refine r_forget hC (ls2 := [some (vR 2 0), some (vI l), some (vI w), some (vR 7 l), some (vI v15), some (vI v11), some (vI (w7 + 1)), none]) (lsub_some (lsub_some (lsub_some (lsub_some (lsub_some (lsub_some (lsub_some (lsub_none lsub_nil)))))))) ?_
              exact ih32 (v15) (v11) ((w7 + 1))  (by omega) (by omega) (by omega)  (by omega)  
            refine r_icmp_eq (tgt := 65) hC dX5_panes_58 rfl (fun h12 => ?_) (fun h12 => ?_)
            · refine r_iconst hC dX5_panes_65 rfl ?_
              exact J66_13 (0)  (by omega) 
            · refine r_iconst hC dX5_panes_61 rfl ?_
              refine r_goto (tgt := 66) hC dX5_panes_62 rfl ?_
              exact J66_13 (1)  (by omega) 
      exact L32 123 (0) ((-1)) (0)  (by omega) (by omega) (by omega)  (by omega)  
    · refine r_if_ne (tgt := 23) hC dX5_panes_18 rfl (fun h16 => by omega) (fun h16 => ?_)
      refine r_iconst hC dX5_panes_21 rfl ?_
      refine y_iret hK rfl dX5_panes_22 ?_
      exact k _ (by omega)
theorem qs_fullest {e : Ev} {d : Nat} {P : Option Vl → Mm → Prop} {σ : Mm} {l w : Int}   (k : ∀ r : Int, -2147483648 ≤ r ∧ r ≤ 2147483647 → P (some (vI r)) σ) : WT e (d + 4) 90 [vR 2 0, vI l, vI w] σ P := by
  refine WT_in fun K hK => ?_
  have hK : StpY e cX5_fullest RX5 (some .int) (WT e (d + 3)) P K := hK
  have hM := hK.1
  have hC := hK.1.1
  show K 0 [some (vR 2 0), some (vI l), some (vI w), none, none, none, none, none, none, none] [] σ
  refine r_rngz hC (fun g0 => ?_)
  have r_l : -2147483648 ≤ l ∧ l ≤ 2147483647 := inR_le (g0 (vI l) (by simp))
  have r_w : -2147483648 ≤ w ∧ w ≤ 2147483647 := inR_le (g0 (vI w) (by simp))
  refine r_aload_n hC dX5_fullest_0 rfl ?_
  refine r_iload_n hC dX5_fullest_1 rfl ?_
  refine z_inv1 hM dX5_fullest_2 vl_RX5_123 rfl rfl rfl (Nat.le_of_ble_eq_true rfl) (Nat.le_of_ble_eq_true rfl) ?_
  refine qs_openLane ?_ (fun h1 => ?_)
  · refine r_astoreN_n hC dX5_fullest_5 rfl ?_
    refine r_aloadN_n hC dX5_fullest_6 rfl ?_
    refine r_ifnullN (tgt := 21) hC dX5_fullest_7 rfl ?_
    refine r_iconst hC dX5_fullest_21 rfl ?_
    refine y_iret hK rfl dX5_fullest_22 ?_
    exact k _ (by omega)
  · refine r_astore_n hC dX5_fullest_5 rfl ?_
    refine r_aload_n hC dX5_fullest_6 rfl ?_
    refine r_ifnullR hC dX5_fullest_7 ?_
    refine r_iload_n hC dX5_fullest_10 rfl ?_
    refine r_iconst hC dX5_fullest_11 rfl ?_
    refine r_ldcw hC dX5_fullest_12 co_RX5_284 rfl ?_
    refine z_ins3 hM dX5_fullest_15 tl_RX5_59 rfl (Nat.le_of_ble_eq_true rfl) (Nat.le_of_ble_eq_true rfl) ?_
    refine qs_within (fun h3 => ?_) (fun h3 => ?_)
    · refine r_if_ne (tgt := 23) hC dX5_fullest_18 rfl (fun h4 => ?_) (fun h4 => by omega)
      refine r_iconst hC dX5_fullest_23 rfl ?_
      refine r_istore hC dX5_fullest_24 rfl ?_
      refine r_iconst hC dX5_fullest_26 rfl ?_
      refine r_istore hC dX5_fullest_27 rfl ?_
      refine r_iconst hC dX5_fullest_29 rfl ?_
      refine r_istore hC dX5_fullest_30 rfl ?_
      show K _ [_, _, _, _, _, _, _, _, _, _] _ _
      refine r_iconst hC dX5_fullest_32 rfl ?_
      refine r_istore hC dX5_fullest_33 rfl ?_
      refine r_iconst hC dX5_fullest_35 rfl ?_
      refine r_istore hC dX5_fullest_36 rfl ?_
      have L38 : ∀ (n38 : Nat) (w5 w6 w7 w8 w9 : Int), -2147483648 ≤ w5 ∧ w5 ≤ 2147483647 → 0 ≤ w6 ∧ w6 ≤ 2147483647 → -2147483648 ≤ w7 ∧ w7 ≤ 2147483647 → -2147483648 ≤ w8 ∧ w8 ≤ 2147483647 → 0 ≤ w9 ∧ w9 ≤ 121 → 121 - w9 < (n38 : Int) → K 38 [some (vR 2 0), some (vI l), some (vI w), some (vR 7 l), some (vI w5), some (vI w6), some (vI w7), some (vI w8), some (vI w9), none] [] σ := by
        intro n38
        induction n38 with
        | zero => intro w5 w6 w7 w8 w9  f_w5 f_w6 f_w7 f_w8 f_w9  hm  ; omega
        | succ n38 ih38 =>
          intro w5 w6 w7 w8 w9  f_w5 f_w6 f_w7 f_w8 f_w9  hm38  
          refine r_iload hC dX5_fullest_38 rfl ?_
          refine r_aload_n hC dX5_fullest_40 rfl ?_
          refine z_getI (jz := 6) hM dX5_fullest_41 fl_RX5_154 rfl rfl rfl (fun v10 h_v10 o_v10 t_v10 => ?_)
          clear t_v10
          have q_v10 : 0 ≤ v10 ∧ v10 ≤ 121 := o_v10.1 rfl
          refine r_icmp_ge (tgt := 100) hC dX5_fullest_44 rfl (fun h11 => ?_) (fun h11 => ?_)
          · refine r_iload hC dX5_fullest_100 rfl ?_
            refine y_iret hK rfl dX5_fullest_102 ?_
            exact k _ (by omega)
          · refine r_aload_n hC dX5_fullest_47 rfl ?_
            refine z_getR hM dX5_fullest_48 fl_RX5_198 rfl rfl (vld_of (n := 7) rfl (by omega) (by omega)) ?_
            refine r_iload hC dX5_fullest_51 rfl ?_
            refine z_iald hM dX5_fullest_53 rfl (by omega) (by omega) (fun v12 h_v12 o_v12 t_v12 => ?_)
            clear t_v12
            refine r_iload_n hC dX5_fullest_54 rfl ?_
            refine r_idivG hC dX5_fullest_55 (by omega) (by omega) (fun v13 h_v13 => ?_)
            refine r_istore hC dX5_fullest_56 rfl ?_
            refine r_iload hC dX5_fullest_58 rfl ?_
            refine r_iload hC dX5_fullest_60 rfl ?_
            have J73_15 : ∀ (w15 : Int), -2147483648 ≤ w15 ∧ w15 ≤ 2147483647 → K 73 [some (vR 2 0), some (vI l), some (vI w), some (vR 7 l), some (vI w5), some (vI w6), some (vI w7), some (vI w8), some (vI w9), some (vI v13)] [vI w15] σ := by
              intro w15  f_w15 
              refine r_istore hC dX5_fullest_73 rfl ?_
              refine r_iload hC dX5_fullest_75 rfl ?_
              refine r_istore hC dX5_fullest_77 rfl ?_
              refine r_iload hC dX5_fullest_79 rfl ?_
              refine r_iload hC dX5_fullest_81 rfl ?_
              have J94_19 : ∀ (w18 w19 : Int), -2147483648 ≤ w18 ∧ w18 ≤ 2147483647 → 0 ≤ w19 ∧ w19 ≤ 2147483647 → K 94 [some (vR 2 0), some (vI l), some (vI w), some (vR 7 l), some (vI w18), some (vI w19), some (vI v13), some (vI w15), some (vI w9), some (vI v13)] [] σ := by
                intro w18 w19  f_w18 f_w19 
                refine r_iincE hC ((w9 + 1)) dX5_fullest_94 rfl rfl (by omega) (by unfold inR; omega) ?_
                refine r_goto (tgt := 38) hC dX5_fullest_97 rfl ?_
                refine r_forget hC (ls2 := [some (vR 2 0), some (vI l), some (vI w), some (vR 7 l), some (vI w18), some (vI w19), some (vI v13), some (vI w15), some (vI (w9 + 1)), none]) (lsub_some (lsub_some (lsub_some (lsub_some (lsub_some (lsub_some (lsub_some (lsub_some (lsub_some (lsub_none lsub_nil)))))))))) ?_
                exact ih38 (w18) (w19) (v13) (w15) ((w9 + 1))  (by omega) (by omega) (by omega) (by omega) (by omega)  (by omega)  
              refine r_icmp_le (tgt := 94) hC dX5_fullest_83 rfl (fun h17 => ?_) (fun h17 => ?_)
              · exact J94_19 (w5) (w6)  (by omega) (by omega)
              · refine r_iload hC dX5_fullest_86 rfl ?_
                refine r_istore hC dX5_fullest_88 rfl ?_
                refine r_iload hC dX5_fullest_90 rfl ?_
                refine r_istore hC dX5_fullest_92 rfl ?_
                exact J94_19 (v13) (w15)  (by omega) (by omega) 
            refine r_icmp_ne (tgt := 72) hC dX5_fullest_62 rfl (fun h14 => ?_) (fun h14 => ?_)
            · refine r_iconst hC dX5_fullest_72 rfl ?_
              exact J73_15 (1)  (by omega) 
            · refine r_iload hC dX5_fullest_65 rfl ?_
              refine r_iconst hC dX5_fullest_67 rfl ?_
              refine r_iaddG hC dX5_fullest_68 (fun v21 h_v21 => ?_)
              refine r_goto (tgt := 73) hC dX5_fullest_69 rfl ?_
              exact J73_15 (v21)  (by omega) 
      exact L38 123 ((-1)) (0) ((-1)) (0) (0)  (by omega) (by omega) (by omega) (by omega) (by omega)  (by omega)  
    · refine r_if_ne (tgt := 23) hC dX5_fullest_18 rfl (fun h22 => by omega) (fun h22 => ?_)
      refine r_iconst hC dX5_fullest_21 rfl ?_
      refine y_iret hK rfl dX5_fullest_22 ?_
      exact k _ (by omega)
theorem qs_sessions {e : Ev} {d : Nat} {P : Option Vl → Mm → Prop} {σ : Mm} {l w : Int}   (k : ∀ r : Int, -2147483648 ≤ r ∧ r ≤ 2147483647 → P (some (vI r)) σ) : WT e (d + 4) 91 [vR 2 0, vI l, vI w] σ P := by
  refine WT_in fun K hK => ?_
  have hK : StpY e cX5_sessions RX5 (some .int) (WT e (d + 3)) P K := hK
  have hM := hK.1
  have hC := hK.1.1
  show K 0 [some (vR 2 0), some (vI l), some (vI w), none, none, none] [] σ
  refine r_rngz hC (fun g0 => ?_)
  have r_l : -2147483648 ≤ l ∧ l ≤ 2147483647 := inR_le (g0 (vI l) (by simp))
  have r_w : -2147483648 ≤ w ∧ w ≤ 2147483647 := inR_le (g0 (vI w) (by simp))
  refine r_aload_n hC dX5_sessions_0 rfl ?_
  refine r_iload_n hC dX5_sessions_1 rfl ?_
  refine z_inv1 hM dX5_sessions_2 vl_RX5_123 rfl rfl rfl (Nat.le_of_ble_eq_true rfl) (Nat.le_of_ble_eq_true rfl) ?_
  refine qs_openLane ?_ (fun h1 => ?_)
  · refine r_astoreN_n hC dX5_sessions_5 rfl ?_
    refine r_aloadN_n hC dX5_sessions_6 rfl ?_
    refine r_ifnullN (tgt := 17) hC dX5_sessions_7 rfl ?_
    refine r_iconst hC dX5_sessions_17 rfl ?_
    refine y_iret hK rfl dX5_sessions_18 ?_
    exact k _ (by omega)
  · refine r_astore_n hC dX5_sessions_5 rfl ?_
    refine r_aload_n hC dX5_sessions_6 rfl ?_
    refine r_ifnullR hC dX5_sessions_7 ?_
    refine r_iload_n hC dX5_sessions_10 rfl ?_
    refine z_ins1 hM dX5_sessions_11 tl_RX5_285 rfl (Nat.le_of_ble_eq_true rfl) (Nat.le_of_ble_eq_true rfl) ?_
    refine qs_isGap (fun h3 => ?_) (fun h3 => ?_)
    · refine r_if_ne (tgt := 19) hC dX5_sessions_14 rfl (fun h4 => ?_) (fun h4 => by omega)
      refine r_iconst hC dX5_sessions_19 rfl ?_
      refine r_istore hC dX5_sessions_20 rfl ?_
      refine r_iconst hC dX5_sessions_22 rfl ?_
      refine r_istore hC dX5_sessions_23 rfl ?_
      have L25 : ∀ (n25 : Nat) (w5 w6 : Int), -2147483648 ≤ w5 ∧ w5 ≤ 2147483647 → 0 ≤ w6 ∧ w6 ≤ 121 → 121 - w6 < (n25 : Int) → K 25 [some (vR 2 0), some (vI l), some (vI w), some (vR 7 l), some (vI w5), some (vI w6)] [] σ := by
        intro n25
        induction n25 with
        | zero => intro w5 w6  f_w5 f_w6  hm  ; omega
        | succ n25 ih25 =>
          intro w5 w6  f_w5 f_w6  hm25  
          refine r_iload hC dX5_sessions_25 rfl ?_
          refine r_aload_n hC dX5_sessions_27 rfl ?_
          refine z_getI (jz := 6) hM dX5_sessions_28 fl_RX5_154 rfl rfl rfl (fun v7 h_v7 o_v7 t_v7 => ?_)
          clear t_v7
          have q_v7 : 0 ≤ v7 ∧ v7 ≤ 121 := o_v7.1 rfl
          refine r_icmp_ge (tgt := 60) hC dX5_sessions_31 rfl (fun h8 => ?_) (fun h8 => ?_)
          · refine r_iload hC dX5_sessions_60 rfl ?_
            refine y_iret hK rfl dX5_sessions_62 ?_
            exact k _ (by omega)
          · refine r_iload hC dX5_sessions_34 rfl ?_
            refine r_aload_n hC dX5_sessions_36 rfl ?_
            refine r_iload hC dX5_sessions_37 rfl ?_
            refine r_iload_n hC dX5_sessions_39 rfl ?_
            refine z_inv2 hM dX5_sessions_40 vl_RX5_221 rfl rfl rfl (Nat.le_of_ble_eq_true rfl) (Nat.le_of_ble_eq_true rfl) ?_
            refine qs_startsSession (by omega) (by omega) (fun v9 h_v9 => ?_)
            have J51_11 : ∀ (w11 : Int), 0 ≤ w11 ∧ w11 ≤ 1 → K 51 [some (vR 2 0), some (vI l), some (vI w), some (vR 7 l), some (vI w5), some (vI w6)] [vI w11, vI w5] σ := by
              intro w11  f_w11 
              refine r_iaddG hC dX5_sessions_51 (fun v13 h_v13 => ?_)
              refine r_istore hC dX5_sessions_52 rfl ?_
              refine r_iincE hC ((w6 + 1)) dX5_sessions_54 rfl rfl (by omega) (by unfold inR; omega) ?_
              refine r_goto (tgt := 25) hC dX5_sessions_57 rfl ?_
              exact ih25 (v13) ((w6 + 1))  (by omega) (by omega)  (by omega)  
            refine r_if_eq (tgt := 50) hC dX5_sessions_43 rfl (fun h10 => ?_) (fun h10 => ?_)
            · refine r_iconst hC dX5_sessions_50 rfl ?_
              exact J51_11 (0)  (by omega) 
            · refine r_iconst hC dX5_sessions_46 rfl ?_
              refine r_goto (tgt := 51) hC dX5_sessions_47 rfl ?_
              exact J51_11 (1)  (by omega) 
      exact L25 123 (0) (0)  (by omega) (by omega)  (by omega)  
    · refine r_if_ne (tgt := 19) hC dX5_sessions_14 rfl (fun h14 => by omega) (fun h14 => ?_)
      refine r_iconst hC dX5_sessions_17 rfl ?_
      refine y_iret hK rfl dX5_sessions_18 ?_
      exact k _ (by omega)
theorem qs_longest {e : Ev} {d : Nat} {P : Option Vl → Mm → Prop} {σ : Mm} {l w : Int}   (k : ∀ r : Int, -2147483648 ≤ r ∧ r ≤ 2147483647 → P (some (vI r)) σ) : WT e (d + 4) 93 [vR 2 0, vI l, vI w] σ P := by
  refine WT_in fun K hK => ?_
  have hK : StpY e cX5_longest RX5 (some .int) (WT e (d + 3)) P K := hK
  have hM := hK.1
  have hC := hK.1.1
  show K 0 [some (vR 2 0), some (vI l), some (vI w), none, none, none, none, none, none, none] [] σ
  refine r_rngz hC (fun g0 => ?_)
  have r_l : -2147483648 ≤ l ∧ l ≤ 2147483647 := inR_le (g0 (vI l) (by simp))
  have r_w : -2147483648 ≤ w ∧ w ≤ 2147483647 := inR_le (g0 (vI w) (by simp))
  refine r_aload_n hC dX5_longest_0 rfl ?_
  refine r_iload_n hC dX5_longest_1 rfl ?_
  refine z_inv1 hM dX5_longest_2 vl_RX5_123 rfl rfl rfl (Nat.le_of_ble_eq_true rfl) (Nat.le_of_ble_eq_true rfl) ?_
  refine qs_openLane ?_ (fun h1 => ?_)
  · refine r_astoreN_n hC dX5_longest_5 rfl ?_
    refine r_aloadN_n hC dX5_longest_6 rfl ?_
    refine r_ifnullN (tgt := 17) hC dX5_longest_7 rfl ?_
    refine r_iconst hC dX5_longest_17 rfl ?_
    refine y_iret hK rfl dX5_longest_18 ?_
    exact k _ (by omega)
  · refine r_astore_n hC dX5_longest_5 rfl ?_
    refine r_aload_n hC dX5_longest_6 rfl ?_
    refine r_ifnullR hC dX5_longest_7 ?_
    refine r_iload_n hC dX5_longest_10 rfl ?_
    refine z_ins1 hM dX5_longest_11 tl_RX5_285 rfl (Nat.le_of_ble_eq_true rfl) (Nat.le_of_ble_eq_true rfl) ?_
    refine qs_isGap (fun h3 => ?_) (fun h3 => ?_)
    · refine r_if_ne (tgt := 19) hC dX5_longest_14 rfl (fun h4 => ?_) (fun h4 => by omega)
      refine r_iconst hC dX5_longest_19 rfl ?_
      refine r_istore hC dX5_longest_20 rfl ?_
      refine r_iconst hC dX5_longest_22 rfl ?_
      refine r_istore hC dX5_longest_23 rfl ?_
      refine r_iconst hC dX5_longest_25 rfl ?_
      refine r_istore hC dX5_longest_26 rfl ?_
      show K _ [_, _, _, _, _, _, _, _, _, _] _ _
      refine r_iconst hC dX5_longest_28 rfl ?_
      refine r_istore hC dX5_longest_29 rfl ?_
      refine r_iconst hC dX5_longest_31 rfl ?_
      refine r_istore hC dX5_longest_32 rfl ?_
      have L34 : ∀ (n34 : Nat) (w5 w6 w7 w8 w9 : Int), -2147483648 ≤ w5 ∧ w5 ≤ 2147483647 → 0 ≤ w6 ∧ w6 ≤ 2147483647 → -2147483648 ≤ w7 ∧ w7 ≤ 2147483647 → -2147483648 ≤ w8 ∧ w8 ≤ 2147483647 → 0 ≤ w9 ∧ w9 ≤ 121 → 121 - w9 < (n34 : Int) → K 34 [some (vR 2 0), some (vI l), some (vI w), some (vR 7 l), some (vI w5), some (vI w6), some (vI w7), some (vI w8), some (vI w9), none] [] σ := by
        intro n34
        induction n34 with
        | zero => intro w5 w6 w7 w8 w9  f_w5 f_w6 f_w7 f_w8 f_w9  hm  ; omega
        | succ n34 ih34 =>
          intro w5 w6 w7 w8 w9  f_w5 f_w6 f_w7 f_w8 f_w9  hm34  
          refine r_iload hC dX5_longest_34 rfl ?_
          refine r_aload_n hC dX5_longest_36 rfl ?_
          refine z_getI (jz := 6) hM dX5_longest_37 fl_RX5_154 rfl rfl rfl (fun v10 h_v10 o_v10 t_v10 => ?_)
          clear t_v10
          have q_v10 : 0 ≤ v10 ∧ v10 ≤ 121 := o_v10.1 rfl
          refine r_icmp_ge (tgt := 103) hC dX5_longest_40 rfl (fun h11 => ?_) (fun h11 => ?_)
          · refine r_iload hC dX5_longest_103 rfl ?_
            refine y_iret hK rfl dX5_longest_105 ?_
            exact k _ (by omega)
          · refine r_aload_n hC dX5_longest_43 rfl ?_
            refine r_iload hC dX5_longest_44 rfl ?_
            refine r_iload_n hC dX5_longest_46 rfl ?_
            refine z_inv2 hM dX5_longest_47 vl_RX5_221 rfl rfl rfl (Nat.le_of_ble_eq_true rfl) (Nat.le_of_ble_eq_true rfl) ?_
            refine qs_startsSession (by omega) (by omega) (fun v12 h_v12 => ?_)
            refine r_istore hC dX5_longest_50 rfl ?_
            refine r_iload hC dX5_longest_52 rfl ?_
            refine r_iload hC dX5_longest_54 rfl ?_
            have J64_14 : ∀ (w14 : Int), 0 ≤ w14 ∧ w14 ≤ 1 → K 64 [some (vR 2 0), some (vI l), some (vI w), some (vR 7 l), some (vI w5), some (vI w6), some (vI w7), some (vI w8), some (vI w9), some (vI v12)] [vI w14, vI w7] σ := by
              intro w14  f_w14 
              refine r_iaddG hC dX5_longest_64 (fun v16 h_v16 => ?_)
              refine r_istore hC dX5_longest_65 rfl ?_
              refine r_iload hC dX5_longest_67 rfl ?_
              have J80_18 : ∀ (w18 : Int), -2147483648 ≤ w18 ∧ w18 ≤ 2147483647 → K 80 [some (vR 2 0), some (vI l), some (vI w), some (vR 7 l), some (vI w5), some (vI w6), some (vI v16), some (vI w8), some (vI w9), some (vI v12)] [vI w18] σ := by
                intro w18  f_w18 
                refine r_istore hC dX5_longest_80 rfl ?_
                refine r_iload hC dX5_longest_82 rfl ?_
                refine r_iload hC dX5_longest_84 rfl ?_
                have J97_22 : ∀ (w21 w22 : Int), -2147483648 ≤ w21 ∧ w21 ≤ 2147483647 → 0 ≤ w22 ∧ w22 ≤ 2147483647 → K 97 [some (vR 2 0), some (vI l), some (vI w), some (vR 7 l), some (vI w21), some (vI w22), some (vI v16), some (vI w18), some (vI w9), some (vI v12)] [] σ := by
                  intro w21 w22  f_w21 f_w22 
                  refine r_iincE hC ((w9 + 1)) dX5_longest_97 rfl rfl (by omega) (by unfold inR; omega) ?_
                  refine r_goto (tgt := 34) hC dX5_longest_100 rfl ?_
                  refine r_forget hC (ls2 := [some (vR 2 0), some (vI l), some (vI w), some (vR 7 l), some (vI w21), some (vI w22), some (vI v16), some (vI w18), some (vI (w9 + 1)), none]) (lsub_some (lsub_some (lsub_some (lsub_some (lsub_some (lsub_some (lsub_some (lsub_some (lsub_some (lsub_none lsub_nil)))))))))) ?_
                  exact ih34 (w21) (w22) (v16) (w18) ((w9 + 1))  (by omega) (by omega) (by omega) (by omega) (by omega)  (by omega)  
                refine r_icmp_le (tgt := 97) hC dX5_longest_86 rfl (fun h20 => ?_) (fun h20 => ?_)
                · exact J97_22 (w5) (w6)  (by omega) (by omega)
                · refine r_iload hC dX5_longest_89 rfl ?_
                  refine r_istore hC dX5_longest_91 rfl ?_
                  refine r_iload hC dX5_longest_93 rfl ?_
                  refine r_istore hC dX5_longest_95 rfl ?_
                  exact J97_22 (v16) (w18)  (by omega) (by omega) 
              refine r_if_eq (tgt := 76) hC dX5_longest_69 rfl (fun h17 => ?_) (fun h17 => ?_)
              · refine r_iload hC dX5_longest_76 rfl ?_
                refine r_iconst hC dX5_longest_78 rfl ?_
                refine r_iaddG hC dX5_longest_79 (fun v24 h_v24 => ?_)
                exact J80_18 (v24)  (by omega) 
              · refine r_iconst hC dX5_longest_72 rfl ?_
                refine r_goto (tgt := 80) hC dX5_longest_73 rfl ?_
                exact J80_18 (1)  (by omega) 
            refine r_if_eq (tgt := 63) hC dX5_longest_56 rfl (fun h13 => ?_) (fun h13 => ?_)
            · refine r_iconst hC dX5_longest_63 rfl ?_
              exact J64_14 (0)  (by omega) 
            · refine r_iconst hC dX5_longest_59 rfl ?_
              refine r_goto (tgt := 64) hC dX5_longest_60 rfl ?_
              exact J64_14 (1)  (by omega) 
      exact L34 123 ((-1)) (0) ((-1)) (0) (0)  (by omega) (by omega) (by omega) (by omega) (by omega)  (by omega)  
    · refine r_if_ne (tgt := 19) hC dX5_longest_14 rfl (fun h25 => by omega) (fun h25 => ?_)
      refine r_iconst hC dX5_longest_17 rfl ?_
      refine y_iret hK rfl dX5_longest_18 ?_
      exact k _ (by omega)
theorem qs_number {e : Ev} {d : Nat} {P : Option Vl → Mm → Prop} {σ : Mm} {w : Int}   (k : ∀ r : Int, -2147483648 ≤ r ∧ r ≤ 2147483647 → P (some (vI r)) σ) : WT e (d + 1) 10 [vR 14 0, vI w] σ P := by
  refine WT_in fun K hK => ?_
  have hK : StpY e cX1_number RX1 (some .int) (WT e (d + 0)) P K := hK
  have hM := hK.1
  have hC := hK.1.1
  show K 0 [some (vR 14 0), some (vI w)] [] σ
  refine r_rngz hC (fun g0 => ?_)
  have r_w : -2147483648 ≤ w ∧ w ≤ 2147483647 := inR_le (g0 (vI w) (by simp))
  refine r_aload_n hC dX1_number_0 rfl ?_
  refine z_getI (jz := 6) hM dX1_number_1 fl_RX1_34 rfl rfl rfl (fun v1 h_v1 o_v1 t_v1 => ?_)
  clear t_v1
  have J34_3 : ∀ (w3 : Int), -2147483648 ≤ w3 ∧ w3 ≤ 2147483647 → K 34 [some (vR 14 0), some (vI w)] [vI w3] σ := by
    intro w3  f_w3 
    refine y_iret hK rfl dX1_number_34 ?_
    exact k _ (by omega)
  refine r_if_eq (tgt := 23) hC dX1_number_4 rfl (fun h2 => ?_) (fun h2 => ?_)
  · refine r_ldc hC dX1_number_23 co_RX1_40 rfl ?_
    refine r_goto (tgt := 34) hC dX1_number_25 rfl ?_
    exact J34_3 ((-2147483648))  (by omega) 
  · refine r_iload_n hC dX1_number_7 rfl ?_
    refine r_if_lt (tgt := 23) hC dX1_number_8 rfl (fun h5 => ?_) (fun h5 => ?_)
    · refine r_ldc hC dX1_number_23 co_RX1_40 rfl ?_
      refine r_goto (tgt := 34) hC dX1_number_25 rfl ?_
      exact J34_3 ((-2147483648))  (by omega) 
    · refine r_iload_n hC dX1_number_11 rfl ?_
      refine z_nums hM dX1_number_12 sl_RX1_41 ?_
      refine r_aload_n hC dX1_number_15 rfl ?_
      refine z_getI (jz := 5) hM dX1_number_16 fl_RX1_30 rfl rfl rfl (fun v6 h_v6 o_v6 t_v6 => ?_)
      clear t_v6
      have q_v6 : 0 ≤ v6 ∧ v6 ≤ 9 := o_v6 rfl
      refine z_nald hM dX1_number_19 (by omega) (by omega) ?_
      obtain ⟨v7, e_v7⟩ : ∃ x, x = numF v6 := ⟨_, rfl⟩
      rw [← e_v7]
      have h_v7 : 1 ≤ v7 ∧ v7 ≤ 7 := by rw [e_v7]; exact numF_rng _
      refine r_icmp_lt (tgt := 28) hC dX1_number_20 rfl (fun h8 => ?_) (fun h8 => ?_)
      · refine r_aload_n hC dX1_number_28 rfl ?_
        refine z_getR hM dX1_number_29 fl_RX1_24 rfl rfl (vld_of (n := 1) rfl (by omega) (by omega)) ?_
        refine r_iload_n hC dX1_number_32 rfl ?_
        refine z_iald hM dX1_number_33 rfl (by omega) (by omega) (fun v9 h_v9 o_v9 t_v9 => ?_)
        clear t_v9
        exact J34_3 (v9)  (by omega) 
      · refine r_ldc hC dX1_number_23 co_RX1_40 rfl ?_
        refine r_goto (tgt := 34) hC dX1_number_25 rfl ?_
        exact J34_3 ((-2147483648))  (by omega) 
theorem qs_reaches {e : Ev} {d : Nat} {P : Option Vl → Mm → Prop} {σ : Mm} {w b : Int}   (k : ∀ r : Int, 0 ≤ r ∧ r ≤ 1 → P (some (vI r)) σ) : WT e (d + 2) 11 [vR 14 0, vI w, vI b] σ P := by
  refine WT_in fun K hK => ?_
  have hK : StpY e cX1_reaches RX1 (some .boolean) (WT e (d + 1)) P K := hK
  have hM := hK.1
  have hC := hK.1.1
  show K 0 [some (vR 14 0), some (vI w), some (vI b), none] [] σ
  refine r_rngz hC (fun g0 => ?_)
  have r_w : -2147483648 ≤ w ∧ w ≤ 2147483647 := inR_le (g0 (vI w) (by simp))
  have r_b : -2147483648 ≤ b ∧ b ≤ 2147483647 := inR_le (g0 (vI b) (by simp))
  refine r_aload_n hC dX1_reaches_0 rfl ?_
  refine r_iload_n hC dX1_reaches_1 rfl ?_
  refine z_inv1 hM dX1_reaches_2 vl_RX1_44 rfl rfl rfl (Nat.le_of_ble_eq_true rfl) (Nat.le_of_ble_eq_true rfl) ?_
  refine qs_number (fun v1 h_v1 => ?_)
  refine r_istore_n hC dX1_reaches_5 rfl ?_
  refine r_iload_n hC dX1_reaches_6 rfl ?_
  refine r_ldc hC dX1_reaches_7 co_RX1_40 rfl ?_
  have J22_3 : ∀ (w3 : Int), 0 ≤ w3 ∧ w3 ≤ 1 → K 22 [some (vR 14 0), some (vI w), some (vI b), some (vI v1)] [vI w3] σ := by
    intro w3  f_w3 
    refine y_zret hK rfl dX1_reaches_22 (by omega) ?_
    exact k _ (by omega)
  refine r_icmp_eq (tgt := 21) hC dX1_reaches_9 rfl (fun h2 => ?_) (fun h2 => ?_)
  · refine r_iconst hC dX1_reaches_21 rfl ?_
    exact J22_3 (0)  (by omega) 
  · refine r_iload_n hC dX1_reaches_12 rfl ?_
    refine r_iload_n hC dX1_reaches_13 rfl ?_
    refine r_icmp_lt (tgt := 21) hC dX1_reaches_14 rfl (fun h5 => ?_) (fun h5 => ?_)
    · refine r_iconst hC dX1_reaches_21 rfl ?_
      exact J22_3 (0)  (by omega) 
    · refine r_iconst hC dX1_reaches_17 rfl ?_
      refine r_goto (tgt := 22) hC dX1_reaches_18 rfl ?_
      exact J22_3 (1)  (by omega) 
theorem qs_noteNumbers {eb ec : Bool} {d : Nat} {P : Option Vl → Mm → Prop} {σ : Mm}   (k : P none σ) : WT (false, eb, ec) (d + 1) 12 [vR 14 0] σ P := by
  refine WT_in fun K hK => ?_
  have hK : StpY (false, eb, ec) cX1_noteNumbers RX1 (none) (WT (false, eb, ec) (d + 0)) P K := hK
  have hM := hK.1
  have hC := hK.1.1
  show K 0 [some (vR 14 0)] [] σ
  refine r_aload_n hC dX1_noteNumbers_0 rfl ?_
  refine z_getR hM dX1_noteNumbers_1 fl_RX1_24 rfl rfl (vld_of (n := 1) rfl (by omega) (by omega)) ?_
  refine r_iconst hC dX1_noteNumbers_4 rfl ?_
  refine r_aload_n hC dX1_noteNumbers_5 rfl ?_
  refine z_getR hM dX1_noteNumbers_6 fl_RX1_27 rfl rfl (vld_of (n := 1) rfl (by omega) (by omega)) ?_
  refine r_iconst hC dX1_noteNumbers_9 rfl ?_
  refine r_bipush hC dX1_noteNumbers_10 rfl ?_
  refine z_copyU hM dX1_noteNumbers_12 ac_RX1_48 rfl rfl (by omega) (by omega) (by omega) (by omega) (by omega) (Nat.le_of_ble_eq_true rfl) (fun _ => ⟨by simp [Un, Tb, DL, DF, DR, DX], fun _ _ h => by simp [Okv] at *; try exact h⟩) ?_
  refine r_aload_n hC dX1_noteNumbers_15 rfl ?_
  refine r_aload_n hC dX1_noteNumbers_16 rfl ?_
  refine z_getI (jz := 6) hM dX1_noteNumbers_17 fl_RX1_34 rfl rfl rfl (fun v1 h_v1 o_v1 t_v1 => ?_)
  clear t_v1
  refine z_putIU (jz := 4) hM dX1_noteNumbers_20 fw_RX1_54 rfl rfl rfl (by simp [Un, Tb, DL, DF, DR, DX]) (by simp [Okv]) ?_
  refine y_vret hK rfl dX1_noteNumbers_23 ?_
  exact k
theorem qs_isAsNoted {e : Ev} {d : Nat} {P : Option Vl → Mm → Prop} {σ : Mm}   (k : ∀ r : Int, 0 ≤ r ∧ r ≤ 1 → P (some (vI r)) σ) : WT e (d + 1) 13 [vR 14 0] σ P := by
  refine WT_in fun K hK => ?_
  have hK : StpY e cX1_isAsNoted RX1 (some .boolean) (WT e (d + 0)) P K := hK
  have hM := hK.1
  have hC := hK.1.1
  show K 0 [some (vR 14 0), none] [] σ
  refine r_aload_n hC dX1_isAsNoted_0 rfl ?_
  refine z_getI (jz := 6) hM dX1_isAsNoted_1 fl_RX1_34 rfl rfl rfl (fun v1 h_v1 o_v1 t_v1 => ?_)
  clear t_v1
  refine r_if_eq (tgt := 14) hC dX1_isAsNoted_4 rfl (fun h2 => ?_) (fun h2 => ?_)
  · refine r_aload_n hC dX1_isAsNoted_14 rfl ?_
    refine z_getI (jz := 6) hM dX1_isAsNoted_15 fl_RX1_34 rfl rfl rfl (fun v3 h_v3 o_v3 t_v3 => ?_)
    clear t_v3
    refine r_aload_n hC dX1_isAsNoted_18 rfl ?_
    refine z_getI (jz := 4) hM dX1_isAsNoted_19 fl_RX1_54 rfl rfl rfl (fun v4 h_v4 o_v4 t_v4 => ?_)
    clear t_v4
    have J30_6 : ∀ (w6 : Int), 0 ≤ w6 ∧ w6 ≤ 1 → K 30 [some (vR 14 0), none] [vI w6] σ := by
      intro w6  f_w6 
      refine y_zret hK rfl dX1_isAsNoted_30 (by omega) ?_
      exact k _ (by omega)
    refine r_icmp_ne (tgt := 29) hC dX1_isAsNoted_22 rfl (fun h5 => ?_) (fun h5 => ?_)
    · refine r_iconst hC dX1_isAsNoted_29 rfl ?_
      exact J30_6 (0)  (by omega) 
    · refine r_iconst hC dX1_isAsNoted_25 rfl ?_
      refine r_goto (tgt := 30) hC dX1_isAsNoted_26 rfl ?_
      exact J30_6 (1)  (by omega) 
  · refine r_aload_n hC dX1_isAsNoted_7 rfl ?_
    refine z_getI (jz := 4) hM dX1_isAsNoted_8 fl_RX1_54 rfl rfl rfl (fun v8 h_v8 o_v8 t_v8 => ?_)
    clear t_v8
    refine r_if_ne (tgt := 31) hC dX1_isAsNoted_11 rfl (fun h9 => ?_) (fun h9 => ?_)
    · refine r_iconst hC dX1_isAsNoted_31 rfl ?_
      refine r_istore_n hC dX1_isAsNoted_32 rfl ?_
      have L33 : ∀ (n33 : Nat) (w10 : Int), 0 ≤ w10 ∧ w10 ≤ 7 → 7 - w10 < (n33 : Int) → K 33 [some (vR 14 0), some (vI w10)] [] σ := by
        intro n33
        induction n33 with
        | zero => intro w10  f_w10  hm  ; omega
        | succ n33 ih33 =>
          intro w10  f_w10  hm33  
          refine r_iload_n hC dX1_isAsNoted_33 rfl ?_
          refine z_nums hM dX1_isAsNoted_34 sl_RX1_41 ?_
          refine r_aload_n hC dX1_isAsNoted_37 rfl ?_
          refine z_getI (jz := 5) hM dX1_isAsNoted_38 fl_RX1_30 rfl rfl rfl (fun v11 h_v11 o_v11 t_v11 => ?_)
          clear t_v11
          have q_v11 : 0 ≤ v11 ∧ v11 ≤ 9 := o_v11 rfl
          refine z_nald hM dX1_isAsNoted_41 (by omega) (by omega) ?_
          obtain ⟨v12, e_v12⟩ : ∃ x, x = numF v11 := ⟨_, rfl⟩
          rw [← e_v12]
          have h_v12 : 1 ≤ v12 ∧ v12 ≤ 7 := by rw [e_v12]; exact numF_rng _
          refine r_icmp_ge (tgt := 68) hC dX1_isAsNoted_42 rfl (fun h13 => ?_) (fun h13 => ?_)
          · refine r_iconst hC dX1_isAsNoted_68 rfl ?_
            refine y_zret hK rfl dX1_isAsNoted_69 (by omega) ?_
            exact k _ (by omega)
          · refine r_aload_n hC dX1_isAsNoted_45 rfl ?_
            refine z_getR hM dX1_isAsNoted_46 fl_RX1_24 rfl rfl (vld_of (n := 1) rfl (by omega) (by omega)) ?_
            refine r_iload_n hC dX1_isAsNoted_49 rfl ?_
            refine z_iald hM dX1_isAsNoted_50 rfl (by omega) (by omega) (fun v14 h_v14 o_v14 t_v14 => ?_)
            clear t_v14
            refine r_aload_n hC dX1_isAsNoted_51 rfl ?_
            refine z_getR hM dX1_isAsNoted_52 fl_RX1_27 rfl rfl (vld_of (n := 1) rfl (by omega) (by omega)) ?_
            refine r_iload_n hC dX1_isAsNoted_55 rfl ?_
            refine z_iald hM dX1_isAsNoted_56 rfl (by omega) (by omega) (fun v15 h_v15 o_v15 t_v15 => ?_)
            clear t_v15
            refine r_icmp_eq (tgt := 62) hC dX1_isAsNoted_57 rfl (fun h16 => ?_) (fun h16 => ?_)
            · refine r_iincE hC ((w10 + 1)) dX1_isAsNoted_62 rfl rfl (by omega) (by unfold inR; omega) ?_
              refine r_goto (tgt := 33) hC dX1_isAsNoted_65 rfl ?_
              exact ih33 ((w10 + 1))  (by omega)  (by omega)  
            · refine r_iconst hC dX1_isAsNoted_60 rfl ?_
              refine y_zret hK rfl dX1_isAsNoted_61 (by omega) ?_
              exact k _ (by omega)
      exact L33 9 (0)  (by omega)  (by omega)  
    · refine r_aload_n hC dX1_isAsNoted_14 rfl ?_
      refine z_getI (jz := 6) hM dX1_isAsNoted_15 fl_RX1_34 rfl rfl rfl (fun v17 h_v17 o_v17 t_v17 => ?_)
      clear t_v17
      refine r_aload_n hC dX1_isAsNoted_18 rfl ?_
      refine z_getI (jz := 4) hM dX1_isAsNoted_19 fl_RX1_54 rfl rfl rfl (fun v18 h_v18 o_v18 t_v18 => ?_)
      clear t_v18
      have J30_20 : ∀ (w20 : Int), 0 ≤ w20 ∧ w20 ≤ 1 → K 30 [some (vR 14 0), none] [vI w20] σ := by
        intro w20  f_w20 
        refine y_zret hK rfl dX1_isAsNoted_30 (by omega) ?_
        exact k _ (by omega)
      refine r_icmp_ne (tgt := 29) hC dX1_isAsNoted_22 rfl (fun h19 => ?_) (fun h19 => ?_)
      · refine r_iconst hC dX1_isAsNoted_29 rfl ?_
        exact J30_20 (0)  (by omega) 
      · refine r_iconst hC dX1_isAsNoted_25 rfl ?_
        refine r_goto (tgt := 30) hC dX1_isAsNoted_26 rfl ?_
        exact J30_20 (1)  (by omega) 
-- the fold's steps
def FS (σ ρ : Mm) : Prop := ∀ (c : Nat) (i j : Int), ¬ (c = 17 ∧ i = 0 ∧ j = 0) → ρ c i j = σ c i j
theorem FS.rf {σ : Mm} : FS σ σ := fun _ _ _ _ => rfl
theorem FS.trans {σ ρ τ : Mm} (h : FS σ ρ) (g : FS ρ τ) : FS σ τ := fun c i j q => (g c i j q).trans (h c i j q)
theorem z_iastF {e : Ev} {cc : ByteArray} {own : String} {Cal : Nat → List Vl → Mm → (Option Vl → Mm → Prop) → Prop} {K : Nat → Lc → List Vl → Mm → Prop} (hK : StpZ e cc own Cal K) (he : e.2.1 = true) (he1 : e.1 = false) {pc : Nat} {ls : Lc} {st : List Vl} {σ : Mm} {j a : Int} (hd : decode cc pc = .ok (.iastore, 1)) (h0 : 0 ≤ j) (h1 : j < 7) (k_ : ∀ ρ : Mm, FS σ ρ → K (pc + 1) ls st ρ) : K pc ls (vI a :: vI j :: vR 17 0 :: st) σ := by
  by_cases hj : j = 0
  · subst hj
    exact z_iastT hK hd rfl h0 h1 ⟨Or.inr (by simp [DL]), Or.inl he⟩ (by simp [Okv]) (k_ _ (fun c i j h => mu_ne h))
  · exact z_iastU hK hd rfl h0 h1 ⟨by simp [Tb], by simp [DL], hj, Or.inr (by simp [DR]), Or.inr (by simp [DX, he1])⟩ (by simp [Okv]) (k_ _ FS.rf)
theorem qs_floorMod {e : Ev} {d : Nat} {P : Option Vl → Mm → Prop} {σ : Mm} {a b : Int} (b_b : 1 ≤ b ∧ b ≤ 1000)  (k : ∀ r : Int, 0 ≤ r ∧ r ≤ b - 1 → P (some (vI r)) σ) : WT e (d + 1) 262 [vI a, vI b] σ P := by
  refine WT_in fun K hK => ?_
  have hK : StpY e cJ9_floorMod_7cf53 RJ9 (some .int) (WT e (d + 0)) P K := hK
  have hM := hK.1
  have hC := hK.1.1
  show K 0 [some (vI a), some (vI b), none] [] σ
  refine r_rngz hC (fun g0 => ?_)
  have r_a : -2147483648 ≤ a ∧ a ≤ 2147483647 := inR_le (g0 (vI a) (by simp))
  refine r_iload_n hC dJ9_floorMod_7cf53_0 rfl ?_
  refine r_iload_n hC dJ9_floorMod_7cf53_1 rfl ?_
  refine r_iremG hC dJ9_floorMod_7cf53_2 (by omega) (fun v1 h_v1 p_v1 m_v1 => ?_)
  refine r_istore_n hC dJ9_floorMod_7cf53_3 rfl ?_
  refine r_iload_n hC dJ9_floorMod_7cf53_4 rfl ?_
  refine r_iload_n hC dJ9_floorMod_7cf53_5 rfl ?_
  refine r_ixorS hC dJ9_floorMod_7cf53_6 (by omega) (by omega) (fun v2 h_v2 s_v2 => ?_)
  refine r_if_ge (tgt := 18) hC dJ9_floorMod_7cf53_7 rfl (fun h3 => ?_) (fun h3 => ?_)
  · refine r_iload_n hC dJ9_floorMod_7cf53_18 rfl ?_
    refine y_iret hK rfl dJ9_floorMod_7cf53_19 ?_
    exact k _ (by omega)
  · refine r_iload_n hC dJ9_floorMod_7cf53_10 rfl ?_
    refine r_if_eq (tgt := 18) hC dJ9_floorMod_7cf53_11 rfl (fun h4 => ?_) (fun h4 => ?_)
    · refine r_iload_n hC dJ9_floorMod_7cf53_18 rfl ?_
      refine y_iret hK rfl dJ9_floorMod_7cf53_19 ?_
      exact k _ (by omega)
    · refine r_iload_n hC dJ9_floorMod_7cf53_14 rfl ?_
      refine r_iload_n hC dJ9_floorMod_7cf53_15 rfl ?_
      refine r_iaddE hC ((v1 + b)) dJ9_floorMod_7cf53_16 (by omega) (by unfold inR; omega) ?_
      refine y_iret hK rfl dJ9_floorMod_7cf53_17 ?_
      exact k _ (by omega)
theorem qs_addGreatest {eb : Bool} {d : Nat} {P : Option Vl → Mm → Prop} {σ : Mm} {v : Int} (b_v : -1000 ≤ v ∧ v ≤ 1000)  (k : ∀ ρ : Mm, FS σ ρ → P none ρ) : WT (false, true, eb) (d + 1) 15 [vR 14 0, vI v] σ P := by
  refine WT_in fun K hK => ?_
  have hK : StpY (false, true, eb) cX1_addGreatest RX1 (none) (WT (false, true, eb) (d + 0)) P K := hK
  have hM := hK.1
  have hC := hK.1.1
  show K 0 [some (vR 14 0), some (vI v)] [] σ
  refine r_aload_n hC dX1_addGreatest_0 rfl ?_
  refine z_getI (jz := 6) hM dX1_addGreatest_1 fl_RX1_34 rfl rfl rfl (fun v1 h_v1 o_v1 t_v1 => ?_)
  clear t_v1
  have J64_2 : ∀ (ρ4 : Mm), FS σ ρ4 → K 64 [some (vR 14 0), some (vI v)] [] ρ4 := by
    intro  ρ4  g_ρ4
    refine r_aload_n hC dX1_addGreatest_64 rfl ?_
    refine z_getR hM dX1_addGreatest_65 fl_RX1_24 rfl rfl (vld_of (n := 1) rfl (by omega) (by omega)) ?_
    refine r_iconst hC dX1_addGreatest_68 rfl ?_
    refine r_aload_n hC dX1_addGreatest_69 rfl ?_
    refine z_getI (jz := 6) hM dX1_addGreatest_70 fl_RX1_34 rfl rfl rfl (fun v5 h_v5 o_v5 t_v5 => ?_)
    clear t_v5
    refine r_iconst hC dX1_addGreatest_73 rfl ?_
    refine r_iaddG hC dX1_addGreatest_74 (fun v6 h_v6 => ?_)
    refine z_iastF hM rfl rfl dX1_addGreatest_75 (by omega) (by omega) (fun ρ7 g_ρ7 => ?_)
    refine y_vret hK rfl dX1_addGreatest_76 ?_
    exact k _ (FS.trans (g_ρ4) g_ρ7)
  refine r_if_eq (tgt := 17) hC dX1_addGreatest_4 rfl (fun h2 => ?_) (fun h2 => ?_)
  · refine r_aload_n hC dX1_addGreatest_17 rfl ?_
    refine z_getR hM dX1_addGreatest_18 fl_RX1_24 rfl rfl (vld_of (n := 1) rfl (by omega) (by omega)) ?_
    refine r_iconst hC dX1_addGreatest_21 rfl ?_
    refine r_iload_n hC dX1_addGreatest_22 rfl ?_
    refine z_iastF hM rfl rfl dX1_addGreatest_23 (by omega) (by omega) (fun ρ8 g_ρ8 => ?_)
    refine r_aload_n hC dX1_addGreatest_24 rfl ?_
    refine z_getR hM dX1_addGreatest_25 fl_RX1_24 rfl rfl (vld_of (n := 1) rfl (by omega) (by omega)) ?_
    refine r_iconst hC dX1_addGreatest_28 rfl ?_
    refine r_iconst hC dX1_addGreatest_29 rfl ?_
    refine z_iastF hM rfl rfl dX1_addGreatest_30 (by omega) (by omega) (fun ρ9 g_ρ9 => ?_)
    refine r_aload_n hC dX1_addGreatest_31 rfl ?_
    refine z_getR hM dX1_addGreatest_32 fl_RX1_24 rfl rfl (vld_of (n := 1) rfl (by omega) (by omega)) ?_
    refine r_iconst hC dX1_addGreatest_35 rfl ?_
    refine r_aload_n hC dX1_addGreatest_36 rfl ?_
    refine z_getI (jz := 6) hM dX1_addGreatest_37 fl_RX1_34 rfl rfl rfl (fun v10 h_v10 o_v10 t_v10 => ?_)
    clear t_v10
    refine z_iastF hM rfl rfl dX1_addGreatest_40 (by omega) (by omega) (fun ρ11 g_ρ11 => ?_)
    refine r_goto (tgt := 64) hC dX1_addGreatest_41 rfl ?_
    exact J64_2  ρ11  (FS.trans (FS.trans (FS.trans (FS.rf) g_ρ8) g_ρ9) g_ρ11)
  · refine r_iload_n hC dX1_addGreatest_7 rfl ?_
    refine r_aload_n hC dX1_addGreatest_8 rfl ?_
    refine z_getR hM dX1_addGreatest_9 fl_RX1_24 rfl rfl (vld_of (n := 1) rfl (by omega) (by omega)) ?_
    refine r_iconst hC dX1_addGreatest_12 rfl ?_
    refine z_iald hM dX1_addGreatest_13 rfl (by omega) (by omega) (fun v12 h_v12 o_v12 t_v12 => ?_)
    clear t_v12
    refine r_icmp_le (tgt := 44) hC dX1_addGreatest_14 rfl (fun h13 => ?_) (fun h13 => ?_)
    · refine r_iload_n hC dX1_addGreatest_44 rfl ?_
      refine r_aload_n hC dX1_addGreatest_45 rfl ?_
      refine z_getR hM dX1_addGreatest_46 fl_RX1_24 rfl rfl (vld_of (n := 1) rfl (by omega) (by omega)) ?_
      refine r_iconst hC dX1_addGreatest_49 rfl ?_
      refine z_iald hM dX1_addGreatest_50 rfl (by omega) (by omega) (fun v14 h_v14 o_v14 t_v14 => ?_)
      clear t_v14
      refine r_icmp_ne (tgt := 64) hC dX1_addGreatest_51 rfl (fun h15 => ?_) (fun h15 => ?_)
      · exact J64_2  σ  (FS.rf)
      · refine r_aload_n hC dX1_addGreatest_54 rfl ?_
        refine z_getR hM dX1_addGreatest_55 fl_RX1_24 rfl rfl (vld_of (n := 1) rfl (by omega) (by omega)) ?_
        refine r_iconst hC dX1_addGreatest_58 rfl ?_
        refine r_dup2 hC dX1_addGreatest_59 rfl rfl ?_
        refine z_iald hM dX1_addGreatest_60 rfl (by omega) (by omega) (fun v16 h_v16 o_v16 t_v16 => ?_)
        clear t_v16
        refine r_iconst hC dX1_addGreatest_61 rfl ?_
        refine r_iaddG hC dX1_addGreatest_62 (fun v17 h_v17 => ?_)
        refine z_iastF hM rfl rfl dX1_addGreatest_63 (by omega) (by omega) (fun ρ18 g_ρ18 => ?_)
        exact J64_2  ρ18  (FS.trans (FS.rf) g_ρ18)
    · refine r_aload_n hC dX1_addGreatest_17 rfl ?_
      refine z_getR hM dX1_addGreatest_18 fl_RX1_24 rfl rfl (vld_of (n := 1) rfl (by omega) (by omega)) ?_
      refine r_iconst hC dX1_addGreatest_21 rfl ?_
      refine r_iload_n hC dX1_addGreatest_22 rfl ?_
      refine z_iastF hM rfl rfl dX1_addGreatest_23 (by omega) (by omega) (fun ρ19 g_ρ19 => ?_)
      refine r_aload_n hC dX1_addGreatest_24 rfl ?_
      refine z_getR hM dX1_addGreatest_25 fl_RX1_24 rfl rfl (vld_of (n := 1) rfl (by omega) (by omega)) ?_
      refine r_iconst hC dX1_addGreatest_28 rfl ?_
      refine r_iconst hC dX1_addGreatest_29 rfl ?_
      refine z_iastF hM rfl rfl dX1_addGreatest_30 (by omega) (by omega) (fun ρ20 g_ρ20 => ?_)
      refine r_aload_n hC dX1_addGreatest_31 rfl ?_
      refine z_getR hM dX1_addGreatest_32 fl_RX1_24 rfl rfl (vld_of (n := 1) rfl (by omega) (by omega)) ?_
      refine r_iconst hC dX1_addGreatest_35 rfl ?_
      refine r_aload_n hC dX1_addGreatest_36 rfl ?_
      refine z_getI (jz := 6) hM dX1_addGreatest_37 fl_RX1_34 rfl rfl rfl (fun v21 h_v21 o_v21 t_v21 => ?_)
      clear t_v21
      refine z_iastF hM rfl rfl dX1_addGreatest_40 (by omega) (by omega) (fun ρ22 g_ρ22 => ?_)
      refine r_goto (tgt := 64) hC dX1_addGreatest_41 rfl ?_
      exact J64_2  ρ22  (FS.trans (FS.trans (FS.trans (FS.rf) g_ρ19) g_ρ20) g_ρ22)
theorem qs_addRun {eb : Bool} {d : Nat} {P : Option Vl → Mm → Prop} {σ : Mm} {v : Int} (b_v : -1000 ≤ v ∧ v ≤ 1000)  (k : ∀ ρ : Mm, FS σ ρ → P none ρ) : WT (false, true, eb) (d + 2) 18 [vR 14 0, vI v] σ P := by
  refine WT_in fun K hK => ?_
  have hK : StpY (false, true, eb) cX1_addRun RX1 (none) (WT (false, true, eb) (d + 1)) P K := hK
  have hM := hK.1
  have hC := hK.1.1
  show K 0 [some (vR 14 0), some (vI v), none] [] σ
  refine r_aload_n hC dX1_addRun_0 rfl ?_
  refine z_getI (jz := 6) hM dX1_addRun_1 fl_RX1_34 rfl rfl rfl (fun v1 h_v1 o_v1 t_v1 => ?_)
  clear t_v1
  have J12_3 : ∀ (w3 : Int), ∀ (ρ5 : Mm), 0 ≤ w3 ∧ w3 ≤ 1 → FS σ ρ5 → K 12 [some (vR 14 0), some (vI v), none] [vI w3] ρ5 := by
    intro w3 ρ5 f_w3 g_ρ5
    refine r_istore_n hC dX1_addRun_12 rfl ?_
    refine r_aload_n hC dX1_addRun_13 rfl ?_
    refine z_getR hM dX1_addRun_14 fl_RX1_24 rfl rfl (vld_of (n := 1) rfl (by omega) (by omega)) ?_
    refine r_iconst hC dX1_addRun_17 rfl ?_
    refine r_dup2 hC dX1_addRun_18 rfl rfl ?_
    refine z_iald hM dX1_addRun_19 rfl (by omega) (by omega) (fun v6 h_v6 o_v6 t_v6 => ?_)
    clear t_v6
    refine r_iload_n hC dX1_addRun_20 rfl ?_
    refine r_iaddG hC dX1_addRun_21 (fun v7 h_v7 => ?_)
    refine z_iastF hM rfl rfl dX1_addRun_22 (by omega) (by omega) (fun ρ8 g_ρ8 => ?_)
    refine r_aload_n hC dX1_addRun_23 rfl ?_
    refine z_getR hM dX1_addRun_24 fl_RX1_24 rfl rfl (vld_of (n := 1) rfl (by omega) (by omega)) ?_
    refine r_iconst hC dX1_addRun_27 rfl ?_
    refine r_iload_n hC dX1_addRun_28 rfl ?_
    have J51_10 : ∀ (w10 : Int), ∀ (ρ12 : Mm), -2147483648 ≤ w10 ∧ w10 ≤ 2147483647 → FS σ ρ12 → K 51 [some (vR 14 0), some (vI v), some (vI w3)] [vI w10, vI 2, vR 17 0] ρ12 := by
      intro w10 ρ12 f_w10 g_ρ12
      refine z_iastF hM rfl rfl dX1_addRun_51 (by omega) (by omega) (fun ρ13 g_ρ13 => ?_)
      refine r_aload_n hC dX1_addRun_52 rfl ?_
      refine z_getR hM dX1_addRun_53 fl_RX1_24 rfl rfl (vld_of (n := 1) rfl (by omega) (by omega)) ?_
      refine r_iconst hC dX1_addRun_56 rfl ?_
      refine r_iload_n hC dX1_addRun_57 rfl ?_
      have J77_15 : ∀ (w15 : Int), ∀ (ρ17 : Mm), -2147483648 ≤ w15 ∧ w15 ≤ 2147483647 → FS σ ρ17 → K 77 [some (vR 14 0), some (vI v), some (vI w3)] [vI w15, vI 3, vR 17 0] ρ17 := by
        intro w15 ρ17 f_w15 g_ρ17
        refine z_iastF hM rfl rfl dX1_addRun_77 (by omega) (by omega) (fun ρ18 g_ρ18 => ?_)
        refine r_aload_n hC dX1_addRun_78 rfl ?_
        refine z_getR hM dX1_addRun_79 fl_RX1_24 rfl rfl (vld_of (n := 1) rfl (by omega) (by omega)) ?_
        refine r_iconst hC dX1_addRun_82 rfl ?_
        refine r_iload_n hC dX1_addRun_83 rfl ?_
        have J106_20 : ∀ (w20 : Int), ∀ (ρ22 : Mm), -2147483648 ≤ w20 ∧ w20 ≤ 2147483647 → FS σ ρ22 → K 106 [some (vR 14 0), some (vI v), some (vI w3)] [vI w20, vI 0, vR 17 0] ρ22 := by
          intro w20 ρ22 f_w20 g_ρ22
          refine z_iastF hM rfl rfl dX1_addRun_106 (by omega) (by omega) (fun ρ23 g_ρ23 => ?_)
          refine y_vret hK rfl dX1_addRun_107 ?_
          exact k _ (FS.trans (g_ρ22) g_ρ23)
        refine r_if_eq (tgt := 91) hC dX1_addRun_84 rfl (fun h19 => ?_) (fun h19 => ?_)
        · refine r_aload_n hC dX1_addRun_91 rfl ?_
          refine z_getR hM dX1_addRun_92 fl_RX1_24 rfl rfl (vld_of (n := 1) rfl (by omega) (by omega)) ?_
          refine r_iconst hC dX1_addRun_95 rfl ?_
          refine z_iald hM dX1_addRun_96 rfl (by omega) (by omega) (fun v24 h_v24 o_v24 t_v24 => ?_)
          clear t_v24
          refine r_aload_n hC dX1_addRun_97 rfl ?_
          refine z_getR hM dX1_addRun_98 fl_RX1_24 rfl rfl (vld_of (n := 1) rfl (by omega) (by omega)) ?_
          refine r_iconst hC dX1_addRun_101 rfl ?_
          refine z_iald hM dX1_addRun_102 rfl (by omega) (by omega) (fun v25 h_v25 o_v25 t_v25 => ?_)
          clear t_v25
          refine z_ins2 hM dX1_addRun_103 tl_RX1_97 rfl (Nat.le_of_ble_eq_true rfl) (Nat.le_of_ble_eq_true rfl) ?_
          refine qs_max (fun v26 h_v26 => ?_)
          exact J106_20 (v26) ρ18 (by omega) (FS.trans (g_ρ17) g_ρ18)
        · refine r_iload_n hC dX1_addRun_87 rfl ?_
          refine r_goto (tgt := 106) hC dX1_addRun_88 rfl ?_
          exact J106_20 (v) ρ18 (by omega) (FS.trans (g_ρ17) g_ρ18)
      refine r_if_eq (tgt := 65) hC dX1_addRun_58 rfl (fun h14 => ?_) (fun h14 => ?_)
      · refine r_aload_n hC dX1_addRun_65 rfl ?_
        refine z_getR hM dX1_addRun_66 fl_RX1_24 rfl rfl (vld_of (n := 1) rfl (by omega) (by omega)) ?_
        refine r_iconst hC dX1_addRun_69 rfl ?_
        refine z_iald hM dX1_addRun_70 rfl (by omega) (by omega) (fun v27 h_v27 o_v27 t_v27 => ?_)
        clear t_v27
        refine r_iload_n hC dX1_addRun_71 rfl ?_
        refine r_iaddG hC dX1_addRun_72 (fun v28 h_v28 => ?_)
        refine r_iload_n hC dX1_addRun_73 rfl ?_
        refine z_ins2 hM dX1_addRun_74 tl_RX1_97 rfl (Nat.le_of_ble_eq_true rfl) (Nat.le_of_ble_eq_true rfl) ?_
        refine qs_max (fun v29 h_v29 => ?_)
        exact J77_15 (v29) ρ13 (by omega) (FS.trans (g_ρ12) g_ρ13)
      · refine r_iload_n hC dX1_addRun_61 rfl ?_
        refine r_goto (tgt := 77) hC dX1_addRun_62 rfl ?_
        exact J77_15 (v) ρ13 (by omega) (FS.trans (g_ρ12) g_ρ13)
    refine r_if_eq (tgt := 36) hC dX1_addRun_29 rfl (fun h9 => ?_) (fun h9 => ?_)
    · refine r_aload_n hC dX1_addRun_36 rfl ?_
      refine z_getR hM dX1_addRun_37 fl_RX1_24 rfl rfl (vld_of (n := 1) rfl (by omega) (by omega)) ?_
      refine r_iconst hC dX1_addRun_40 rfl ?_
      refine z_iald hM dX1_addRun_41 rfl (by omega) (by omega) (fun v30 h_v30 o_v30 t_v30 => ?_)
      clear t_v30
      refine r_aload_n hC dX1_addRun_42 rfl ?_
      refine z_getR hM dX1_addRun_43 fl_RX1_24 rfl rfl (vld_of (n := 1) rfl (by omega) (by omega)) ?_
      refine r_iconst hC dX1_addRun_46 rfl ?_
      refine z_iald hM dX1_addRun_47 rfl (by omega) (by omega) (fun v31 h_v31 o_v31 t_v31 => ?_)
      clear t_v31
      refine z_ins2 hM dX1_addRun_48 tl_RX1_97 rfl (Nat.le_of_ble_eq_true rfl) (Nat.le_of_ble_eq_true rfl) ?_
      refine qs_max (fun v32 h_v32 => ?_)
      exact J51_10 (v32) ρ8 (by omega) (FS.trans (g_ρ5) g_ρ8)
    · refine r_iload_n hC dX1_addRun_32 rfl ?_
      refine r_goto (tgt := 51) hC dX1_addRun_33 rfl ?_
      exact J51_10 (v) ρ8 (by omega) (FS.trans (g_ρ5) g_ρ8)
  refine r_if_ne (tgt := 11) hC dX1_addRun_4 rfl (fun h2 => ?_) (fun h2 => ?_)
  · refine r_iconst hC dX1_addRun_11 rfl ?_
    exact J12_3 (0) σ (by omega) (FS.rf)
  · refine r_iconst hC dX1_addRun_7 rfl ?_
    refine r_goto (tgt := 12) hC dX1_addRun_8 rfl ?_
    exact J12_3 (1) σ (by omega) (FS.rf)
theorem qs_addNest {eb : Bool} {d : Nat} {P : Option Vl → Mm → Prop} {σ : Mm} {v : Int} (b_v : -1000 ≤ v ∧ v ≤ 1000)  (k : ∀ ρ : Mm, FS σ ρ → P none ρ) : WT (false, true, eb) (d + 2) 20 [vR 14 0, vI v] σ P := by
  refine WT_in fun K hK => ?_
  have hK : StpY (false, true, eb) cX1_addNest RX1 (none) (WT (false, true, eb) (d + 1)) P K := hK
  have hM := hK.1
  have hC := hK.1.1
  show K 0 [some (vR 14 0), some (vI v)] [] σ
  refine r_iload_n hC dX1_addNest_0 rfl ?_
  have J59_1 : ∀ (ρ3 : Mm), FS σ ρ3 → K 59 [some (vR 14 0), some (vI v)] [] ρ3 := by
    intro  ρ3  g_ρ3
    refine r_aload_n hC dX1_addNest_59 rfl ?_
    refine z_getR hM dX1_addNest_60 fl_RX1_24 rfl rfl (vld_of (n := 1) rfl (by omega) (by omega)) ?_
    refine r_iconst hC dX1_addNest_63 rfl ?_
    refine r_aload_n hC dX1_addNest_64 rfl ?_
    refine z_getR hM dX1_addNest_65 fl_RX1_24 rfl rfl (vld_of (n := 1) rfl (by omega) (by omega)) ?_
    refine r_iconst hC dX1_addNest_68 rfl ?_
    refine z_iald hM dX1_addNest_69 rfl (by omega) (by omega) (fun v4 h_v4 o_v4 t_v4 => ?_)
    clear t_v4
    refine r_aload_n hC dX1_addNest_70 rfl ?_
    refine z_getR hM dX1_addNest_71 fl_RX1_24 rfl rfl (vld_of (n := 1) rfl (by omega) (by omega)) ?_
    refine r_iconst hC dX1_addNest_74 rfl ?_
    refine z_iald hM dX1_addNest_75 rfl (by omega) (by omega) (fun v5 h_v5 o_v5 t_v5 => ?_)
    clear t_v5
    refine r_aload_n hC dX1_addNest_76 rfl ?_
    refine z_getR hM dX1_addNest_77 fl_RX1_24 rfl rfl (vld_of (n := 1) rfl (by omega) (by omega)) ?_
    refine r_iconst hC dX1_addNest_80 rfl ?_
    refine z_iald hM dX1_addNest_81 rfl (by omega) (by omega) (fun v6 h_v6 o_v6 t_v6 => ?_)
    clear t_v6
    refine r_isubG hC dX1_addNest_82 (fun v7 h_v7 => ?_)
    refine z_ins2 hM dX1_addNest_83 tl_RX1_97 rfl (Nat.le_of_ble_eq_true rfl) (Nat.le_of_ble_eq_true rfl) ?_
    refine qs_max (fun v8 h_v8 => ?_)
    refine z_iastF hM rfl rfl dX1_addNest_86 (by omega) (by omega) (fun ρ9 g_ρ9 => ?_)
    refine y_vret hK rfl dX1_addNest_87 ?_
    exact k _ (FS.trans (g_ρ3) g_ρ9)
  refine r_if_lt (tgt := 17) hC dX1_addNest_1 rfl (fun h1 => ?_) (fun h1 => ?_)
  · refine r_aload_n hC dX1_addNest_17 rfl ?_
    refine z_getR hM dX1_addNest_18 fl_RX1_24 rfl rfl (vld_of (n := 1) rfl (by omega) (by omega)) ?_
    refine r_iconst hC dX1_addNest_21 rfl ?_
    refine z_iald hM dX1_addNest_22 rfl (by omega) (by omega) (fun v10 h_v10 o_v10 t_v10 => ?_)
    clear t_v10
    refine r_if_le (tgt := 49) hC dX1_addNest_23 rfl (fun h11 => ?_) (fun h11 => ?_)
    · refine r_aload_n hC dX1_addNest_49 rfl ?_
      refine z_getR hM dX1_addNest_50 fl_RX1_24 rfl rfl (vld_of (n := 1) rfl (by omega) (by omega)) ?_
      refine r_iconst hC dX1_addNest_53 rfl ?_
      refine r_dup2 hC dX1_addNest_54 rfl rfl ?_
      refine z_iald hM dX1_addNest_55 rfl (by omega) (by omega) (fun v12 h_v12 o_v12 t_v12 => ?_)
      clear t_v12
      refine r_iconst hC dX1_addNest_56 rfl ?_
      refine r_iaddG hC dX1_addNest_57 (fun v13 h_v13 => ?_)
      refine z_iastF hM rfl rfl dX1_addNest_58 (by omega) (by omega) (fun ρ14 g_ρ14 => ?_)
      exact J59_1  ρ14  (FS.trans (FS.rf) g_ρ14)
    · refine r_aload_n hC dX1_addNest_26 rfl ?_
      refine z_getR hM dX1_addNest_27 fl_RX1_24 rfl rfl (vld_of (n := 1) rfl (by omega) (by omega)) ?_
      refine r_iconst hC dX1_addNest_30 rfl ?_
      refine r_dup2 hC dX1_addNest_31 rfl rfl ?_
      refine z_iald hM dX1_addNest_32 rfl (by omega) (by omega) (fun v15 h_v15 o_v15 t_v15 => ?_)
      clear t_v15
      refine r_iconst hC dX1_addNest_33 rfl ?_
      refine r_isubG hC dX1_addNest_34 (fun v16 h_v16 => ?_)
      refine z_iastF hM rfl rfl dX1_addNest_35 (by omega) (by omega) (fun ρ17 g_ρ17 => ?_)
      refine r_aload_n hC dX1_addNest_36 rfl ?_
      refine z_getR hM dX1_addNest_37 fl_RX1_24 rfl rfl (vld_of (n := 1) rfl (by omega) (by omega)) ?_
      refine r_iconst hC dX1_addNest_40 rfl ?_
      refine r_dup2 hC dX1_addNest_41 rfl rfl ?_
      refine z_iald hM dX1_addNest_42 rfl (by omega) (by omega) (fun v18 h_v18 o_v18 t_v18 => ?_)
      clear t_v18
      refine r_iconst hC dX1_addNest_43 rfl ?_
      refine r_iaddG hC dX1_addNest_44 (fun v19 h_v19 => ?_)
      refine z_iastF hM rfl rfl dX1_addNest_45 (by omega) (by omega) (fun ρ20 g_ρ20 => ?_)
      refine r_goto (tgt := 59) hC dX1_addNest_46 rfl ?_
      exact J59_1  ρ20  (FS.trans (FS.trans (FS.rf) g_ρ17) g_ρ20)
  · refine r_aload_n hC dX1_addNest_4 rfl ?_
    refine z_getR hM dX1_addNest_5 fl_RX1_24 rfl rfl (vld_of (n := 1) rfl (by omega) (by omega)) ?_
    refine r_iconst hC dX1_addNest_8 rfl ?_
    refine r_dup2 hC dX1_addNest_9 rfl rfl ?_
    refine z_iald hM dX1_addNest_10 rfl (by omega) (by omega) (fun v21 h_v21 o_v21 t_v21 => ?_)
    clear t_v21
    refine r_iconst hC dX1_addNest_11 rfl ?_
    refine r_iaddG hC dX1_addNest_12 (fun v22 h_v22 => ?_)
    refine z_iastF hM rfl rfl dX1_addNest_13 (by omega) (by omega) (fun ρ23 g_ρ23 => ?_)
    refine r_goto (tgt := 59) hC dX1_addNest_14 rfl ?_
    exact J59_1  ρ23  (FS.trans (FS.rf) g_ρ23)
theorem qs_addLike {eb : Bool} {d : Nat} {P : Option Vl → Mm → Prop} {σ : Mm} {v : Int} (b_v : -1000 ≤ v ∧ v ≤ 1000)  (k : ∀ ρ : Mm, FS σ ρ → P none ρ) : WT (false, true, eb) (d + 1) 21 [vR 14 0, vI v] σ P := by
  refine WT_in fun K hK => ?_
  have hK : StpY (false, true, eb) cX1_addLike RX1 (none) (WT (false, true, eb) (d + 0)) P K := hK
  have hM := hK.1
  have hC := hK.1.1
  show K 0 [some (vR 14 0), some (vI v)] [] σ
  refine r_aload_n hC dX1_addLike_0 rfl ?_
  refine z_getI (jz := 6) hM dX1_addLike_1 fl_RX1_34 rfl rfl rfl (fun v1 h_v1 o_v1 t_v1 => ?_)
  clear t_v1
  have J48_2 : ∀ (ρ4 : Mm), FS σ ρ4 → K 48 [some (vR 14 0), some (vI v)] [] ρ4 := by
    intro  ρ4  g_ρ4
    refine r_aload_n hC dX1_addLike_48 rfl ?_
    refine z_getI (jz := 6) hM dX1_addLike_49 fl_RX1_34 rfl rfl rfl (fun v5 h_v5 o_v5 t_v5 => ?_)
    clear t_v5
    have J62_6 : ∀ (ρ8 : Mm), FS σ ρ8 → K 62 [some (vR 14 0), some (vI v)] [] ρ8 := by
      intro  ρ8  g_ρ8
      refine r_aload_n hC dX1_addLike_62 rfl ?_
      refine z_getR hM dX1_addLike_63 fl_RX1_24 rfl rfl (vld_of (n := 1) rfl (by omega) (by omega)) ?_
      refine r_iconst hC dX1_addLike_66 rfl ?_
      refine z_iald hM dX1_addLike_67 rfl (by omega) (by omega) (fun v9 h_v9 o_v9 t_v9 => ?_)
      clear t_v9
      refine r_iconst hC dX1_addLike_68 rfl ?_
      have J84_10 : ∀ (ρ12 : Mm), FS σ ρ12 → K 84 [some (vR 14 0), some (vI v)] [] ρ12 := by
        intro  ρ12  g_ρ12
        refine r_aload_n hC dX1_addLike_84 rfl ?_
        refine z_getR hM dX1_addLike_85 fl_RX1_24 rfl rfl (vld_of (n := 1) rfl (by omega) (by omega)) ?_
        refine r_iconst hC dX1_addLike_88 rfl ?_
        refine z_iald hM dX1_addLike_89 rfl (by omega) (by omega) (fun v13 h_v13 o_v13 t_v13 => ?_)
        clear t_v13
        refine r_aload_n hC dX1_addLike_90 rfl ?_
        refine z_getR hM dX1_addLike_91 fl_RX1_24 rfl rfl (vld_of (n := 1) rfl (by omega) (by omega)) ?_
        refine r_iconst hC dX1_addLike_94 rfl ?_
        refine z_iald hM dX1_addLike_95 rfl (by omega) (by omega) (fun v14 h_v14 o_v14 t_v14 => ?_)
        clear t_v14
        have J118_15 : ∀ (ρ17 : Mm), FS σ ρ17 → K 118 [some (vR 14 0), some (vI v)] [] ρ17 := by
          intro  ρ17  g_ρ17
          refine r_aload_n hC dX1_addLike_118 rfl ?_
          refine z_getR hM dX1_addLike_119 fl_RX1_24 rfl rfl (vld_of (n := 1) rfl (by omega) (by omega)) ?_
          refine r_bipush hC dX1_addLike_122 rfl ?_
          refine r_iload_n hC dX1_addLike_124 rfl ?_
          refine z_iastF hM rfl rfl dX1_addLike_125 (by omega) (by omega) (fun ρ18 g_ρ18 => ?_)
          refine y_vret hK rfl dX1_addLike_126 ?_
          exact k _ (FS.trans (g_ρ17) g_ρ18)
        refine r_icmp_le (tgt := 118) hC dX1_addLike_96 rfl (fun h15 => ?_) (fun h15 => ?_)
        · exact J118_15  ρ12  (g_ρ12)
        · refine r_aload_n hC dX1_addLike_99 rfl ?_
          refine z_getR hM dX1_addLike_100 fl_RX1_24 rfl rfl (vld_of (n := 1) rfl (by omega) (by omega)) ?_
          refine r_iconst hC dX1_addLike_103 rfl ?_
          refine r_aload_n hC dX1_addLike_104 rfl ?_
          refine z_getR hM dX1_addLike_105 fl_RX1_24 rfl rfl (vld_of (n := 1) rfl (by omega) (by omega)) ?_
          refine r_iconst hC dX1_addLike_108 rfl ?_
          refine z_iald hM dX1_addLike_109 rfl (by omega) (by omega) (fun v19 h_v19 o_v19 t_v19 => ?_)
          clear t_v19
          refine z_iastF hM rfl rfl dX1_addLike_110 (by omega) (by omega) (fun ρ20 g_ρ20 => ?_)
          refine r_aload_n hC dX1_addLike_111 rfl ?_
          refine z_getR hM dX1_addLike_112 fl_RX1_24 rfl rfl (vld_of (n := 1) rfl (by omega) (by omega)) ?_
          refine r_iconst hC dX1_addLike_115 rfl ?_
          refine r_iload_n hC dX1_addLike_116 rfl ?_
          refine z_iastF hM rfl rfl dX1_addLike_117 (by omega) (by omega) (fun ρ21 g_ρ21 => ?_)
          exact J118_15  ρ21  (FS.trans (FS.trans (g_ρ12) g_ρ20) g_ρ21)
      refine r_icmp_ne (tgt := 84) hC dX1_addLike_69 rfl (fun h10 => ?_) (fun h10 => ?_)
      · exact J84_10  ρ8  (g_ρ8)
      · refine r_aload_n hC dX1_addLike_72 rfl ?_
        refine z_getR hM dX1_addLike_73 fl_RX1_24 rfl rfl (vld_of (n := 1) rfl (by omega) (by omega)) ?_
        refine r_iconst hC dX1_addLike_76 rfl ?_
        refine r_aload_n hC dX1_addLike_77 rfl ?_
        refine z_getR hM dX1_addLike_78 fl_RX1_24 rfl rfl (vld_of (n := 1) rfl (by omega) (by omega)) ?_
        refine r_iconst hC dX1_addLike_81 rfl ?_
        refine z_iald hM dX1_addLike_82 rfl (by omega) (by omega) (fun v22 h_v22 o_v22 t_v22 => ?_)
        clear t_v22
        refine z_iastF hM rfl rfl dX1_addLike_83 (by omega) (by omega) (fun ρ23 g_ρ23 => ?_)
        exact J84_10  ρ23  (FS.trans (g_ρ8) g_ρ23)
    refine r_if_ne (tgt := 62) hC dX1_addLike_52 rfl (fun h6 => ?_) (fun h6 => ?_)
    · exact J62_6  ρ4  (g_ρ4)
    · refine r_aload_n hC dX1_addLike_55 rfl ?_
      refine z_getR hM dX1_addLike_56 fl_RX1_24 rfl rfl (vld_of (n := 1) rfl (by omega) (by omega)) ?_
      refine r_iconst hC dX1_addLike_59 rfl ?_
      refine r_iload_n hC dX1_addLike_60 rfl ?_
      refine z_iastF hM rfl rfl dX1_addLike_61 (by omega) (by omega) (fun ρ24 g_ρ24 => ?_)
      exact J62_6  ρ24  (FS.trans (g_ρ4) g_ρ24)
  refine r_if_le (tgt := 31) hC dX1_addLike_4 rfl (fun h2 => ?_) (fun h2 => ?_)
  · refine r_aload_n hC dX1_addLike_31 rfl ?_
    refine z_getR hM dX1_addLike_32 fl_RX1_24 rfl rfl (vld_of (n := 1) rfl (by omega) (by omega)) ?_
    refine r_iconst hC dX1_addLike_35 rfl ?_
    refine r_dup2 hC dX1_addLike_36 rfl rfl ?_
    refine z_iald hM dX1_addLike_37 rfl (by omega) (by omega) (fun v25 h_v25 o_v25 t_v25 => ?_)
    clear t_v25
    refine r_iconst hC dX1_addLike_38 rfl ?_
    refine r_iaddG hC dX1_addLike_39 (fun v26 h_v26 => ?_)
    refine z_iastF hM rfl rfl dX1_addLike_40 (by omega) (by omega) (fun ρ27 g_ρ27 => ?_)
    refine r_aload_n hC dX1_addLike_41 rfl ?_
    refine z_getR hM dX1_addLike_42 fl_RX1_24 rfl rfl (vld_of (n := 1) rfl (by omega) (by omega)) ?_
    refine r_iconst hC dX1_addLike_45 rfl ?_
    refine r_iconst hC dX1_addLike_46 rfl ?_
    refine z_iastF hM rfl rfl dX1_addLike_47 (by omega) (by omega) (fun ρ28 g_ρ28 => ?_)
    exact J48_2  ρ28  (FS.trans (FS.trans (FS.rf) g_ρ27) g_ρ28)
  · refine r_iload_n hC dX1_addLike_7 rfl ?_
    refine r_aload_n hC dX1_addLike_8 rfl ?_
    refine z_getR hM dX1_addLike_9 fl_RX1_24 rfl rfl (vld_of (n := 1) rfl (by omega) (by omega)) ?_
    refine r_bipush hC dX1_addLike_12 rfl ?_
    refine z_iald hM dX1_addLike_14 rfl (by omega) (by omega) (fun v29 h_v29 o_v29 t_v29 => ?_)
    clear t_v29
    refine r_icmp_ne (tgt := 31) hC dX1_addLike_15 rfl (fun h30 => ?_) (fun h30 => ?_)
    · refine r_aload_n hC dX1_addLike_31 rfl ?_
      refine z_getR hM dX1_addLike_32 fl_RX1_24 rfl rfl (vld_of (n := 1) rfl (by omega) (by omega)) ?_
      refine r_iconst hC dX1_addLike_35 rfl ?_
      refine r_dup2 hC dX1_addLike_36 rfl rfl ?_
      refine z_iald hM dX1_addLike_37 rfl (by omega) (by omega) (fun v31 h_v31 o_v31 t_v31 => ?_)
      clear t_v31
      refine r_iconst hC dX1_addLike_38 rfl ?_
      refine r_iaddG hC dX1_addLike_39 (fun v32 h_v32 => ?_)
      refine z_iastF hM rfl rfl dX1_addLike_40 (by omega) (by omega) (fun ρ33 g_ρ33 => ?_)
      refine r_aload_n hC dX1_addLike_41 rfl ?_
      refine z_getR hM dX1_addLike_42 fl_RX1_24 rfl rfl (vld_of (n := 1) rfl (by omega) (by omega)) ?_
      refine r_iconst hC dX1_addLike_45 rfl ?_
      refine r_iconst hC dX1_addLike_46 rfl ?_
      refine z_iastF hM rfl rfl dX1_addLike_47 (by omega) (by omega) (fun ρ34 g_ρ34 => ?_)
      exact J48_2  ρ34  (FS.trans (FS.trans (FS.rf) g_ρ33) g_ρ34)
    · refine r_aload_n hC dX1_addLike_18 rfl ?_
      refine z_getR hM dX1_addLike_19 fl_RX1_24 rfl rfl (vld_of (n := 1) rfl (by omega) (by omega)) ?_
      refine r_iconst hC dX1_addLike_22 rfl ?_
      refine r_dup2 hC dX1_addLike_23 rfl rfl ?_
      refine z_iald hM dX1_addLike_24 rfl (by omega) (by omega) (fun v35 h_v35 o_v35 t_v35 => ?_)
      clear t_v35
      refine r_iconst hC dX1_addLike_25 rfl ?_
      refine r_iaddG hC dX1_addLike_26 (fun v36 h_v36 => ?_)
      refine z_iastF hM rfl rfl dX1_addLike_27 (by omega) (by omega) (fun ρ37 g_ρ37 => ?_)
      refine r_goto (tgt := 48) hC dX1_addLike_28 rfl ?_
      exact J48_2  ρ37  (FS.trans (FS.rf) g_ρ37)
theorem qs_addStep {eb : Bool} {d : Nat} {P : Option Vl → Mm → Prop} {σ : Mm} {v : Int} (b_v : -1000 ≤ v ∧ v ≤ 1000)  (k : ∀ ρ : Mm, FS σ ρ → P none ρ) : WT (false, true, eb) (d + 2) 22 [vR 14 0, vI v] σ P := by
  refine WT_in fun K hK => ?_
  have hK : StpY (false, true, eb) cX1_addStep RX1 (none) (WT (false, true, eb) (d + 1)) P K := hK
  have hM := hK.1
  have hC := hK.1.1
  show K 0 [some (vR 14 0), some (vI v), none, none, none] [] σ
  refine r_aload_n hC dX1_addStep_0 rfl ?_
  refine z_getI (jz := 6) hM dX1_addStep_1 fl_RX1_34 rfl rfl rfl (fun v1 h_v1 o_v1 t_v1 => ?_)
  clear t_v1
  have J12_3 : ∀ (w3 : Int), ∀ (ρ5 : Mm), 0 ≤ w3 ∧ w3 ≤ 1 → FS σ ρ5 → K 12 [some (vR 14 0), some (vI v), none, none, none] [vI w3] ρ5 := by
    intro w3 ρ5 f_w3 g_ρ5
    refine r_istore_n hC dX1_addStep_12 rfl ?_
    refine r_iload_n hC dX1_addStep_13 rfl ?_
    have J32_7 : ∀ (w7 : Int), ∀ (ρ9 : Mm), 0 ≤ w7 ∧ w7 ≤ 1 → FS σ ρ9 → K 32 [some (vR 14 0), some (vI v), some (vI w3), none, none] [vI w7] ρ9 := by
      intro w7 ρ9 f_w7 g_ρ9
      refine r_istore_n hC dX1_addStep_32 rfl ?_
      refine r_iload_n hC dX1_addStep_33 rfl ?_
      have J52_11 : ∀ (w11 : Int), ∀ (ρ13 : Mm), 0 ≤ w11 ∧ w11 ≤ 1 → FS σ ρ13 → K 52 [some (vR 14 0), some (vI v), some (vI w3), some (vI w7), none] [vI w11] ρ13 := by
        intro w11 ρ13 f_w11 g_ρ13
        refine r_istore hC dX1_addStep_52 rfl ?_
        refine r_aload_n hC dX1_addStep_54 rfl ?_
        refine z_getR hM dX1_addStep_55 fl_RX1_24 rfl rfl (vld_of (n := 1) rfl (by omega) (by omega)) ?_
        refine r_iconst hC dX1_addStep_58 rfl ?_
        refine r_dup2 hC dX1_addStep_59 rfl rfl ?_
        refine z_iald hM dX1_addStep_60 rfl (by omega) (by omega) (fun v14 h_v14 o_v14 t_v14 => ?_)
        clear t_v14
        refine r_iload_n hC dX1_addStep_61 rfl ?_
        have J70_16 : ∀ (w16 : Int), ∀ (ρ18 : Mm), 0 ≤ w16 ∧ w16 ≤ 1 → FS σ ρ18 → K 70 [some (vR 14 0), some (vI v), some (vI w3), some (vI w7), some (vI w11)] [vI w16, vI v14, vI 0, vR 17 0] ρ18 := by
          intro w16 ρ18 f_w16 g_ρ18
          refine r_iaddG hC dX1_addStep_70 (fun v19 h_v19 => ?_)
          refine z_iastF hM rfl rfl dX1_addStep_71 (by omega) (by omega) (fun ρ20 g_ρ20 => ?_)
          refine r_aload_n hC dX1_addStep_72 rfl ?_
          refine z_getR hM dX1_addStep_73 fl_RX1_24 rfl rfl (vld_of (n := 1) rfl (by omega) (by omega)) ?_
          refine r_iconst hC dX1_addStep_76 rfl ?_
          refine r_dup2 hC dX1_addStep_77 rfl rfl ?_
          refine z_iald hM dX1_addStep_78 rfl (by omega) (by omega) (fun v21 h_v21 o_v21 t_v21 => ?_)
          clear t_v21
          refine r_iload hC dX1_addStep_79 rfl ?_
          have J89_23 : ∀ (w23 : Int), ∀ (ρ25 : Mm), 0 ≤ w23 ∧ w23 ≤ 1 → FS σ ρ25 → K 89 [some (vR 14 0), some (vI v), some (vI w3), some (vI w7), some (vI w11)] [vI w23, vI v21, vI 1, vR 17 0] ρ25 := by
            intro w23 ρ25 f_w23 g_ρ25
            refine r_iaddG hC dX1_addStep_89 (fun v26 h_v26 => ?_)
            refine z_iastF hM rfl rfl dX1_addStep_90 (by omega) (by omega) (fun ρ27 g_ρ27 => ?_)
            refine r_aload_n hC dX1_addStep_91 rfl ?_
            refine z_getR hM dX1_addStep_92 fl_RX1_24 rfl rfl (vld_of (n := 1) rfl (by omega) (by omega)) ?_
            refine r_iconst hC dX1_addStep_95 rfl ?_
            refine r_iload_n hC dX1_addStep_96 rfl ?_
            have J110_29 : ∀ (w29 : Int), ∀ (ρ31 : Mm), -2147483648 ≤ w29 ∧ w29 ≤ 2147483647 → FS σ ρ31 → K 110 [some (vR 14 0), some (vI v), some (vI w3), some (vI w7), some (vI w11)] [vI w29, vI 2, vR 17 0] ρ31 := by
              intro w29 ρ31 f_w29 g_ρ31
              refine z_iastF hM rfl rfl dX1_addStep_110 (by omega) (by omega) (fun ρ32 g_ρ32 => ?_)
              refine r_aload_n hC dX1_addStep_111 rfl ?_
              refine z_getR hM dX1_addStep_112 fl_RX1_24 rfl rfl (vld_of (n := 1) rfl (by omega) (by omega)) ?_
              refine r_iconst hC dX1_addStep_115 rfl ?_
              refine r_iload_n hC dX1_addStep_116 rfl ?_
              refine z_iastF hM rfl rfl dX1_addStep_117 (by omega) (by omega) (fun ρ33 g_ρ33 => ?_)
              refine r_aload_n hC dX1_addStep_118 rfl ?_
              refine r_iload_n hC dX1_addStep_119 rfl ?_
              have J133_35 : ∀ (w35 : Int), ∀ (ρ37 : Mm), -2147483648 ≤ w35 ∧ w35 ≤ 2147483647 → FS σ ρ37 → K 133 [some (vR 14 0), some (vI v), some (vI w3), some (vI w7), some (vI w11)] [vI w35, vR 14 0] ρ37 := by
                intro w35 ρ37 f_w35 g_ρ37
                refine z_putIU (jz := 7) hM dX1_addStep_133 fw_RX1_37 rfl rfl rfl (by simp [Un, Tb, DL, DF, DR, DX]) (by simp [Okv]) ?_
                refine r_aload_n hC dX1_addStep_136 rfl ?_
                refine z_getR hM dX1_addStep_137 fl_RX1_24 rfl rfl (vld_of (n := 1) rfl (by omega) (by omega)) ?_
                refine r_iconst hC dX1_addStep_140 rfl ?_
                refine r_aload_n hC dX1_addStep_141 rfl ?_
                refine z_getR hM dX1_addStep_142 fl_RX1_24 rfl rfl (vld_of (n := 1) rfl (by omega) (by omega)) ?_
                refine r_iconst hC dX1_addStep_145 rfl ?_
                refine z_iald hM dX1_addStep_146 rfl (by omega) (by omega) (fun v38 h_v38 o_v38 t_v38 => ?_)
                clear t_v38
                refine r_aload_n hC dX1_addStep_147 rfl ?_
                refine z_getI (jz := 7) hM dX1_addStep_148 fl_RX1_37 rfl rfl rfl (fun v39 h_v39 o_v39 t_v39 => ?_)
                clear t_v39
                refine z_ins2 hM dX1_addStep_151 tl_RX1_97 rfl (Nat.le_of_ble_eq_true rfl) (Nat.le_of_ble_eq_true rfl) ?_
                refine qs_max (fun v40 h_v40 => ?_)
                refine z_iastF hM rfl rfl dX1_addStep_154 (by omega) (by omega) (fun ρ41 g_ρ41 => ?_)
                refine y_vret hK rfl dX1_addStep_155 ?_
                exact k _ (FS.trans (g_ρ37) g_ρ41)
              refine r_if_eq (tgt := 127) hC dX1_addStep_120 rfl (fun h34 => ?_) (fun h34 => ?_)
              · refine r_aload_n hC dX1_addStep_127 rfl ?_
                refine z_getI (jz := 7) hM dX1_addStep_128 fl_RX1_37 rfl rfl rfl (fun v42 h_v42 o_v42 t_v42 => ?_)
                clear t_v42
                refine r_iconst hC dX1_addStep_131 rfl ?_
                refine r_iaddG hC dX1_addStep_132 (fun v43 h_v43 => ?_)
                exact J133_35 (v43) ρ33 (by omega) (FS.trans (FS.trans (g_ρ31) g_ρ32) g_ρ33)
              · refine r_iconst hC dX1_addStep_123 rfl ?_
                refine r_goto (tgt := 133) hC dX1_addStep_124 rfl ?_
                exact J133_35 (1) ρ33 (by omega) (FS.trans (FS.trans (g_ρ31) g_ρ32) g_ρ33)
            refine r_if_eq (tgt := 104) hC dX1_addStep_97 rfl (fun h28 => ?_) (fun h28 => ?_)
            · refine r_aload_n hC dX1_addStep_104 rfl ?_
              refine z_getR hM dX1_addStep_105 fl_RX1_24 rfl rfl (vld_of (n := 1) rfl (by omega) (by omega)) ?_
              refine r_iconst hC dX1_addStep_108 rfl ?_
              refine z_iald hM dX1_addStep_109 rfl (by omega) (by omega) (fun v44 h_v44 o_v44 t_v44 => ?_)
              clear t_v44
              exact J110_29 (v44) ρ27 (by omega) (FS.trans (g_ρ25) g_ρ27)
            · refine r_iload_n hC dX1_addStep_100 rfl ?_
              refine r_goto (tgt := 110) hC dX1_addStep_101 rfl ?_
              exact J110_29 (v) ρ27 (by omega) (FS.trans (g_ρ25) g_ρ27)
          refine r_if_eq (tgt := 88) hC dX1_addStep_81 rfl (fun h22 => ?_) (fun h22 => ?_)
          · refine r_iconst hC dX1_addStep_88 rfl ?_
            exact J89_23 (0) ρ20 (by omega) (FS.trans (g_ρ18) g_ρ20)
          · refine r_iconst hC dX1_addStep_84 rfl ?_
            refine r_goto (tgt := 89) hC dX1_addStep_85 rfl ?_
            exact J89_23 (1) ρ20 (by omega) (FS.trans (g_ρ18) g_ρ20)
        refine r_if_eq (tgt := 69) hC dX1_addStep_62 rfl (fun h15 => ?_) (fun h15 => ?_)
        · refine r_iconst hC dX1_addStep_69 rfl ?_
          exact J70_16 (0) ρ13 (by omega) (g_ρ13)
        · refine r_iconst hC dX1_addStep_65 rfl ?_
          refine r_goto (tgt := 70) hC dX1_addStep_66 rfl ?_
          exact J70_16 (1) ρ13 (by omega) (g_ρ13)
      refine r_if_ne (tgt := 51) hC dX1_addStep_34 rfl (fun h10 => ?_) (fun h10 => ?_)
      · refine r_iconst hC dX1_addStep_51 rfl ?_
        exact J52_11 (0) ρ9 (by omega) (g_ρ9)
      · refine r_iload_n hC dX1_addStep_37 rfl ?_
        refine r_aload_n hC dX1_addStep_38 rfl ?_
        refine z_getR hM dX1_addStep_39 fl_RX1_24 rfl rfl (vld_of (n := 1) rfl (by omega) (by omega)) ?_
        refine r_iconst hC dX1_addStep_42 rfl ?_
        refine z_iald hM dX1_addStep_43 rfl (by omega) (by omega) (fun v45 h_v45 o_v45 t_v45 => ?_)
        clear t_v45
        refine r_icmp_le (tgt := 51) hC dX1_addStep_44 rfl (fun h46 => ?_) (fun h46 => ?_)
        · refine r_iconst hC dX1_addStep_51 rfl ?_
          exact J52_11 (0) ρ9 (by omega) (g_ρ9)
        · refine r_iconst hC dX1_addStep_47 rfl ?_
          refine r_goto (tgt := 52) hC dX1_addStep_48 rfl ?_
          exact J52_11 (1) ρ9 (by omega) (g_ρ9)
    refine r_if_ne (tgt := 31) hC dX1_addStep_14 rfl (fun h6 => ?_) (fun h6 => ?_)
    · refine r_iconst hC dX1_addStep_31 rfl ?_
      exact J32_7 (0) ρ5 (by omega) (g_ρ5)
    · refine r_iload_n hC dX1_addStep_17 rfl ?_
      refine r_aload_n hC dX1_addStep_18 rfl ?_
      refine z_getR hM dX1_addStep_19 fl_RX1_24 rfl rfl (vld_of (n := 1) rfl (by omega) (by omega)) ?_
      refine r_iconst hC dX1_addStep_22 rfl ?_
      refine z_iald hM dX1_addStep_23 rfl (by omega) (by omega) (fun v47 h_v47 o_v47 t_v47 => ?_)
      clear t_v47
      refine r_icmp_ge (tgt := 31) hC dX1_addStep_24 rfl (fun h48 => ?_) (fun h48 => ?_)
      · refine r_iconst hC dX1_addStep_31 rfl ?_
        exact J32_7 (0) ρ5 (by omega) (g_ρ5)
      · refine r_iconst hC dX1_addStep_27 rfl ?_
        refine r_goto (tgt := 32) hC dX1_addStep_28 rfl ?_
        exact J32_7 (1) ρ5 (by omega) (g_ρ5)
  refine r_if_ne (tgt := 11) hC dX1_addStep_4 rfl (fun h2 => ?_) (fun h2 => ?_)
  · refine r_iconst hC dX1_addStep_11 rfl ?_
    exact J12_3 (0) σ (by omega) (FS.rf)
  · refine r_iconst hC dX1_addStep_7 rfl ?_
    refine r_goto (tgt := 12) hC dX1_addStep_8 rfl ?_
    exact J12_3 (1) σ (by omega) (FS.rf)
theorem qs_addSpread {eb : Bool} {d : Nat} {P : Option Vl → Mm → Prop} {σ : Mm} {v : Int} (b_v : -1000 ≤ v ∧ v ≤ 1000)  (k : ∀ ρ : Mm, FS σ ρ → P none ρ) : WT (false, true, eb) (d + 2) 23 [vR 14 0, vI v] σ P := by
  refine WT_in fun K hK => ?_
  have hK : StpY (false, true, eb) cX1_addSpread RX1 (none) (WT (false, true, eb) (d + 1)) P K := hK
  have hM := hK.1
  have hC := hK.1.1
  show K 0 [some (vR 14 0), some (vI v)] [] σ
  refine r_iload_n hC dX1_addSpread_0 rfl ?_
  have J72_1 : ∀ (ρ3 : Mm), FS σ ρ3 → K 72 [some (vR 14 0), some (vI v)] [] ρ3 := by
    intro  ρ3  g_ρ3
    refine y_vret hK rfl dX1_addSpread_72 ?_
    exact k _ (g_ρ3)
  refine r_if_le (tgt := 35) hC dX1_addSpread_1 rfl (fun h1 => ?_) (fun h1 => ?_)
  · refine r_iload_n hC dX1_addSpread_35 rfl ?_
    refine r_if_ge (tgt := 58) hC dX1_addSpread_36 rfl (fun h4 => ?_) (fun h4 => ?_)
    · refine r_iload_n hC dX1_addSpread_58 rfl ?_
      refine r_if_ne (tgt := 72) hC dX1_addSpread_59 rfl (fun h5 => by omega) (fun h5 => ?_)
      refine r_aload_n hC dX1_addSpread_62 rfl ?_
      refine z_getR hM dX1_addSpread_63 fl_RX1_24 rfl rfl (vld_of (n := 1) rfl (by omega) (by omega)) ?_
      refine r_iconst hC dX1_addSpread_66 rfl ?_
      refine r_dup2 hC dX1_addSpread_67 rfl rfl ?_
      refine z_iald hM dX1_addSpread_68 rfl (by omega) (by omega) (fun v6 h_v6 o_v6 t_v6 => ?_)
      clear t_v6
      refine r_iconst hC dX1_addSpread_69 rfl ?_
      refine r_iaddG hC dX1_addSpread_70 (fun v7 h_v7 => ?_)
      refine z_iastF hM rfl rfl dX1_addSpread_71 (by omega) (by omega) (fun ρ8 g_ρ8 => ?_)
      exact J72_1  ρ8  (FS.trans (FS.rf) g_ρ8)
    · refine r_aload_n hC dX1_addSpread_39 rfl ?_
      refine z_getR hM dX1_addSpread_40 fl_RX1_24 rfl rfl (vld_of (n := 1) rfl (by omega) (by omega)) ?_
      refine r_iconst hC dX1_addSpread_43 rfl ?_
      refine r_aload_n hC dX1_addSpread_44 rfl ?_
      refine z_getR hM dX1_addSpread_45 fl_RX1_24 rfl rfl (vld_of (n := 1) rfl (by omega) (by omega)) ?_
      refine r_iconst hC dX1_addSpread_48 rfl ?_
      refine z_iald hM dX1_addSpread_49 rfl (by omega) (by omega) (fun v9 h_v9 o_v9 t_v9 => ?_)
      clear t_v9
      refine r_iload_n hC dX1_addSpread_50 rfl ?_
      refine z_ins2 hM dX1_addSpread_51 tl_RX1_97 rfl (Nat.le_of_ble_eq_true rfl) (Nat.le_of_ble_eq_true rfl) ?_
      refine qs_max (fun v10 h_v10 => ?_)
      refine z_iastF hM rfl rfl dX1_addSpread_54 (by omega) (by omega) (fun ρ11 g_ρ11 => ?_)
      refine r_goto (tgt := 72) hC dX1_addSpread_55 rfl ?_
      exact J72_1  ρ11  (FS.trans (FS.rf) g_ρ11)
  · refine r_aload_n hC dX1_addSpread_4 rfl ?_
    refine z_getR hM dX1_addSpread_5 fl_RX1_24 rfl rfl (vld_of (n := 1) rfl (by omega) (by omega)) ?_
    refine r_iconst hC dX1_addSpread_8 rfl ?_
    refine z_iald hM dX1_addSpread_9 rfl (by omega) (by omega) (fun v12 h_v12 o_v12 t_v12 => ?_)
    clear t_v12
    refine r_ldc hC dX1_addSpread_10 co_RX1_40 rfl ?_
    refine r_icmp_eq (tgt := 25) hC dX1_addSpread_12 rfl (fun h13 => ?_) (fun h13 => ?_)
    · refine r_aload_n hC dX1_addSpread_25 rfl ?_
      refine z_getR hM dX1_addSpread_26 fl_RX1_24 rfl rfl (vld_of (n := 1) rfl (by omega) (by omega)) ?_
      refine r_iconst hC dX1_addSpread_29 rfl ?_
      refine r_iload_n hC dX1_addSpread_30 rfl ?_
      refine z_iastF hM rfl rfl dX1_addSpread_31 (by omega) (by omega) (fun ρ14 g_ρ14 => ?_)
      refine r_goto (tgt := 72) hC dX1_addSpread_32 rfl ?_
      exact J72_1  ρ14  (FS.trans (FS.rf) g_ρ14)
    · refine r_iload_n hC dX1_addSpread_15 rfl ?_
      refine r_aload_n hC dX1_addSpread_16 rfl ?_
      refine z_getR hM dX1_addSpread_17 fl_RX1_24 rfl rfl (vld_of (n := 1) rfl (by omega) (by omega)) ?_
      refine r_iconst hC dX1_addSpread_20 rfl ?_
      refine z_iald hM dX1_addSpread_21 rfl (by omega) (by omega) (fun v15 h_v15 o_v15 t_v15 => ?_)
      clear t_v15
      refine r_icmp_ge (tgt := 35) hC dX1_addSpread_22 rfl (fun h16 => ?_) (fun h16 => ?_)
      · refine r_iload_n hC dX1_addSpread_35 rfl ?_
        refine r_if_ge (tgt := 58) hC dX1_addSpread_36 rfl (fun h17 => ?_) (fun h17 => by omega)
        refine r_iload_n hC dX1_addSpread_58 rfl ?_
        refine r_if_ne (tgt := 72) hC dX1_addSpread_59 rfl (fun h18 => ?_) (fun h18 => by omega)
        exact J72_1  σ  (FS.rf)
      · refine r_aload_n hC dX1_addSpread_25 rfl ?_
        refine z_getR hM dX1_addSpread_26 fl_RX1_24 rfl rfl (vld_of (n := 1) rfl (by omega) (by omega)) ?_
        refine r_iconst hC dX1_addSpread_29 rfl ?_
        refine r_iload_n hC dX1_addSpread_30 rfl ?_
        refine z_iastF hM rfl rfl dX1_addSpread_31 (by omega) (by omega) (fun ρ19 g_ρ19 => ?_)
        refine r_goto (tgt := 72) hC dX1_addSpread_32 rfl ?_
        exact J72_1  ρ19  (FS.trans (FS.rf) g_ρ19)
theorem qs_addLine {eb : Bool} {d : Nat} {P : Option Vl → Mm → Prop} {σ : Mm} {v : Int} (b_v : -1000 ≤ v ∧ v ≤ 1000)  (k : ∀ ρ : Mm, FS σ ρ → P none ρ) : WT (false, true, eb) (d + 2) 17 [vR 14 0, vI v] σ P := by
  refine WT_in fun K hK => ?_
  have hK : StpY (false, true, eb) cX1_addLine RX1 (none) (WT (false, true, eb) (d + 1)) P K := hK
  have hM := hK.1
  have hC := hK.1.1
  show K 0 [some (vR 14 0), some (vI v), none, none] [] σ
  refine r_iload_n hC dX1_addLine_0 rfl ?_
  refine r_sipush hC dX1_addLine_1 rfl ?_
  refine z_ins2 hM dX1_addLine_4 tl_RX1_93 rfl (Nat.le_of_ble_eq_true rfl) (Nat.le_of_ble_eq_true rfl) ?_
  refine qs_floorMod (by omega) (fun v1 h_v1 => ?_)
  refine r_istore_n hC dX1_addLine_7 rfl ?_
  refine r_bipush hC dX1_addLine_8 rfl ?_
  refine r_iload_n hC dX1_addLine_10 rfl ?_
  refine r_imulE hC ((7 * v)) dX1_addLine_11 (by omega) (by unfold inR; omega) ?_
  refine r_iconst hC dX1_addLine_12 rfl ?_
  refine r_iaddE hC (((7 * v) + 1)) dX1_addLine_13 (by omega) (by unfold inR; omega) ?_
  refine r_sipush hC dX1_addLine_14 rfl ?_
  refine z_ins2 hM dX1_addLine_17 tl_RX1_93 rfl (Nat.le_of_ble_eq_true rfl) (Nat.le_of_ble_eq_true rfl) ?_
  refine qs_floorMod (by omega) (fun v2 h_v2 => ?_)
  refine r_istore_n hC dX1_addLine_20 rfl ?_
  refine r_aload_n hC dX1_addLine_21 rfl ?_
  refine z_getR hM dX1_addLine_22 fl_RX1_24 rfl rfl (vld_of (n := 1) rfl (by omega) (by omega)) ?_
  refine r_iconst hC dX1_addLine_25 rfl ?_
  refine r_iload_n hC dX1_addLine_26 rfl ?_
  refine r_aload_n hC dX1_addLine_27 rfl ?_
  refine z_getR hM dX1_addLine_28 fl_RX1_24 rfl rfl (vld_of (n := 1) rfl (by omega) (by omega)) ?_
  refine r_iconst hC dX1_addLine_31 rfl ?_
  refine z_iald hM dX1_addLine_32 rfl (by omega) (by omega) (fun v3 h_v3 o_v3 t_v3 => ?_)
  clear t_v3
  refine r_imulG hC dX1_addLine_33 (fun v4 h_v4 => ?_)
  refine r_sipush hC dX1_addLine_34 rfl ?_
  refine r_iremG hC dX1_addLine_37 (by omega) (fun v5 h_v5 p_v5 m_v5 => ?_)
  refine z_iastF hM rfl rfl dX1_addLine_38 (by omega) (by omega) (fun ρ6 g_ρ6 => ?_)
  refine r_aload_n hC dX1_addLine_39 rfl ?_
  refine z_getR hM dX1_addLine_40 fl_RX1_24 rfl rfl (vld_of (n := 1) rfl (by omega) (by omega)) ?_
  refine r_iconst hC dX1_addLine_43 rfl ?_
  refine r_iload_n hC dX1_addLine_44 rfl ?_
  refine r_aload_n hC dX1_addLine_45 rfl ?_
  refine z_getR hM dX1_addLine_46 fl_RX1_24 rfl rfl (vld_of (n := 1) rfl (by omega) (by omega)) ?_
  refine r_iconst hC dX1_addLine_49 rfl ?_
  refine z_iald hM dX1_addLine_50 rfl (by omega) (by omega) (fun v7 h_v7 o_v7 t_v7 => ?_)
  clear t_v7
  refine r_imulG hC dX1_addLine_51 (fun v8 h_v8 => ?_)
  refine r_iload_n hC dX1_addLine_52 rfl ?_
  refine r_iaddG hC dX1_addLine_53 (fun v9 h_v9 => ?_)
  refine r_sipush hC dX1_addLine_54 rfl ?_
  refine r_iremG hC dX1_addLine_57 (by omega) (fun v10 h_v10 p_v10 m_v10 => ?_)
  refine z_iastF hM rfl rfl dX1_addLine_58 (by omega) (by omega) (fun ρ11 g_ρ11 => ?_)
  refine y_vret hK rfl dX1_addLine_59 ?_
  exact k _ (FS.trans (FS.trans (FS.rf) g_ρ6) g_ρ11)
theorem qs_addLetter {eb : Bool} {d : Nat} {P : Option Vl → Mm → Prop} {σ : Mm} {v : Int} (b_v : -1000 ≤ v ∧ v ≤ 1000)  (k : ∀ ρ : Mm, FS σ ρ → P none ρ) : WT (false, true, eb) (d + 2) 19 [vR 14 0, vI v] σ P := by
  refine WT_in fun K hK => ?_
  have hK : StpY (false, true, eb) cX1_addLetter RX1 (none) (WT (false, true, eb) (d + 1)) P K := hK
  have hM := hK.1
  have hC := hK.1.1
  show K 0 [some (vR 14 0), some (vI v), none, none, none] [] σ
  refine r_aload_n hC dX1_addLetter_0 rfl ?_
  refine z_getR hM dX1_addLetter_1 fl_RX1_15 rfl rfl (vld_of (n := 1) rfl (by omega) (by omega)) ?_
  refine r_iload_n hC dX1_addLetter_4 rfl ?_
  refine r_bipush hC dX1_addLetter_5 rfl ?_
  refine z_ins2 hM dX1_addLetter_7 tl_RX1_93 rfl (Nat.le_of_ble_eq_true rfl) (Nat.le_of_ble_eq_true rfl) ?_
  refine qs_floorMod (by omega) (fun v1 h_v1 => ?_)
  refine z_iald hM dX1_addLetter_10 rfl (by omega) (by omega) (fun v2 h_v2 o_v2 t_v2 => ?_)
  clear t_v2
  refine r_istore_n hC dX1_addLetter_11 rfl ?_
  refine r_iconst hC dX1_addLetter_12 rfl ?_
  refine r_istore_n hC dX1_addLetter_13 rfl ?_
  refine r_iconst hC dX1_addLetter_14 rfl ?_
  refine r_istore hC dX1_addLetter_15 rfl ?_
  have L17 : ∀ (n17 : Nat) (w3 w4 : Int) (ρ5 : Mm), -2147483648 ≤ w3 ∧ w3 ≤ 2147483647 → 0 ≤ w4 ∧ w4 ≤ 4 → 4 - w4 < (n17 : Int) → FS σ ρ5 → K 17 [some (vR 14 0), some (vI v), some (vI v2), some (vI w3), some (vI w4)] [] ρ5 := by
    intro n17
    induction n17 with
    | zero => intro w3 w4 ρ5 f_w3 f_w4  hm g_ρ5 ; omega
    | succ n17 ih17 =>
      intro w3 w4 ρ5 f_w3 f_w4  hm17 g_ρ5 
      refine r_iload hC dX1_addLetter_17 rfl ?_
      refine r_iconst hC dX1_addLetter_19 rfl ?_
      refine r_icmp_ge (tgt := 61) hC dX1_addLetter_20 rfl (fun h6 => ?_) (fun h6 => ?_)
      · refine r_aload_n hC dX1_addLetter_61 rfl ?_
        refine z_getR hM dX1_addLetter_62 fl_RX1_24 rfl rfl (vld_of (n := 1) rfl (by omega) (by omega)) ?_
        refine r_iconst hC dX1_addLetter_65 rfl ?_
        refine r_iload_n hC dX1_addLetter_66 rfl ?_
        refine z_ins1 hM dX1_addLetter_67 tl_RX1_100 rfl (Nat.le_of_ble_eq_true rfl) (Nat.le_of_ble_eq_true rfl) ?_
        refine qs_bitCount (fun v7 h_v7 => ?_)
        refine z_iastF hM rfl rfl dX1_addLetter_70 (by omega) (by omega) (fun ρ8 g_ρ8 => ?_)
        refine y_vret hK rfl dX1_addLetter_71 ?_
        exact k _ (FS.trans (g_ρ5) g_ρ8)
      · refine r_aload_n hC dX1_addLetter_23 rfl ?_
        refine z_getR hM dX1_addLetter_24 fl_RX1_24 rfl rfl (vld_of (n := 1) rfl (by omega) (by omega)) ?_
        refine r_iload hC dX1_addLetter_27 rfl ?_
        refine r_iload_n hC dX1_addLetter_29 rfl ?_
        refine r_iconst hC dX1_addLetter_30 rfl ?_
        refine r_aload_n hC dX1_addLetter_31 rfl ?_
        refine z_getR hM dX1_addLetter_32 fl_RX1_24 rfl rfl (vld_of (n := 1) rfl (by omega) (by omega)) ?_
        refine r_iload hC dX1_addLetter_35 rfl ?_
        refine z_iald hM dX1_addLetter_37 rfl (by omega) (by omega) (fun v9 h_v9 o_v9 t_v9 => ?_)
        clear t_v9
        refine r_imulG hC dX1_addLetter_38 (fun v10 h_v10 => ?_)
        refine r_ishrG hC dX1_addLetter_39 (fun v11 h_v11 => ?_)
        refine r_iconst hC dX1_addLetter_40 rfl ?_
        refine r_iandB hC dX1_addLetter_41 (by omega) (inR_lit rfl) (fun v12 h_v12 => ?_)
        refine z_iastF hM rfl rfl dX1_addLetter_42 (by omega) (by omega) (fun ρ13 g_ρ13 => ?_)
        refine r_iload_n hC dX1_addLetter_43 rfl ?_
        refine r_iconst hC dX1_addLetter_44 rfl ?_
        refine r_aload_n hC dX1_addLetter_45 rfl ?_
        refine z_getR hM dX1_addLetter_46 fl_RX1_24 rfl rfl (vld_of (n := 1) rfl (by omega) (by omega)) ?_
        refine r_iload hC dX1_addLetter_49 rfl ?_
        refine z_iald hM dX1_addLetter_51 rfl (by omega) (by omega) (fun v14 h_v14 o_v14 t_v14 => ?_)
        clear t_v14
        refine r_ishlG hC dX1_addLetter_52 (fun v15 h_v15 => ?_)
        refine r_iorG hC dX1_addLetter_53 (fun v16 h_v16 => ?_)
        refine r_istore_n hC dX1_addLetter_54 rfl ?_
        refine r_iincE hC ((w4 + 1)) dX1_addLetter_55 rfl rfl (by omega) (by unfold inR; omega) ?_
        refine r_goto (tgt := 17) hC dX1_addLetter_58 rfl ?_
        exact ih17 (v16) ((w4 + 1)) ρ13 (by omega) (by omega)  (by omega) (FS.trans (g_ρ5) g_ρ13) 
  exact L17 6 (0) (0) σ (by omega) (by omega)  (by omega) (FS.rf) 
theorem qs_absb {e : Ev} {d : Nat} {P : Option Vl → Mm → Prop} {σ : Mm} {a : Int} (b_a : -1000 ≤ a ∧ a ≤ 1000)  (k : ∀ r : Int, 0 ≤ r ∧ r ≤ 1000 → P (some (vI r)) σ) : WT e (d + 1) 263 [vI a] σ P := by
  refine WT_in fun K hK => ?_
  have hK : StpY e cJ9_abs_0f7a4 RJ9 (some .int) (WT e (d + 0)) P K := hK
  have hM := hK.1
  have hC := hK.1.1
  show K 0 [some (vI a)] [] σ
  refine r_iload_n hC dJ9_abs_0f7a4_0 rfl ?_
  have J10_2 : ∀ (w2 : Int), 0 ≤ w2 ∧ w2 ≤ 1000 → K 10 [some (vI a)] [vI w2] σ := by
    intro w2  f_w2 
    refine y_iret hK rfl dJ9_abs_0f7a4_10 ?_
    exact k _ (by omega)
  refine r_if_ge (tgt := 9) hC dJ9_abs_0f7a4_1 rfl (fun h1 => ?_) (fun h1 => ?_)
  · refine r_iload_n hC dJ9_abs_0f7a4_9 rfl ?_
    exact J10_2 (a)  (by omega) 
  · refine r_iload_n hC dJ9_abs_0f7a4_4 rfl ?_
    refine r_inegS hC dJ9_abs_0f7a4_5 (by unfold inR; omega) ?_
    refine r_goto (tgt := 10) hC dJ9_abs_0f7a4_6 rfl ?_
    exact J10_2 ((-a))  (by omega) 
theorem qs_addShare {eb : Bool} {d : Nat} {P : Option Vl → Mm → Prop} {σ : Mm} {v n0 : Int} (b_v : -1000 ≤ v ∧ v ≤ 1000) (b_n0 : 0 ≤ n0) (qg0 : σ 17 0 0 = n0)  (k : ∀ ρ : Mm, Gx (fun c x y => c = 17 ∧ x = 0 ∧ y = 0) σ ρ → 0 ≤ ρ 17 0 0 → P none ρ) : WT (false, true, eb) (d + 2) 16 [vR 14 0, vI v] σ P := by
  refine WT_in fun K hK => ?_
  have hK : StpY (false, true, eb) cX1_addShare RX1 (none) (WT (false, true, eb) (d + 1)) P K := hK
  have hM := hK.1
  have hC := hK.1.1
  show K 0 [some (vR 14 0), some (vI v), none, none, none, none] [] σ
  refine r_aload_n hC dX1_addShare_0 rfl ?_
  refine z_getR hM dX1_addShare_1 fl_RX1_24 rfl rfl (vld_of (n := 1) rfl (by omega) (by omega)) ?_
  refine r_iconst hC dX1_addShare_4 rfl ?_
  refine z_iald hM dX1_addShare_5 rfl (by omega) (by omega) (fun v1 h_v1 o_v1 t_v1 => ?_)
  have e_v1 : n0 = v1 := ((t_v1 (Or.inr (Or.inr (Or.inl ⟨rfl, Or.inl rfl⟩)))).trans qg0).symm
  clear t_v1
  subst e_v1
  refine r_istore_n hC dX1_addShare_6 rfl ?_
  refine r_iload_n hC dX1_addShare_7 rfl ?_
  refine z_ins1 hM dX1_addShare_8 tl_RX1_88 rfl (Nat.le_of_ble_eq_true rfl) (Nat.le_of_ble_eq_true rfl) ?_
  refine qs_absb (by omega) (fun v2 h_v2 => ?_)
  refine r_istore_n hC dX1_addShare_11 rfl ?_
  refine r_iconst hC dX1_addShare_12 rfl ?_
  refine r_istore hC dX1_addShare_13 rfl ?_
  have L15 : ∀ (n15 : Nat) (w3 w4 w5 : Int) (ρ6 : Mm), 0 ≤ w3 ∧ w3 ≤ 9223372036854775808 → 0 ≤ w4 ∧ w4 ≤ 1000 → 0 ≤ w5 ∧ w5 ≤ 1001 → 1001 - w5 < (n15 : Int) → Gx (fun c x y => c = 17 ∧ x = 0 ∧ y = 0) σ ρ6 → ρ6 17 0 0 = n0 → K 15 [some (vR 14 0), some (vI v), some (vI w3), some (vI w4), some (vI w5), none] [] ρ6 := by
    intro n15
    induction n15 with
    | zero => intro w3 w4 w5 ρ6 f_w3 f_w4 f_w5  hm g_ρ6 q0_ρ6 ; omega
    | succ n15 ih15 =>
      intro w3 w4 w5 ρ6 f_w3 f_w4 f_w5  hm15 g_ρ6 q0_ρ6 
      refine r_iload_n hC dX1_addShare_15 rfl ?_
      have J43_7 : ∀ (ρ9 : Mm), Gx (fun c x y => c = 17 ∧ x = 0 ∧ y = 0) σ ρ9 → ρ9 17 0 0 = n0 → K 43 [some (vR 14 0), some (vI v), some (vI w3), some (vI w4), some (vI w5), none] [] ρ9 := by
        intro  ρ9  g_ρ9 q0_ρ9
        refine r_aload_n hC dX1_addShare_43 rfl ?_
        refine z_getR hM dX1_addShare_44 fl_RX1_24 rfl rfl (vld_of (n := 1) rfl (by omega) (by omega)) ?_
        refine r_iconst hC dX1_addShare_47 rfl ?_
        refine r_iload_n hC dX1_addShare_48 rfl ?_
        refine z_iastG hM dX1_addShare_49 rfl (by omega) (by omega) ⟨Or.inr (by simp [DL]), Or.inl rfl⟩ (by first | trivial | (simp only [Okv]; omega) | (simp [Okv]; try omega)) (fun ρ10 a_ρ10 q_ρ10 => ?_)
        refine r_aload_n hC dX1_addShare_50 rfl ?_
        refine z_getR hM dX1_addShare_51 fl_RX1_24 rfl rfl (vld_of (n := 1) rfl (by omega) (by omega)) ?_
        refine r_iconst hC dX1_addShare_54 rfl ?_
        refine r_dup2 hC dX1_addShare_55 rfl rfl ?_
        refine z_iald hM dX1_addShare_56 rfl (by omega) (by omega) (fun v11 h_v11 o_v11 t_v11 => ?_)
        clear t_v11
        refine r_iload_n hC dX1_addShare_57 rfl ?_
        have J66_13 : ∀ (w13 : Int), ∀ (ρ15 : Mm), 0 ≤ w13 ∧ w13 ≤ 1 → Gx (fun c x y => c = 17 ∧ x = 0 ∧ y = 0) σ ρ15 → ρ15 17 0 0 = w3 → K 66 [some (vR 14 0), some (vI v), some (vI w3), some (vI w4), some (vI w5), none] [vI w13, vI v11, vI 1, vR 17 0] ρ15 := by
          intro w13 ρ15 f_w13 g_ρ15 q0_ρ15
          refine r_iaddG hC dX1_addShare_66 (fun v16 h_v16 => ?_)
          refine z_iastU hM dX1_addShare_67 rfl (by omega) (by omega) (by simp [Un, Tb, DL, DF, DR, DX]; try omega) (by simp [Okv]) ?_
          refine y_vret hK rfl dX1_addShare_68 ?_
          exact k _ (g_ρ15) (by have hq := q0_ρ15; omega)
        refine r_if_eq (tgt := 65) hC dX1_addShare_58 rfl (fun h12 => ?_) (fun h12 => ?_)
        · refine r_iconst hC dX1_addShare_65 rfl ?_
          exact J66_13 (0) ρ10 (by omega) ((g_ρ9).al a_ρ10 (by first | (simp; done) | omega | (simp; omega))) (by have hq := q_ρ10; omega)
        · refine r_iconst hC dX1_addShare_61 rfl ?_
          refine r_goto (tgt := 66) hC dX1_addShare_62 rfl ?_
          exact J66_13 (1) ρ10 (by omega) ((g_ρ9).al a_ρ10 (by first | (simp; done) | omega | (simp; omega))) (by have hq := q_ρ10; omega)
      refine r_if_eq (tgt := 43) hC dX1_addShare_16 rfl (fun h7 => ?_) (fun h7 => ?_)
      · exact J43_7  ρ6  (g_ρ6) (by have hq := q0_ρ6; omega)
      · refine r_iload hC dX1_addShare_19 rfl ?_
        refine r_sipush hC dX1_addShare_21 rfl ?_
        refine r_icmp_gt (tgt := 43) hC dX1_addShare_24 rfl (fun h17 => ?_) (fun h17 => ?_)
        · exact J43_7  ρ6  (g_ρ6) (by have hq := q0_ρ6; omega)
        · refine r_iload_n hC dX1_addShare_27 rfl ?_
          refine r_iload_n hC dX1_addShare_28 rfl ?_
          refine r_iremP hC dX1_addShare_29 (by omega) (by omega) (fun v18 h_v18 => ?_)
          refine r_istore hC dX1_addShare_30 rfl ?_
          refine r_iload_n hC dX1_addShare_32 rfl ?_
          refine r_istore_n hC dX1_addShare_33 rfl ?_
          refine r_iload hC dX1_addShare_34 rfl ?_
          refine r_istore_n hC dX1_addShare_36 rfl ?_
          show K _ [_, _, _, _, _, _] _ _
          refine r_iincE hC ((w5 + 1)) dX1_addShare_37 rfl rfl (by omega) (by unfold inR; omega) ?_
          refine r_goto (tgt := 15) hC dX1_addShare_40 rfl ?_
          refine r_forget hC (ls2 := [some (vR 14 0), some (vI v), some (vI w4), some (vI v18), some (vI (w5 + 1)), none]) (lsub_some (lsub_some (lsub_some (lsub_some (lsub_some (lsub_none lsub_nil)))))) ?_
          exact ih15 (w4) (v18) ((w5 + 1)) ρ6 (by omega) (by omega) (by omega)  (by omega) (g_ρ6) (by have hq := q0_ρ6; omega) 
  exact L15 1003 (n0) (v2) (0) σ (by omega) (by omega) (by omega)  (by omega) (Gx.rf) (by have hq := qg0; omega) 
theorem qs_addElement {eb : Bool} {d : Nat} {P : Option Vl → Mm → Prop} {σ : Mm} {v n0 : Int} (b_v : -1000 ≤ v ∧ v ≤ 1000) (b_n0 : 0 ≤ n0 ∧ n0 ≤ 3) (qg0 : σ 17 0 0 = n0)  (k : ∀ ρ : Mm, Gx (fun c x y => c = 17 ∧ x = 0 ∧ y = 0) σ ρ → 0 ≤ ρ 17 0 0 ∧ ρ 17 0 0 ≤ 3 → P none ρ) : WT (false, true, eb) (d + 2) 24 [vR 14 0, vI v] σ P := by
  refine WT_in fun K hK => ?_
  have hK : StpY (false, true, eb) cX1_addElement RX1 (none) (WT (false, true, eb) (d + 1)) P K := hK
  have hM := hK.1
  have hC := hK.1.1
  show K 0 [some (vR 14 0), some (vI v), none] [] σ
  refine r_iload_n hC dX1_addElement_0 rfl ?_
  refine r_iconst hC dX1_addElement_1 rfl ?_
  refine z_ins2 hM dX1_addElement_2 tl_RX1_93 rfl (Nat.le_of_ble_eq_true rfl) (Nat.le_of_ble_eq_true rfl) ?_
  refine qs_floorMod (by omega) (fun v1 h_v1 => ?_)
  refine r_istore_n hC dX1_addElement_5 rfl ?_
  refine r_aload_n hC dX1_addElement_6 rfl ?_
  refine z_getR hM dX1_addElement_7 fl_RX1_24 rfl rfl (vld_of (n := 1) rfl (by omega) (by omega)) ?_
  refine r_iconst hC dX1_addElement_10 rfl ?_
  refine r_aload_n hC dX1_addElement_11 rfl ?_
  refine z_getI (jz := 6) hM dX1_addElement_12 fl_RX1_34 rfl rfl rfl (fun v2 h_v2 o_v2 t_v2 => ?_)
  clear t_v2
  have J37_4 : ∀ (w4 : Int), ∀ (ρ6 : Mm), 0 ≤ w4 ∧ w4 ≤ 3 → Gx (fun c x y => c = 17 ∧ x = 0 ∧ y = 0) σ ρ6 → ρ6 17 0 0 = n0 → K 37 [some (vR 14 0), some (vI v), some (vI v1)] [vI w4, vI 0, vR 17 0] ρ6 := by
    intro w4 ρ6 f_w4 g_ρ6 q0_ρ6
    refine z_iastG hM dX1_addElement_37 rfl (by omega) (by omega) ⟨Or.inr (by simp [DL]), Or.inl rfl⟩ (by first | trivial | (simp only [Okv]; omega) | (simp [Okv]; try omega)) (fun ρ7 a_ρ7 q_ρ7 => ?_)
    refine y_vret hK rfl dX1_addElement_38 ?_
    exact k _ ((g_ρ6).al a_ρ7 (by first | (simp; done) | omega | (simp; omega))) (by have hq := q_ρ7; omega)
  refine r_if_ne (tgt := 22) hC dX1_addElement_15 rfl (fun h3 => ?_) (fun h3 => ?_)
  · refine r_aload_n hC dX1_addElement_22 rfl ?_
    refine z_getR hM dX1_addElement_23 fl_RX1_9 rfl rfl (vld_of (n := 1) rfl (by omega) (by omega)) ?_
    refine r_iconst hC dX1_addElement_26 rfl ?_
    refine r_aload_n hC dX1_addElement_27 rfl ?_
    refine z_getR hM dX1_addElement_28 fl_RX1_24 rfl rfl (vld_of (n := 1) rfl (by omega) (by omega)) ?_
    refine r_iconst hC dX1_addElement_31 rfl ?_
    refine z_iald hM dX1_addElement_32 rfl (by omega) (by omega) (fun v8 h_v8 o_v8 t_v8 => ?_)
    have e_v8 : n0 = v8 := ((t_v8 (Or.inr (Or.inr (Or.inl ⟨rfl, Or.inl rfl⟩)))).trans qg0).symm
    clear t_v8
    subst e_v8
    refine r_imulE hC ((4 * n0)) dX1_addElement_33 (by omega) (by unfold inR; omega) ?_
    refine r_iload_n hC dX1_addElement_34 rfl ?_
    refine r_iaddE hC (((4 * n0) + v1)) dX1_addElement_35 (by omega) (by unfold inR; omega) ?_
    refine z_iald hM dX1_addElement_36 rfl (by omega) (by omega) (fun v9 h_v9 o_v9 t_v9 => ?_)
    clear t_v9
    have q_v9 : 0 ≤ v9 ∧ v9 ≤ 3 := o_v9
    exact J37_4 (v9) σ (by omega) (Gx.rf) (by have hq := qg0; omega)
  · refine r_iload_n hC dX1_addElement_18 rfl ?_
    refine r_goto (tgt := 37) hC dX1_addElement_19 rfl ?_
    exact J37_4 (v1) σ (by omega) (Gx.rf) (by have hq := qg0; omega)
theorem qs_appendS {eb : Bool} {d : Nat} {P : Option Vl → Mm → Prop} {σ : Mm} {v o : Int} (b_v : -1000 ≤ v ∧ v ≤ 1000) (b_o : 0 ≤ o ∧ o ≤ 9) (ho : σ 14 0 5 = o) (hF : InF σ)  (k : ∀ ρ : Mm, FS σ ρ → InF ρ → P none ρ) : WT (false, true, eb) (d + 3) 14 [vR 14 0, vI v] σ P := by
  refine WT_in fun K hK => ?_
  have hK : StpY (false, true, eb) cX1_append RX1 (none) (WT (false, true, eb) (d + 2)) P K := hK
  have hM := hK.1
  have hC := hK.1.1
  show K 0 [some (vR 14 0), some (vI v)] [] σ
  refine r_aload_n hC dX1_append_0 rfl ?_
  refine z_getI (jz := 5) hM dX1_append_1 fl_RX1_30 rfl rfl rfl (fun v1 h_v1 o_v1 t_v1 => ?_)
  rw [(t_v1 (Or.inr (Or.inr (Or.inl ⟨rfl, Or.inl rfl⟩)))).trans ho]
  clear t_v1
  rcases (by omega : (o < 0 ∨ 8 < o) ∨ o = 0 ∨ o = 1 ∨ o = 2 ∨ o = 3 ∨ o = 4 ∨ o = 5 ∨ o = 6 ∨ o = 7 ∨ o = 8) with h2 | h2 | h2 | h2 | h2 | h2 | h2 | h2 | h2 | h2
  · refine r_tableOut (tgt := 128) hC dX1_append_4 h2 rfl ?_
    refine r_aload_n hC dX1_append_128 rfl ?_
    refine r_iload_n hC dX1_append_129 rfl ?_
    refine z_inv1 hM dX1_append_130 vl_RX1_85 rfl rfl rfl (Nat.le_of_ble_eq_true rfl) (Nat.le_of_ble_eq_true rfl) ?_
    refine qs_addElement (n0 := σ 17 0 0) (by omega) (hF.1 (by omega)) rfl (fun ρ3 g_ρ3 f_ρ3 => ?_)
    refine r_aload_n hC dX1_append_133 rfl ?_
    refine r_dup hC dX1_append_134 rfl ?_
    refine z_getI (jz := 6) hM dX1_append_135 fl_RX1_34 rfl rfl rfl (fun v4 h_v4 o_v4 t_v4 => ?_)
    clear t_v4
    refine r_iconst hC dX1_append_138 rfl ?_
    refine r_iaddG hC dX1_append_139 (fun v5 h_v5 => ?_)
    refine z_putIU (jz := 6) hM dX1_append_140 fw_RX1_34 rfl rfl rfl (by simp [Un, Tb, DL, DF, DR, DX]) (by simp [Okv]) ?_
    refine y_vret hK rfl dX1_append_143 ?_
    exact k _ (g_ρ3) (⟨fun _ => f_ρ3, fun h => by have := (g_ρ3) 14 0 5 (by simp); omega⟩)
  · refine r_tableIn (tgt := 56) (off := 52) hC dX1_append_4 (by omega) (by omega) (by rw [h2]; rfl) rfl ?_
    refine r_aload_n hC dX1_append_56 rfl ?_
    refine r_iload_n hC dX1_append_57 rfl ?_
    refine z_inv1 hM dX1_append_58 vl_RX1_57 rfl rfl rfl (Nat.le_of_ble_eq_true rfl) (Nat.le_of_ble_eq_true rfl) ?_
    refine qs_addGreatest (by omega) (fun ρ6 g_ρ6 => ?_)
    refine r_goto (tgt := 133) hC dX1_append_61 rfl ?_
    refine r_aload_n hC dX1_append_133 rfl ?_
    refine r_dup hC dX1_append_134 rfl ?_
    refine z_getI (jz := 6) hM dX1_append_135 fl_RX1_34 rfl rfl rfl (fun v7 h_v7 o_v7 t_v7 => ?_)
    clear t_v7
    refine r_iconst hC dX1_append_138 rfl ?_
    refine r_iaddG hC dX1_append_139 (fun v8 h_v8 => ?_)
    refine z_putIU (jz := 6) hM dX1_append_140 fw_RX1_34 rfl rfl rfl (by simp [Un, Tb, DL, DF, DR, DX]) (by simp [Okv]) ?_
    refine y_vret hK rfl dX1_append_143 ?_
    exact k _ (g_ρ6) (⟨fun h => by have := (g_ρ6) 14 0 5 (by simp); omega, fun h => by have := (g_ρ6) 14 0 5 (by simp); omega⟩)
  · refine r_tableIn (tgt := 64) (off := 60) hC dX1_append_4 (by omega) (by omega) (by rw [h2]; rfl) rfl ?_
    refine r_aload_n hC dX1_append_64 rfl ?_
    refine r_iload_n hC dX1_append_65 rfl ?_
    refine z_inv1 hM dX1_append_66 vl_RX1_61 rfl rfl rfl (Nat.le_of_ble_eq_true rfl) (Nat.le_of_ble_eq_true rfl) ?_
    refine qs_addShare (n0 := σ 17 0 0) (by omega) (hF.2 (by omega)) rfl (fun ρ9 g_ρ9 f_ρ9 => ?_)
    refine r_goto (tgt := 133) hC dX1_append_69 rfl ?_
    refine r_aload_n hC dX1_append_133 rfl ?_
    refine r_dup hC dX1_append_134 rfl ?_
    refine z_getI (jz := 6) hM dX1_append_135 fl_RX1_34 rfl rfl rfl (fun v10 h_v10 o_v10 t_v10 => ?_)
    clear t_v10
    refine r_iconst hC dX1_append_138 rfl ?_
    refine r_iaddG hC dX1_append_139 (fun v11 h_v11 => ?_)
    refine z_putIU (jz := 6) hM dX1_append_140 fw_RX1_34 rfl rfl rfl (by simp [Un, Tb, DL, DF, DR, DX]) (by simp [Okv]) ?_
    refine y_vret hK rfl dX1_append_143 ?_
    exact k _ (g_ρ9) (⟨fun h => by have := (g_ρ9) 14 0 5 (by simp); omega, fun _ => f_ρ9⟩)
  · refine r_tableIn (tgt := 72) (off := 68) hC dX1_append_4 (by omega) (by omega) (by rw [h2]; rfl) rfl ?_
    refine r_aload_n hC dX1_append_72 rfl ?_
    refine r_iload_n hC dX1_append_73 rfl ?_
    refine z_inv1 hM dX1_append_74 vl_RX1_64 rfl rfl rfl (Nat.le_of_ble_eq_true rfl) (Nat.le_of_ble_eq_true rfl) ?_
    refine qs_addLine (by omega) (fun ρ12 g_ρ12 => ?_)
    refine r_goto (tgt := 133) hC dX1_append_77 rfl ?_
    refine r_aload_n hC dX1_append_133 rfl ?_
    refine r_dup hC dX1_append_134 rfl ?_
    refine z_getI (jz := 6) hM dX1_append_135 fl_RX1_34 rfl rfl rfl (fun v13 h_v13 o_v13 t_v13 => ?_)
    clear t_v13
    refine r_iconst hC dX1_append_138 rfl ?_
    refine r_iaddG hC dX1_append_139 (fun v14 h_v14 => ?_)
    refine z_putIU (jz := 6) hM dX1_append_140 fw_RX1_34 rfl rfl rfl (by simp [Un, Tb, DL, DF, DR, DX]) (by simp [Okv]) ?_
    refine y_vret hK rfl dX1_append_143 ?_
    exact k _ (g_ρ12) (⟨fun h => by have := (g_ρ12) 14 0 5 (by simp); omega, fun h => by have := (g_ρ12) 14 0 5 (by simp); omega⟩)
  · refine r_tableIn (tgt := 80) (off := 76) hC dX1_append_4 (by omega) (by omega) (by rw [h2]; rfl) rfl ?_
    refine r_aload_n hC dX1_append_80 rfl ?_
    refine r_iload_n hC dX1_append_81 rfl ?_
    refine z_inv1 hM dX1_append_82 vl_RX1_67 rfl rfl rfl (Nat.le_of_ble_eq_true rfl) (Nat.le_of_ble_eq_true rfl) ?_
    refine qs_addRun (by omega) (fun ρ15 g_ρ15 => ?_)
    refine r_goto (tgt := 133) hC dX1_append_85 rfl ?_
    refine r_aload_n hC dX1_append_133 rfl ?_
    refine r_dup hC dX1_append_134 rfl ?_
    refine z_getI (jz := 6) hM dX1_append_135 fl_RX1_34 rfl rfl rfl (fun v16 h_v16 o_v16 t_v16 => ?_)
    clear t_v16
    refine r_iconst hC dX1_append_138 rfl ?_
    refine r_iaddG hC dX1_append_139 (fun v17 h_v17 => ?_)
    refine z_putIU (jz := 6) hM dX1_append_140 fw_RX1_34 rfl rfl rfl (by simp [Un, Tb, DL, DF, DR, DX]) (by simp [Okv]) ?_
    refine y_vret hK rfl dX1_append_143 ?_
    exact k _ (g_ρ15) (⟨fun h => by have := (g_ρ15) 14 0 5 (by simp); omega, fun h => by have := (g_ρ15) 14 0 5 (by simp); omega⟩)
  · refine r_tableIn (tgt := 88) (off := 84) hC dX1_append_4 (by omega) (by omega) (by rw [h2]; rfl) rfl ?_
    refine r_aload_n hC dX1_append_88 rfl ?_
    refine r_iload_n hC dX1_append_89 rfl ?_
    refine z_inv1 hM dX1_append_90 vl_RX1_70 rfl rfl rfl (Nat.le_of_ble_eq_true rfl) (Nat.le_of_ble_eq_true rfl) ?_
    refine qs_addLetter (by omega) (fun ρ18 g_ρ18 => ?_)
    refine r_goto (tgt := 133) hC dX1_append_93 rfl ?_
    refine r_aload_n hC dX1_append_133 rfl ?_
    refine r_dup hC dX1_append_134 rfl ?_
    refine z_getI (jz := 6) hM dX1_append_135 fl_RX1_34 rfl rfl rfl (fun v19 h_v19 o_v19 t_v19 => ?_)
    clear t_v19
    refine r_iconst hC dX1_append_138 rfl ?_
    refine r_iaddG hC dX1_append_139 (fun v20 h_v20 => ?_)
    refine z_putIU (jz := 6) hM dX1_append_140 fw_RX1_34 rfl rfl rfl (by simp [Un, Tb, DL, DF, DR, DX]) (by simp [Okv]) ?_
    refine y_vret hK rfl dX1_append_143 ?_
    exact k _ (g_ρ18) (⟨fun h => by have := (g_ρ18) 14 0 5 (by simp); omega, fun h => by have := (g_ρ18) 14 0 5 (by simp); omega⟩)
  · refine r_tableIn (tgt := 96) (off := 92) hC dX1_append_4 (by omega) (by omega) (by rw [h2]; rfl) rfl ?_
    refine r_aload_n hC dX1_append_96 rfl ?_
    refine r_iload_n hC dX1_append_97 rfl ?_
    refine z_inv1 hM dX1_append_98 vl_RX1_73 rfl rfl rfl (Nat.le_of_ble_eq_true rfl) (Nat.le_of_ble_eq_true rfl) ?_
    refine qs_addNest (by omega) (fun ρ21 g_ρ21 => ?_)
    refine r_goto (tgt := 133) hC dX1_append_101 rfl ?_
    refine r_aload_n hC dX1_append_133 rfl ?_
    refine r_dup hC dX1_append_134 rfl ?_
    refine z_getI (jz := 6) hM dX1_append_135 fl_RX1_34 rfl rfl rfl (fun v22 h_v22 o_v22 t_v22 => ?_)
    clear t_v22
    refine r_iconst hC dX1_append_138 rfl ?_
    refine r_iaddG hC dX1_append_139 (fun v23 h_v23 => ?_)
    refine z_putIU (jz := 6) hM dX1_append_140 fw_RX1_34 rfl rfl rfl (by simp [Un, Tb, DL, DF, DR, DX]) (by simp [Okv]) ?_
    refine y_vret hK rfl dX1_append_143 ?_
    exact k _ (g_ρ21) (⟨fun h => by have := (g_ρ21) 14 0 5 (by simp); omega, fun h => by have := (g_ρ21) 14 0 5 (by simp); omega⟩)
  · refine r_tableIn (tgt := 104) (off := 100) hC dX1_append_4 (by omega) (by omega) (by rw [h2]; rfl) rfl ?_
    refine r_aload_n hC dX1_append_104 rfl ?_
    refine r_iload_n hC dX1_append_105 rfl ?_
    refine z_inv1 hM dX1_append_106 vl_RX1_76 rfl rfl rfl (Nat.le_of_ble_eq_true rfl) (Nat.le_of_ble_eq_true rfl) ?_
    refine qs_addLike (by omega) (fun ρ24 g_ρ24 => ?_)
    refine r_goto (tgt := 133) hC dX1_append_109 rfl ?_
    refine r_aload_n hC dX1_append_133 rfl ?_
    refine r_dup hC dX1_append_134 rfl ?_
    refine z_getI (jz := 6) hM dX1_append_135 fl_RX1_34 rfl rfl rfl (fun v25 h_v25 o_v25 t_v25 => ?_)
    clear t_v25
    refine r_iconst hC dX1_append_138 rfl ?_
    refine r_iaddG hC dX1_append_139 (fun v26 h_v26 => ?_)
    refine z_putIU (jz := 6) hM dX1_append_140 fw_RX1_34 rfl rfl rfl (by simp [Un, Tb, DL, DF, DR, DX]) (by simp [Okv]) ?_
    refine y_vret hK rfl dX1_append_143 ?_
    exact k _ (g_ρ24) (⟨fun h => by have := (g_ρ24) 14 0 5 (by simp); omega, fun h => by have := (g_ρ24) 14 0 5 (by simp); omega⟩)
  · refine r_tableIn (tgt := 112) (off := 108) hC dX1_append_4 (by omega) (by omega) (by rw [h2]; rfl) rfl ?_
    refine r_aload_n hC dX1_append_112 rfl ?_
    refine r_iload_n hC dX1_append_113 rfl ?_
    refine z_inv1 hM dX1_append_114 vl_RX1_79 rfl rfl rfl (Nat.le_of_ble_eq_true rfl) (Nat.le_of_ble_eq_true rfl) ?_
    refine qs_addStep (by omega) (fun ρ27 g_ρ27 => ?_)
    refine r_goto (tgt := 133) hC dX1_append_117 rfl ?_
    refine r_aload_n hC dX1_append_133 rfl ?_
    refine r_dup hC dX1_append_134 rfl ?_
    refine z_getI (jz := 6) hM dX1_append_135 fl_RX1_34 rfl rfl rfl (fun v28 h_v28 o_v28 t_v28 => ?_)
    clear t_v28
    refine r_iconst hC dX1_append_138 rfl ?_
    refine r_iaddG hC dX1_append_139 (fun v29 h_v29 => ?_)
    refine z_putIU (jz := 6) hM dX1_append_140 fw_RX1_34 rfl rfl rfl (by simp [Un, Tb, DL, DF, DR, DX]) (by simp [Okv]) ?_
    refine y_vret hK rfl dX1_append_143 ?_
    exact k _ (g_ρ27) (⟨fun h => by have := (g_ρ27) 14 0 5 (by simp); omega, fun h => by have := (g_ρ27) 14 0 5 (by simp); omega⟩)
  · refine r_tableIn (tgt := 120) (off := 116) hC dX1_append_4 (by omega) (by omega) (by rw [h2]; rfl) rfl ?_
    refine r_aload_n hC dX1_append_120 rfl ?_
    refine r_iload_n hC dX1_append_121 rfl ?_
    refine z_inv1 hM dX1_append_122 vl_RX1_82 rfl rfl rfl (Nat.le_of_ble_eq_true rfl) (Nat.le_of_ble_eq_true rfl) ?_
    refine qs_addSpread (by omega) (fun ρ30 g_ρ30 => ?_)
    refine r_goto (tgt := 133) hC dX1_append_125 rfl ?_
    refine r_aload_n hC dX1_append_133 rfl ?_
    refine r_dup hC dX1_append_134 rfl ?_
    refine z_getI (jz := 6) hM dX1_append_135 fl_RX1_34 rfl rfl rfl (fun v31 h_v31 o_v31 t_v31 => ?_)
    clear t_v31
    refine r_iconst hC dX1_append_138 rfl ?_
    refine r_iaddG hC dX1_append_139 (fun v32 h_v32 => ?_)
    refine z_putIU (jz := 6) hM dX1_append_140 fw_RX1_34 rfl rfl rfl (by simp [Un, Tb, DL, DF, DR, DX]) (by simp [Okv]) ?_
    refine y_vret hK rfl dX1_append_143 ?_
    exact k _ (g_ρ30) (⟨fun h => by have := (g_ρ30) 14 0 5 (by simp); omega, fun h => by have := (g_ρ30) 14 0 5 (by simp); omega⟩)
theorem qs_append {eb : Bool} {d : Nat} {P : Option Vl → Mm → Prop} {σ : Mm} {v : Int} (b_v : -1000 ≤ v ∧ v ≤ 1000) (k : P none σ) : WT (false, false, eb) (d + 3) 14 [vR 14 0, vI v] σ P := by
  refine WT_loose (false, true, eb) (fun h => h) (fun h => by cases h) (fun c j q => ?_) (fun ρ hL hF hT hO => ?_)
  · rcases q with q | q | q | q
    · exact Or.inl q
    · exact Or.inr (Or.inl q)
    · cases q.1
    · exact Or.inr (Or.inr (Or.inr q))
  · refine qs_appendS b_v (o := ρ 14 0 5) (hO 14 0 5 rfl) rfl (hF rfl) (fun ρ2 g f => ⟨σ, k, fun q => Or.inl q, fun _ => Or.inr f, fun c i j q => ?_⟩)
    refine (g c i j ?_).trans (hT c i j q)
    rintro ⟨rfl, rfl, rfl⟩
    rcases q with q | q | q | q
    · exact q
    · exact q.2
    · cases q.1
    · exact q.2
theorem qs_fillN {eb : Bool} {d : Nat} {P : Option Vl → Mm → Prop} {σ : Mm} {v n0 : Int} (qg0 : σ 17 0 0 = n0)  (k : ∀ ρ : Mm, Gx (fun c x y => c = 17 ∧ x = 0 ∧ y = 0) σ ρ → ρ 17 0 0 = v → P none ρ) : WT (false, true, eb) (d + 1) 266 [vR 17 0, vI v] σ P := by
  refine WT_in fun K hK => ?_
  have hK : StpY (false, true, eb) cJ7_fill_53178 RJ7 (none) (WT (false, true, eb) (d + 0)) P K := hK
  have hM := hK.1
  have hC := hK.1.1
  show K 0 [some (vR 17 0), some (vI v), none, none] [] σ
  refine r_rngz hC (fun g0 => ?_)
  have r_v : -2147483648 ≤ v ∧ v ≤ 2147483647 := inR_le (g0 (vI v) (by simp))
  refine r_iconst hC dJ7_fill_53178_0 rfl ?_
  refine r_istore_n hC dJ7_fill_53178_1 rfl ?_
  refine r_aload_n hC dJ7_fill_53178_2 rfl ?_
  refine z_alen (nz := 7) hM dJ7_fill_53178_3 rfl rfl (by decide) ?_
  refine r_istore_n hC dJ7_fill_53178_4 rfl ?_
  refine r_iload_n hC dJ7_fill_53178_5 rfl ?_
  refine r_iload_n hC dJ7_fill_53178_6 rfl ?_
  refine r_icmp_ge (tgt := 20) hC dJ7_fill_53178_7 rfl (fun h1 => by omega) (fun h1 => ?_)
  refine r_aload_n hC dJ7_fill_53178_10 rfl ?_
  refine r_iload_n hC dJ7_fill_53178_11 rfl ?_
  refine r_iload_n hC dJ7_fill_53178_12 rfl ?_
  refine z_iastG hM dJ7_fill_53178_13 rfl (by omega) (by omega) ⟨Or.inr (by simp [DL]), Or.inl rfl⟩ (by first | trivial | (simp only [Okv]; omega) | (simp [Okv]; try omega)) (fun ρ2 a_ρ2 q_ρ2 => ?_)
  refine r_iincE hC (1) dJ7_fill_53178_14 rfl rfl (by omega) (by unfold inR; omega) ?_
  show K _ [_, _, _, _] _ _
  refine r_goto (tgt := 5) hC dJ7_fill_53178_17 rfl ?_
  have L5 : ∀ (n5 : Nat) (w3 : Int) (ρ4 : Mm), 1 ≤ w3 ∧ w3 ≤ 7 → 7 - w3 < (n5 : Int) → Gx (fun c x y => c = 17 ∧ x = 0 ∧ y = 0) σ ρ4 → ρ4 17 0 0 = v → K 5 [some (vR 17 0), some (vI v), some (vI w3), some (vI 7)] [] ρ4 := by
    intro n5
    induction n5 with
    | zero => intro w3 ρ4 f_w3  hm g_ρ4 q0_ρ4 ; omega
    | succ n5 ih5 =>
      intro w3 ρ4 f_w3  hm5 g_ρ4 q0_ρ4 
      refine r_iload_n hC dJ7_fill_53178_5 rfl ?_
      refine r_iload_n hC dJ7_fill_53178_6 rfl ?_
      refine r_icmp_ge (tgt := 20) hC dJ7_fill_53178_7 rfl (fun h5 => ?_) (fun h5 => ?_)
      · refine y_vret hK rfl dJ7_fill_53178_20 ?_
        exact k _ (g_ρ4) (by have hq := q0_ρ4; omega)
      · refine r_aload_n hC dJ7_fill_53178_10 rfl ?_
        refine r_iload_n hC dJ7_fill_53178_11 rfl ?_
        refine r_iload_n hC dJ7_fill_53178_12 rfl ?_
        refine z_iastU hM dJ7_fill_53178_13 rfl (by omega) (by omega) (by simp [Un, Tb, DL, DF, DR, DX]; try omega) (by simp [Okv]) ?_
        refine r_iincE hC ((w3 + 1)) dJ7_fill_53178_14 rfl rfl (by omega) (by unfold inR; omega) ?_
        refine r_goto (tgt := 5) hC dJ7_fill_53178_17 rfl ?_
        exact ih5 ((w3 + 1)) ρ4 (by omega)  (by omega) (g_ρ4) (by have hq := q0_ρ4; omega) 
  exact L5 8 (1) ρ2 (by omega)  (by omega) ((Gx.rf).al a_ρ2 (by first | (simp; done) | omega | (simp; omega))) (by have hq := q_ρ2; omega) 
theorem qs_beginS {eb : Bool} {d : Nat} {P : Option Vl → Mm → Prop} {σ : Mm} {o o0 n0 : Int} (b_o : 0 ≤ o ∧ o ≤ 9) (b_o0 : 0 ≤ o0 ∧ o0 ≤ 9) (qg0 : σ 14 0 5 = o0) (qg1 : σ 17 0 0 = n0)  (k : ∀ ρ : Mm, Gx (fun c x y => c = 14 ∧ x = 0 ∧ y = 5 ∨ c = 17 ∧ x = 0 ∧ y = 0) σ ρ → InF ρ → P none ρ) : WT (false, true, eb) (d + 2) 9 [vR 14 0, vI o] σ P := by
  refine WT_in fun K hK => ?_
  have hK : StpY (false, true, eb) cX1_begin RX1 (none) (WT (false, true, eb) (d + 1)) P K := hK
  have hM := hK.1
  have hC := hK.1.1
  show K 0 [some (vR 14 0), some (vI o), none] [] σ
  refine r_aload_n hC dX1_begin_0 rfl ?_
  refine r_iload_n hC dX1_begin_1 rfl ?_
  refine z_putIG (jz := 5) hM dX1_begin_2 fw_RX1_30 rfl rfl rfl ⟨Or.inr (by simp [DL]), Or.inl rfl⟩ (by first | trivial | (simp only [Okv]; omega) | (simp [Okv]; try omega)) (fun ρ1 a_ρ1 q_ρ1 => ?_)
  refine r_aload_n hC dX1_begin_5 rfl ?_
  refine r_iconst hC dX1_begin_6 rfl ?_
  refine z_putIU (jz := 6) hM dX1_begin_7 fw_RX1_34 rfl rfl rfl (by simp [Un, Tb, DL, DF, DR, DX]) (by simp [Okv]) ?_
  refine r_aload_n hC dX1_begin_10 rfl ?_
  refine r_iconst hC dX1_begin_11 rfl ?_
  refine z_putIU (jz := 7) hM dX1_begin_12 fw_RX1_37 rfl rfl rfl (by simp [Un, Tb, DL, DF, DR, DX]) (by simp [Okv]) ?_
  refine r_aload_n hC dX1_begin_15 rfl ?_
  refine z_getR hM dX1_begin_16 fl_RX1_24 rfl rfl (vld_of (n := 1) rfl (by omega) (by omega)) ?_
  refine r_iconst hC dX1_begin_19 rfl ?_
  refine z_ins2 hM dX1_begin_20 tl_RX1_18 rfl (Nat.le_of_ble_eq_true rfl) (Nat.le_of_ble_eq_true rfl) ?_
  refine qs_fillN (n0 := n0) ((a_ρ1 _ _ _ (by omega)).trans qg1) (fun ρ2 a_ρ2 q_ρ2 => ?_)
  refine r_iload_n hC dX1_begin_23 rfl ?_
  refine r_iconst hC dX1_begin_24 rfl ?_
  refine r_icmp_ne (tgt := 38) hC dX1_begin_25 rfl (fun h3 => ?_) (fun h3 => ?_)
  · refine r_iload_n hC dX1_begin_38 rfl ?_
    refine r_iconst hC dX1_begin_39 rfl ?_
    refine r_icmp_ne (tgt := 66) hC dX1_begin_40 rfl (fun h4 => ?_) (fun h4 => ?_)
    · refine r_iload_n hC dX1_begin_66 rfl ?_
      refine r_bipush hC dX1_begin_67 rfl ?_
      refine r_icmp_ne (tgt := 88) hC dX1_begin_69 rfl (fun h5 => ?_) (fun h5 => ?_)
      · refine y_vret hK rfl dX1_begin_88 ?_
        exact k _ (((Gx.rf).al a_ρ1 (by first | (simp; done) | omega | (simp; omega))).al a_ρ2 (by first | (simp; done) | omega | (simp; omega))) ⟨fun h => by have hq := ((a_ρ2 _ _ _ (by omega)).trans q_ρ1); have hr := q_ρ2; omega, fun h => by have hq := ((a_ρ2 _ _ _ (by omega)).trans q_ρ1); have hr := q_ρ2; omega⟩
      · refine r_aload_n hC dX1_begin_72 rfl ?_
        refine z_getR hM dX1_begin_73 fl_RX1_24 rfl rfl (vld_of (n := 1) rfl (by omega) (by omega)) ?_
        refine r_iconst hC dX1_begin_76 rfl ?_
        refine r_ldc hC dX1_begin_77 co_RX1_40 rfl ?_
        refine z_iastG hM dX1_begin_79 rfl (by omega) (by omega) ⟨Or.inr (by simp [DL]), Or.inl rfl⟩ (by first | trivial | (simp only [Okv]; omega) | (simp [Okv]; try omega)) (fun ρ6 a_ρ6 q_ρ6 => ?_)
        refine r_aload_n hC dX1_begin_80 rfl ?_
        refine z_getR hM dX1_begin_81 fl_RX1_24 rfl rfl (vld_of (n := 1) rfl (by omega) (by omega)) ?_
        refine r_iconst hC dX1_begin_84 rfl ?_
        refine r_ldc hC dX1_begin_85 co_RX1_40 rfl ?_
        refine z_iastU hM dX1_begin_87 rfl (by omega) (by omega) (by simp [Un, Tb, DL, DF, DR, DX]; try omega) (by simp [Okv]) ?_
        refine y_vret hK rfl dX1_begin_88 ?_
        exact k _ ((((Gx.rf).al a_ρ1 (by first | (simp; done) | omega | (simp; omega))).al a_ρ2 (by first | (simp; done) | omega | (simp; omega))).al a_ρ6 (by first | (simp; done) | omega | (simp; omega))) ⟨fun h => by have hq := ((a_ρ6 _ _ _ (by omega)).trans ((a_ρ2 _ _ _ (by omega)).trans q_ρ1)); have hr := q_ρ6; omega, fun h => by have hq := ((a_ρ6 _ _ _ (by omega)).trans ((a_ρ2 _ _ _ (by omega)).trans q_ρ1)); have hr := q_ρ6; omega⟩
    · refine r_iconst hC dX1_begin_43 rfl ?_
      refine r_istore_n hC dX1_begin_44 rfl ?_
      refine r_iload_n hC dX1_begin_45 rfl ?_
      refine r_iconst hC dX1_begin_46 rfl ?_
      refine r_icmp_ge (tgt := 63) hC dX1_begin_47 rfl (fun h7 => by omega) (fun h7 => ?_)
      refine r_aload_n hC dX1_begin_50 rfl ?_
      refine z_getR hM dX1_begin_51 fl_RX1_24 rfl rfl (vld_of (n := 1) rfl (by omega) (by omega)) ?_
      refine r_iload_n hC dX1_begin_54 rfl ?_
      refine r_iload_n hC dX1_begin_55 rfl ?_
      refine z_iastG hM dX1_begin_56 rfl (by omega) (by omega) ⟨Or.inr (by simp [DL]), Or.inl rfl⟩ (by first | trivial | (simp only [Okv]; omega) | (simp [Okv]; try omega)) (fun ρ8 a_ρ8 q_ρ8 => ?_)
      refine r_iincE hC (1) dX1_begin_57 rfl rfl (by omega) (by unfold inR; omega) ?_
      refine r_goto (tgt := 45) hC dX1_begin_60 rfl ?_
      refine r_iload_n hC dX1_begin_45 rfl ?_
      refine r_iconst hC dX1_begin_46 rfl ?_
      refine r_icmp_ge (tgt := 63) hC dX1_begin_47 rfl (fun h9 => by omega) (fun h9 => ?_)
      refine r_aload_n hC dX1_begin_50 rfl ?_
      refine z_getR hM dX1_begin_51 fl_RX1_24 rfl rfl (vld_of (n := 1) rfl (by omega) (by omega)) ?_
      refine r_iload_n hC dX1_begin_54 rfl ?_
      refine r_iload_n hC dX1_begin_55 rfl ?_
      refine z_iastU hM dX1_begin_56 rfl (by omega) (by omega) (by simp [Un, Tb, DL, DF, DR, DX]; try omega) (by simp [Okv]) ?_
      refine r_iincE hC (2) dX1_begin_57 rfl rfl (by omega) (by unfold inR; omega) ?_
      show K _ [_, _, _] _ _
      refine r_goto (tgt := 45) hC dX1_begin_60 rfl ?_
      refine r_iload_n hC dX1_begin_45 rfl ?_
      refine r_iconst hC dX1_begin_46 rfl ?_
      refine r_icmp_ge (tgt := 63) hC dX1_begin_47 rfl (fun h10 => by omega) (fun h10 => ?_)
      refine r_aload_n hC dX1_begin_50 rfl ?_
      refine z_getR hM dX1_begin_51 fl_RX1_24 rfl rfl (vld_of (n := 1) rfl (by omega) (by omega)) ?_
      refine r_iload_n hC dX1_begin_54 rfl ?_
      refine r_iload_n hC dX1_begin_55 rfl ?_
      refine z_iastU hM dX1_begin_56 rfl (by omega) (by omega) (by simp [Un, Tb, DL, DF, DR, DX]; try omega) (by simp [Okv]) ?_
      refine r_iincE hC (3) dX1_begin_57 rfl rfl (by omega) (by unfold inR; omega) ?_
      refine r_goto (tgt := 45) hC dX1_begin_60 rfl ?_
      refine r_iload_n hC dX1_begin_45 rfl ?_
      refine r_iconst hC dX1_begin_46 rfl ?_
      refine r_icmp_ge (tgt := 63) hC dX1_begin_47 rfl (fun h11 => by omega) (fun h11 => ?_)
      refine r_aload_n hC dX1_begin_50 rfl ?_
      refine z_getR hM dX1_begin_51 fl_RX1_24 rfl rfl (vld_of (n := 1) rfl (by omega) (by omega)) ?_
      refine r_iload_n hC dX1_begin_54 rfl ?_
      refine r_iload_n hC dX1_begin_55 rfl ?_
      refine z_iastU hM dX1_begin_56 rfl (by omega) (by omega) (by simp [Un, Tb, DL, DF, DR, DX]; try omega) (by simp [Okv]) ?_
      refine r_iincE hC (4) dX1_begin_57 rfl rfl (by omega) (by unfold inR; omega) ?_
      refine r_goto (tgt := 45) hC dX1_begin_60 rfl ?_
      refine r_iload_n hC dX1_begin_45 rfl ?_
      refine r_iconst hC dX1_begin_46 rfl ?_
      refine r_icmp_ge (tgt := 63) hC dX1_begin_47 rfl (fun h12 => ?_) (fun h12 => by omega)
      refine r_goto (tgt := 88) hC dX1_begin_63 rfl ?_
      refine y_vret hK rfl dX1_begin_88 ?_
      exact k _ ((((Gx.rf).al a_ρ1 (by first | (simp; done) | omega | (simp; omega))).al a_ρ2 (by first | (simp; done) | omega | (simp; omega))).al a_ρ8 (by first | (simp; done) | omega | (simp; omega))) ⟨fun h => by have hq := ((a_ρ8 _ _ _ (by omega)).trans ((a_ρ2 _ _ _ (by omega)).trans q_ρ1)); have hr := q_ρ8; omega, fun h => by have hq := ((a_ρ8 _ _ _ (by omega)).trans ((a_ρ2 _ _ _ (by omega)).trans q_ρ1)); have hr := q_ρ8; omega⟩
  · refine r_aload_n hC dX1_begin_28 rfl ?_
    refine z_getR hM dX1_begin_29 fl_RX1_24 rfl rfl (vld_of (n := 1) rfl (by omega) (by omega)) ?_
    refine r_iconst hC dX1_begin_32 rfl ?_
    refine r_iconst hC dX1_begin_33 rfl ?_
    refine z_iastG hM dX1_begin_34 rfl (by omega) (by omega) ⟨Or.inr (by simp [DL]), Or.inl rfl⟩ (by first | trivial | (simp only [Okv]; omega) | (simp [Okv]; try omega)) (fun ρ13 a_ρ13 q_ρ13 => ?_)
    refine r_goto (tgt := 88) hC dX1_begin_35 rfl ?_
    refine y_vret hK rfl dX1_begin_88 ?_
    exact k _ ((((Gx.rf).al a_ρ1 (by first | (simp; done) | omega | (simp; omega))).al a_ρ2 (by first | (simp; done) | omega | (simp; omega))).al a_ρ13 (by first | (simp; done) | omega | (simp; omega))) ⟨fun h => by have hq := ((a_ρ13 _ _ _ (by omega)).trans ((a_ρ2 _ _ _ (by omega)).trans q_ρ1)); have hr := q_ρ13; omega, fun h => by have hq := ((a_ρ13 _ _ _ (by omega)).trans ((a_ρ2 _ _ _ (by omega)).trans q_ρ1)); have hr := q_ρ13; omega⟩
theorem qs_begin {eb : Bool} {d : Nat} {P : Option Vl → Mm → Prop} {σ : Mm} {o : Int} (b_o : 0 ≤ o ∧ o ≤ 9) (k : P none σ) : WT (false, false, eb) (d + 2) 9 [vR 14 0, vI o] σ P := by
  refine WT_loose (false, true, eb) (fun h => h) (fun h => by cases h) (fun c j q => ?_) (fun ρ hL hF hT hO => ?_)
  · rcases q with q | q | q | q
    · exact Or.inl q
    · exact Or.inr (Or.inl q)
    · cases q.1
    · exact Or.inr (Or.inr (Or.inr q))
  · refine qs_beginS b_o (o0 := ρ 14 0 5) (hO 14 0 5 rfl) rfl (n0 := ρ 17 0 0) rfl (fun ρ2 g f => ⟨σ, k, fun q => Or.inl q, fun _ => Or.inr f, fun c i j q => ?_⟩)
    refine (g c i j ?_).trans (hT c i j q)
    rintro (⟨rfl, rfl, rfl⟩ | ⟨rfl, rfl, rfl⟩)
    all_goals
      rcases q with q | q | q | q
      · exact q
      · exact q.2
      · cases q.1
      · exact q.2
-- safety: what folds
theorem qs_foldPart {eb : Bool} {d : Nat} {P : Option Vl → Mm → Prop} {σ : Mm} {i f z : Int} (b_i : 0 ≤ i ∧ i ≤ 6) (b_f : 0 ≤ f ∧ f ≤ 121) (b_z : -2147483648 ≤ z ∧ z ≤ 121)  (k : P none σ) : WT (false, false, eb) (d + 4) 134 [vR 2 0, vR 7 i, vI f, vI z] σ P := by
  refine WT_in fun K hK => ?_
  have hK : StpY (false, false, eb) cX5_foldPart RX5 (none) (WT (false, false, eb) (d + 3)) P K := hK
  have hM := hK.1
  have hC := hK.1.1
  show K 0 [some (vR 2 0), some (vR 7 i), some (vI f), some (vI z), none] [] σ
  refine r_aload_n hC dX5_foldPart_0 rfl ?_
  refine z_getR hM dX5_foldPart_1 fl_RX5_40 rfl rfl (vld_of (n := 1) rfl (by omega) (by omega)) ?_
  refine r_aload_n hC dX5_foldPart_4 rfl ?_
  refine z_getI (jz := 2) hM dX5_foldPart_5 fl_RX5_98 rfl rfl rfl (fun v1 h_v1 o_v1 t_v1 => ?_)
  clear t_v1
  have q_v1 : 0 ≤ v1 ∧ v1 ≤ 9 := o_v1.2.2 rfl
  refine z_inv1 hM dX5_foldPart_8 vl_RX5_251 rfl rfl rfl (Nat.le_of_ble_eq_true rfl) (Nat.le_of_ble_eq_true rfl) ?_
  refine qs_begin (by omega) ?_
  refine r_iload_n hC dX5_foldPart_11 rfl ?_
  refine r_istore hC dX5_foldPart_12 rfl ?_
  have L14 : ∀ (n14 : Nat) (w2 : Int), 0 ≤ w2 ∧ w2 ≤ 121 → 121 - w2 < (n14 : Int) → K 14 [some (vR 2 0), some (vR 7 i), some (vI f), some (vI z), some (vI w2)] [] σ := by
    intro n14
    induction n14 with
    | zero => intro w2  f_w2  hm  ; omega
    | succ n14 ih14 =>
      intro w2  f_w2  hm14  
      refine r_iload hC dX5_foldPart_14 rfl ?_
      refine r_iload_n hC dX5_foldPart_16 rfl ?_
      refine r_icmp_ge (tgt := 40) hC dX5_foldPart_17 rfl (fun h3 => ?_) (fun h3 => ?_)
      · refine y_vret hK rfl dX5_foldPart_40 ?_
        exact k
      · refine r_aload_n hC dX5_foldPart_20 rfl ?_
        refine z_getR hM dX5_foldPart_21 fl_RX5_40 rfl rfl (vld_of (n := 1) rfl (by omega) (by omega)) ?_
        refine r_aload_n hC dX5_foldPart_24 rfl ?_
        refine z_getR hM dX5_foldPart_25 fl_RX5_176 rfl rfl (vld_of (n := 7) rfl (by omega) (by omega)) ?_
        refine r_iload hC dX5_foldPart_28 rfl ?_
        refine z_iald hM dX5_foldPart_30 rfl (by omega) (by omega) (fun v4 h_v4 o_v4 t_v4 => ?_)
        clear t_v4
        have q_v4 : -1000 ≤ v4 ∧ v4 ≤ 1000 := o_v4
        refine z_inv1 hM dX5_foldPart_31 vl_RX5_253 rfl rfl rfl (Nat.le_of_ble_eq_true rfl) (Nat.le_of_ble_eq_true rfl) ?_
        refine qs_append (by omega) ?_
        refine r_iincE hC ((w2 + 1)) dX5_foldPart_34 rfl rfl (by omega) (by unfold inR; omega) ?_
        refine r_goto (tgt := 14) hC dX5_foldPart_37 rfl ?_
        exact ih14 ((w2 + 1))  (by omega)  (by omega)  
  exact L14 123 (f)  (by omega)  (by omega)  
theorem qs_comesTo {eb : Bool} {d : Nat} {P : Option Vl → Mm → Prop} {σ : Mm} {i f z w : Int} (b_i : 0 ≤ i ∧ i ≤ 6) (b_f : 0 ≤ f ∧ f ≤ 121) (b_z : -2147483648 ≤ z ∧ z ≤ 121)  (k : ∀ r : Int, -2147483648 ≤ r ∧ r ≤ 2147483647 → P (some (vI r)) σ) : WT (false, false, eb) (d + 5) 132 [vR 2 0, vR 7 i, vI f, vI z, vI w] σ P := by
  refine WT_in fun K hK => ?_
  have hK : StpY (false, false, eb) cX5_comesTo RX5 (some .int) (WT (false, false, eb) (d + 4)) P K := hK
  have hM := hK.1
  have hC := hK.1.1
  show K 0 [some (vR 2 0), some (vR 7 i), some (vI f), some (vI z), some (vI w)] [] σ
  refine r_rngz hC (fun g0 => ?_)
  have r_w : -2147483648 ≤ w ∧ w ≤ 2147483647 := inR_le (g0 (vI w) (by simp))
  refine r_aload_n hC dX5_comesTo_0 rfl ?_
  refine r_aload_n hC dX5_comesTo_1 rfl ?_
  refine r_iload_n hC dX5_comesTo_2 rfl ?_
  refine r_iload_n hC dX5_comesTo_3 rfl ?_
  refine z_inv3 hM dX5_comesTo_4 vl_RX5_259 rfl rfl rfl (Nat.le_of_ble_eq_true rfl) (Nat.le_of_ble_eq_true rfl) ?_
  refine qs_foldPart (by omega) (by omega) (by omega) ?_
  refine r_aload_n hC dX5_comesTo_7 rfl ?_
  refine z_getR hM dX5_comesTo_8 fl_RX5_40 rfl rfl (vld_of (n := 1) rfl (by omega) (by omega)) ?_
  refine r_iload hC dX5_comesTo_11 rfl ?_
  refine z_inv1 hM dX5_comesTo_13 vl_RX5_273 rfl rfl rfl (Nat.le_of_ble_eq_true rfl) (Nat.le_of_ble_eq_true rfl) ?_
  refine qs_number (fun v1 h_v1 => ?_)
  refine y_iret hK rfl dX5_comesTo_16 ?_
  exact k _ (by omega)
theorem qs_comesToWithout {eb : Bool} {d : Nat} {P : Option Vl → Mm → Prop} {σ : Mm} {i x w : Int} (b_i : 0 ≤ i ∧ i ≤ 6) (b_x : 0 ≤ x ∧ x ≤ 120)  (k : ∀ r : Int, -2147483648 ≤ r ∧ r ≤ 2147483647 → P (some (vI r)) σ) : WT (false, false, eb) (d + 5) 133 [vR 2 0, vR 7 i, vI x, vI w] σ P := by
  refine WT_in fun K hK => ?_
  have hK : StpY (false, false, eb) cX5_comesToWithout RX5 (some .int) (WT (false, false, eb) (d + 4)) P K := hK
  have hM := hK.1
  have hC := hK.1.1
  show K 0 [some (vR 2 0), some (vR 7 i), some (vI x), some (vI w), none] [] σ
  refine r_rngz hC (fun g0 => ?_)
  have r_w : -2147483648 ≤ w ∧ w ≤ 2147483647 := inR_le (g0 (vI w) (by simp))
  refine r_aload_n hC dX5_comesToWithout_0 rfl ?_
  refine r_aload_n hC dX5_comesToWithout_1 rfl ?_
  refine r_iconst hC dX5_comesToWithout_2 rfl ?_
  refine r_iload_n hC dX5_comesToWithout_3 rfl ?_
  refine z_inv3 hM dX5_comesToWithout_4 vl_RX5_259 rfl rfl rfl (Nat.le_of_ble_eq_true rfl) (Nat.le_of_ble_eq_true rfl) ?_
  refine qs_foldPart (by omega) (by omega) (by omega) ?_
  refine r_iload_n hC dX5_comesToWithout_7 rfl ?_
  refine r_iconst hC dX5_comesToWithout_8 rfl ?_
  refine r_iaddE hC ((x + 1)) dX5_comesToWithout_9 (by omega) (by unfold inR; omega) ?_
  refine r_istore hC dX5_comesToWithout_10 rfl ?_
  have L12 : ∀ (n12 : Nat) (w1 : Int), 1 ≤ w1 ∧ w1 ≤ 121 → 121 - w1 < (n12 : Int) → K 12 [some (vR 2 0), some (vR 7 i), some (vI x), some (vI w), some (vI w1)] [] σ := by
    intro n12
    induction n12 with
    | zero => intro w1  f_w1  hm  ; omega
    | succ n12 ih12 =>
      intro w1  f_w1  hm12  
      refine r_iload hC dX5_comesToWithout_12 rfl ?_
      refine r_aload_n hC dX5_comesToWithout_14 rfl ?_
      refine z_getI (jz := 6) hM dX5_comesToWithout_15 fl_RX5_154 rfl rfl rfl (fun v2 h_v2 o_v2 t_v2 => ?_)
      clear t_v2
      have q_v2 : 0 ≤ v2 ∧ v2 ≤ 121 := o_v2.1 rfl
      refine r_icmp_ge (tgt := 41) hC dX5_comesToWithout_18 rfl (fun h3 => ?_) (fun h3 => ?_)
      · refine r_aload_n hC dX5_comesToWithout_41 rfl ?_
        refine z_getR hM dX5_comesToWithout_42 fl_RX5_40 rfl rfl (vld_of (n := 1) rfl (by omega) (by omega)) ?_
        refine r_iload_n hC dX5_comesToWithout_45 rfl ?_
        refine z_inv1 hM dX5_comesToWithout_46 vl_RX5_273 rfl rfl rfl (Nat.le_of_ble_eq_true rfl) (Nat.le_of_ble_eq_true rfl) ?_
        refine qs_number (fun v4 h_v4 => ?_)
        refine y_iret hK rfl dX5_comesToWithout_49 ?_
        exact k _ (by omega)
      · refine r_aload_n hC dX5_comesToWithout_21 rfl ?_
        refine z_getR hM dX5_comesToWithout_22 fl_RX5_40 rfl rfl (vld_of (n := 1) rfl (by omega) (by omega)) ?_
        refine r_aload_n hC dX5_comesToWithout_25 rfl ?_
        refine z_getR hM dX5_comesToWithout_26 fl_RX5_176 rfl rfl (vld_of (n := 7) rfl (by omega) (by omega)) ?_
        refine r_iload hC dX5_comesToWithout_29 rfl ?_
        refine z_iald hM dX5_comesToWithout_31 rfl (by omega) (by omega) (fun v5 h_v5 o_v5 t_v5 => ?_)
        clear t_v5
        have q_v5 : -1000 ≤ v5 ∧ v5 ≤ 1000 := o_v5
        refine z_inv1 hM dX5_comesToWithout_32 vl_RX5_253 rfl rfl rfl (Nat.le_of_ble_eq_true rfl) (Nat.le_of_ble_eq_true rfl) ?_
        refine qs_append (by omega) ?_
        refine r_iincE hC ((w1 + 1)) dX5_comesToWithout_35 rfl rfl (by omega) (by unfold inR; omega) ?_
        refine r_goto (tgt := 12) hC dX5_comesToWithout_38 rfl ?_
        exact ih12 ((w1 + 1))  (by omega)  (by omega)  
  exact L12 122 ((x + 1))  (by omega)  (by omega)  
theorem qs_total {eb : Bool} {d : Nat} {P : Option Vl → Mm → Prop} {σ : Mm} {l w : Int}   (k : ∀ r : Int, -2147483648 ≤ r ∧ r ≤ 2147483647 → P (some (vI r)) σ) : WT (false, false, eb) (d + 6) 73 [vR 2 0, vI l, vI w] σ P := by
  refine WT_in fun K hK => ?_
  have hK : StpY (false, false, eb) cX5_total RX5 (some .int) (WT (false, false, eb) (d + 5)) P K := hK
  have hM := hK.1
  have hC := hK.1.1
  show K 0 [some (vR 2 0), some (vI l), some (vI w), none] [] σ
  refine r_rngz hC (fun g0 => ?_)
  have r_l : -2147483648 ≤ l ∧ l ≤ 2147483647 := inR_le (g0 (vI l) (by simp))
  have r_w : -2147483648 ≤ w ∧ w ≤ 2147483647 := inR_le (g0 (vI w) (by simp))
  refine r_aload_n hC dX5_total_0 rfl ?_
  refine r_iload_n hC dX5_total_1 rfl ?_
  refine r_iload_n hC dX5_total_2 rfl ?_
  refine z_inv2 hM dX5_total_3 vl_RX5_248 rfl rfl rfl (Nat.le_of_ble_eq_true rfl) (Nat.le_of_ble_eq_true rfl) ?_
  refine qs_laneWith ?_ (fun h1 => ?_)
  · refine r_astoreN_n hC dX5_total_6 rfl ?_
    refine r_aloadN_n hC dX5_total_7 rfl ?_
    refine r_ifnonnullN hC dX5_total_8 ?_
    refine r_ldc hC dX5_total_11 co_RX5_175 rfl ?_
    refine r_goto (tgt := 27) hC dX5_total_13 rfl ?_
    refine y_iret hK rfl dX5_total_27 ?_
    exact k _ (by omega)
  · refine r_astore_n hC dX5_total_6 rfl ?_
    refine r_aload_n hC dX5_total_7 rfl ?_
    refine r_ifnonnullR (tgt := 16) hC dX5_total_8 rfl ?_
    refine r_aload_n hC dX5_total_16 rfl ?_
    refine r_aload_n hC dX5_total_17 rfl ?_
    refine r_iconst hC dX5_total_18 rfl ?_
    refine r_aload_n hC dX5_total_19 rfl ?_
    refine z_getI (jz := 6) hM dX5_total_20 fl_RX5_154 rfl rfl rfl (fun v2 h_v2 o_v2 t_v2 => ?_)
    clear t_v2
    have q_v2 : 0 ≤ v2 ∧ v2 ≤ 121 := o_v2.1 rfl
    refine r_iload_n hC dX5_total_23 rfl ?_
    refine z_inv4 hM dX5_total_24 vl_RX5_227 rfl rfl rfl (Nat.le_of_ble_eq_true rfl) (Nat.le_of_ble_eq_true rfl) ?_
    refine qs_comesTo (by omega) (by omega) (by omega) (fun v3 h_v3 => ?_)
    refine y_iret hK rfl dX5_total_27 ?_
    exact k _ (by omega)
theorem qs_part {eb : Bool} {d : Nat} {P : Option Vl → Mm → Prop} {σ : Mm} {l f z w : Int}   (k : ∀ r : Int, -2147483648 ≤ r ∧ r ≤ 2147483647 → P (some (vI r)) σ) : WT (false, false, eb) (d + 6) 74 [vR 2 0, vI l, vI f, vI z, vI w] σ P := by
  refine WT_in fun K hK => ?_
  have hK : StpY (false, false, eb) cX5_part RX5 (some .int) (WT (false, false, eb) (d + 5)) P K := hK
  have hM := hK.1
  have hC := hK.1.1
  show K 0 [some (vR 2 0), some (vI l), some (vI f), some (vI z), some (vI w), none] [] σ
  refine r_rngz hC (fun g0 => ?_)
  have r_l : -2147483648 ≤ l ∧ l ≤ 2147483647 := inR_le (g0 (vI l) (by simp))
  have r_f : -2147483648 ≤ f ∧ f ≤ 2147483647 := inR_le (g0 (vI f) (by simp))
  have r_z : -2147483648 ≤ z ∧ z ≤ 2147483647 := inR_le (g0 (vI z) (by simp))
  have r_w : -2147483648 ≤ w ∧ w ≤ 2147483647 := inR_le (g0 (vI w) (by simp))
  refine r_aload_n hC dX5_part_0 rfl ?_
  refine r_iload_n hC dX5_part_1 rfl ?_
  refine r_iload hC dX5_part_2 rfl ?_
  refine z_inv2 hM dX5_part_4 vl_RX5_248 rfl rfl rfl (Nat.le_of_ble_eq_true rfl) (Nat.le_of_ble_eq_true rfl) ?_
  refine qs_laneWith ?_ (fun h1 => ?_)
  · refine r_astoreN hC dX5_part_7 rfl ?_
    refine r_aloadN hC dX5_part_9 rfl ?_
    refine r_ifnullN (tgt := 32) hC dX5_part_11 rfl ?_
    refine r_ldc hC dX5_part_32 co_RX5_175 rfl ?_
    refine y_iret hK rfl dX5_part_34 ?_
    exact k _ (by omega)
  · refine r_astore hC dX5_part_7 rfl ?_
    refine r_aload hC dX5_part_9 rfl ?_
    refine r_ifnullR hC dX5_part_11 ?_
    refine r_iload_n hC dX5_part_14 rfl ?_
    refine r_if_lt (tgt := 32) hC dX5_part_15 rfl (fun h2 => ?_) (fun h2 => ?_)
    · refine r_ldc hC dX5_part_32 co_RX5_175 rfl ?_
      refine y_iret hK rfl dX5_part_34 ?_
      exact k _ (by omega)
    · refine r_iload_n hC dX5_part_18 rfl ?_
      refine r_iload_n hC dX5_part_19 rfl ?_
      refine r_icmp_lt (tgt := 32) hC dX5_part_20 rfl (fun h3 => ?_) (fun h3 => ?_)
      · refine r_ldc hC dX5_part_32 co_RX5_175 rfl ?_
        refine y_iret hK rfl dX5_part_34 ?_
        exact k _ (by omega)
      · refine r_iload_n hC dX5_part_23 rfl ?_
        refine r_aload hC dX5_part_24 rfl ?_
        refine z_getI (jz := 6) hM dX5_part_26 fl_RX5_154 rfl rfl rfl (fun v4 h_v4 o_v4 t_v4 => ?_)
        clear t_v4
        have q_v4 : 0 ≤ v4 ∧ v4 ≤ 121 := o_v4.1 rfl
        refine r_icmp_lt (tgt := 35) hC dX5_part_29 rfl (fun h5 => ?_) (fun h5 => ?_)
        · refine r_aload_n hC dX5_part_35 rfl ?_
          refine r_aload hC dX5_part_36 rfl ?_
          refine r_iload_n hC dX5_part_38 rfl ?_
          refine r_iload_n hC dX5_part_39 rfl ?_
          refine r_iconst hC dX5_part_40 rfl ?_
          refine r_iaddE hC ((z + 1)) dX5_part_41 (by omega) (by unfold inR; omega) ?_
          refine r_iload hC dX5_part_42 rfl ?_
          refine z_inv4 hM dX5_part_44 vl_RX5_227 rfl rfl rfl (Nat.le_of_ble_eq_true rfl) (Nat.le_of_ble_eq_true rfl) ?_
          refine qs_comesTo (by omega) (by omega) (by omega) (fun v6 h_v6 => ?_)
          refine y_iret hK rfl dX5_part_47 ?_
          exact k _ (by omega)
        · refine r_ldc hC dX5_part_32 co_RX5_175 rfl ?_
          refine y_iret hK rfl dX5_part_34 ?_
          exact k _ (by omega)
theorem qs_during {eb : Bool} {d : Nat} {P : Option Vl → Mm → Prop} {σ : Mm} {l f z w : Int}   (k : ∀ r : Int, -2147483648 ≤ r ∧ r ≤ 2147483647 → P (some (vI r)) σ) : WT (false, false, eb) (d + 6) 75 [vR 2 0, vI l, vI f, vI z, vI w] σ P := by
  refine WT_in fun K hK => ?_
  have hK : StpY (false, false, eb) cX5_during RX5 (some .int) (WT (false, false, eb) (d + 5)) P K := hK
  have hM := hK.1
  have hC := hK.1.1
  show K 0 [some (vR 2 0), some (vI l), some (vI f), some (vI z), some (vI w), none] [] σ
  refine r_rngz hC (fun g0 => ?_)
  have r_l : -2147483648 ≤ l ∧ l ≤ 2147483647 := inR_le (g0 (vI l) (by simp))
  have r_f : -2147483648 ≤ f ∧ f ≤ 2147483647 := inR_le (g0 (vI f) (by simp))
  have r_z : -2147483648 ≤ z ∧ z ≤ 2147483647 := inR_le (g0 (vI z) (by simp))
  have r_w : -2147483648 ≤ w ∧ w ≤ 2147483647 := inR_le (g0 (vI w) (by simp))
  refine r_aload_n hC dX5_during_0 rfl ?_
  refine r_iload_n hC dX5_during_1 rfl ?_
  refine r_iload hC dX5_during_2 rfl ?_
  refine z_inv2 hM dX5_during_4 vl_RX5_248 rfl rfl rfl (Nat.le_of_ble_eq_true rfl) (Nat.le_of_ble_eq_true rfl) ?_
  refine qs_laneWith ?_ (fun h1 => ?_)
  · refine r_astoreN hC dX5_during_7 rfl ?_
    refine r_aloadN hC dX5_during_9 rfl ?_
    refine r_ifnonnullN hC dX5_during_11 ?_
    refine r_ldc hC dX5_during_14 co_RX5_175 rfl ?_
    refine r_goto (tgt := 43) hC dX5_during_16 rfl ?_
    refine y_iret hK rfl dX5_during_43 ?_
    exact k _ (by omega)
  · refine r_astore hC dX5_during_7 rfl ?_
    refine r_aload hC dX5_during_9 rfl ?_
    refine r_ifnonnullR (tgt := 19) hC dX5_during_11 rfl ?_
    refine r_aload_n hC dX5_during_19 rfl ?_
    refine r_aload hC dX5_during_20 rfl ?_
    refine r_aload hC dX5_during_22 rfl ?_
    refine r_iload_n hC dX5_during_24 rfl ?_
    refine r_i2l hC dX5_during_25 ?_
    refine r_lconst hC dX5_during_26 (a := 1) rfl ?_
    refine r_lsub hC dX5_during_27 ?_
    refine z_inv1 hM dX5_during_28 vl_RX5_167 rfl rfl rfl (Nat.le_of_ble_eq_true rfl) (Nat.le_of_ble_eq_true rfl) ?_
    refine qs_heldUntil (by omega) (fun v2 h_v2 => ?_)
    refine r_aload hC dX5_during_31 rfl ?_
    refine r_iload_n hC dX5_during_33 rfl ?_
    refine r_i2l hC dX5_during_34 ?_
    refine z_inv1 hM dX5_during_35 vl_RX5_167 rfl rfl rfl (Nat.le_of_ble_eq_true rfl) (Nat.le_of_ble_eq_true rfl) ?_
    refine qs_heldUntil (by omega) (fun v3 h_v3 => ?_)
    refine r_iload hC dX5_during_38 rfl ?_
    refine z_inv4 hM dX5_during_40 vl_RX5_227 rfl rfl rfl (Nat.le_of_ble_eq_true rfl) (Nat.le_of_ble_eq_true rfl) ?_
    refine qs_comesTo (by omega) (by omega) (by omega) (fun v4 h_v4 => ?_)
    refine y_iret hK rfl dX5_during_43 ?_
    exact k _ (by omega)
theorem qs_reach {eb : Bool} {d : Nat} {P : Option Vl → Mm → Prop} {σ : Mm} {l w b : Int}   (k : ∀ r : Int, -1 ≤ r ∧ r ≤ 121 → P (some (vI r)) σ) : WT (false, false, eb) (d + 5) 77 [vR 2 0, vI l, vI w, vI b] σ P := by
  refine WT_in fun K hK => ?_
  have hK : StpY (false, false, eb) cX5_reach RX5 (some .int) (WT (false, false, eb) (d + 4)) P K := hK
  have hM := hK.1
  have hC := hK.1.1
  show K 0 [some (vR 2 0), some (vI l), some (vI w), some (vI b), none, none] [] σ
  refine r_rngz hC (fun g0 => ?_)
  have r_l : -2147483648 ≤ l ∧ l ≤ 2147483647 := inR_le (g0 (vI l) (by simp))
  have r_w : -2147483648 ≤ w ∧ w ≤ 2147483647 := inR_le (g0 (vI w) (by simp))
  have r_b : -2147483648 ≤ b ∧ b ≤ 2147483647 := inR_le (g0 (vI b) (by simp))
  refine r_aload_n hC dX5_reach_0 rfl ?_
  refine r_iload_n hC dX5_reach_1 rfl ?_
  refine r_iload_n hC dX5_reach_2 rfl ?_
  refine z_inv2 hM dX5_reach_3 vl_RX5_248 rfl rfl rfl (Nat.le_of_ble_eq_true rfl) (Nat.le_of_ble_eq_true rfl) ?_
  refine qs_laneWith ?_ (fun h1 => ?_)
  · refine r_astoreN hC dX5_reach_6 rfl ?_
    refine r_aloadN hC dX5_reach_8 rfl ?_
    refine r_ifnonnullN hC dX5_reach_10 ?_
    refine r_iconst hC dX5_reach_13 rfl ?_
    refine y_iret hK rfl dX5_reach_14 ?_
    exact k _ (by omega)
  · refine r_astore hC dX5_reach_6 rfl ?_
    refine r_aload hC dX5_reach_8 rfl ?_
    refine r_ifnonnullR (tgt := 15) hC dX5_reach_10 rfl ?_
    refine r_aload_n hC dX5_reach_15 rfl ?_
    refine z_getR hM dX5_reach_16 fl_RX5_40 rfl rfl (vld_of (n := 1) rfl (by omega) (by omega)) ?_
    refine r_aload hC dX5_reach_19 rfl ?_
    refine z_getI (jz := 2) hM dX5_reach_21 fl_RX5_98 rfl rfl rfl (fun v2 h_v2 o_v2 t_v2 => ?_)
    clear t_v2
    have q_v2 : 0 ≤ v2 ∧ v2 ≤ 9 := o_v2.2.2 rfl
    refine z_inv1 hM dX5_reach_24 vl_RX5_251 rfl rfl rfl (Nat.le_of_ble_eq_true rfl) (Nat.le_of_ble_eq_true rfl) ?_
    refine qs_begin (by omega) ?_
    refine r_iconst hC dX5_reach_27 rfl ?_
    refine r_istore hC dX5_reach_28 rfl ?_
    have L30 : ∀ (n30 : Nat) (w3 : Int), 0 ≤ w3 ∧ w3 ≤ 121 → 121 - w3 < (n30 : Int) → K 30 [some (vR 2 0), some (vI l), some (vI w), some (vI b), some (vR 7 l), some (vI w3)] [] σ := by
      intro n30
      induction n30 with
      | zero => intro w3  f_w3  hm  ; omega
      | succ n30 ih30 =>
        intro w3  f_w3  hm30  
        refine r_iload hC dX5_reach_30 rfl ?_
        refine r_aload hC dX5_reach_32 rfl ?_
        refine z_getI (jz := 6) hM dX5_reach_34 fl_RX5_154 rfl rfl rfl (fun v4 h_v4 o_v4 t_v4 => ?_)
        clear t_v4
        have q_v4 : 0 ≤ v4 ∧ v4 ≤ 121 := o_v4.1 rfl
        refine r_icmp_ge (tgt := 78) hC dX5_reach_37 rfl (fun h5 => ?_) (fun h5 => ?_)
        · refine r_iconst hC dX5_reach_78 rfl ?_
          refine y_iret hK rfl dX5_reach_79 ?_
          exact k _ (by omega)
        · refine r_aload_n hC dX5_reach_40 rfl ?_
          refine z_getR hM dX5_reach_41 fl_RX5_40 rfl rfl (vld_of (n := 1) rfl (by omega) (by omega)) ?_
          refine r_aload hC dX5_reach_44 rfl ?_
          refine z_getR hM dX5_reach_46 fl_RX5_176 rfl rfl (vld_of (n := 7) rfl (by omega) (by omega)) ?_
          refine r_iload hC dX5_reach_49 rfl ?_
          refine z_iald hM dX5_reach_51 rfl (by omega) (by omega) (fun v6 h_v6 o_v6 t_v6 => ?_)
          clear t_v6
          have q_v6 : -1000 ≤ v6 ∧ v6 ≤ 1000 := o_v6
          refine z_inv1 hM dX5_reach_52 vl_RX5_253 rfl rfl rfl (Nat.le_of_ble_eq_true rfl) (Nat.le_of_ble_eq_true rfl) ?_
          refine qs_append (by omega) ?_
          refine r_aload_n hC dX5_reach_55 rfl ?_
          refine z_getR hM dX5_reach_56 fl_RX5_40 rfl rfl (vld_of (n := 1) rfl (by omega) (by omega)) ?_
          refine r_iload_n hC dX5_reach_59 rfl ?_
          refine r_iload_n hC dX5_reach_60 rfl ?_
          refine z_inv2 hM dX5_reach_61 vl_RX5_256 rfl rfl rfl (Nat.le_of_ble_eq_true rfl) (Nat.le_of_ble_eq_true rfl) ?_
          refine qs_reaches (fun v7 h_v7 => ?_)
          refine r_if_eq (tgt := 72) hC dX5_reach_64 rfl (fun h8 => ?_) (fun h8 => ?_)
          · refine r_iincE hC ((w3 + 1)) dX5_reach_72 rfl rfl (by omega) (by unfold inR; omega) ?_
            refine r_goto (tgt := 30) hC dX5_reach_75 rfl ?_
            exact ih30 ((w3 + 1))  (by omega)  (by omega)  
          · refine r_iload hC dX5_reach_67 rfl ?_
            refine r_iconst hC dX5_reach_69 rfl ?_
            refine r_iaddE hC ((w3 + 1)) dX5_reach_70 (by omega) (by unfold inR; omega) ?_
            refine y_iret hK rfl dX5_reach_71 ?_
            exact k _ (by omega)
    exact L30 123 (0)  (by omega)  (by omega)  
theorem qs_peakAt {eb : Bool} {d : Nat} {P : Option Vl → Mm → Prop} {σ : Mm} {l m w : Int}   (k0 : P (some (vI (-1))) σ) (k1 : ∀ r : Int, 0 ≤ l ∧ l ≤ 3 ∧ 1 ≤ m ∧ 0 ≤ r ∧ r + m ≤ 121 → P (some (vI r)) σ) : WT (false, false, eb) (d + 6) 80 [vR 2 0, vI l, vI m, vI w] σ P := by
  refine WT_in fun K hK => ?_
  have hK : StpY (false, false, eb) cX5_peakAt RX5 (some .int) (WT (false, false, eb) (d + 5)) P K := hK
  have hM := hK.1
  have hC := hK.1.1
  show K 0 [some (vR 2 0), some (vI l), some (vI m), some (vI w), none, none, none, none, none] [] σ
  refine r_rngz hC (fun g0 => ?_)
  have r_l : -2147483648 ≤ l ∧ l ≤ 2147483647 := inR_le (g0 (vI l) (by simp))
  have r_m : -2147483648 ≤ m ∧ m ≤ 2147483647 := inR_le (g0 (vI m) (by simp))
  have r_w : -2147483648 ≤ w ∧ w ≤ 2147483647 := inR_le (g0 (vI w) (by simp))
  refine r_aload_n hC dX5_peakAt_0 rfl ?_
  refine r_iload_n hC dX5_peakAt_1 rfl ?_
  refine r_iload_n hC dX5_peakAt_2 rfl ?_
  refine z_inv2 hM dX5_peakAt_3 vl_RX5_248 rfl rfl rfl (Nat.le_of_ble_eq_true rfl) (Nat.le_of_ble_eq_true rfl) ?_
  refine qs_laneWith ?_ (fun h1 => ?_)
  · refine r_astoreN hC dX5_peakAt_6 rfl ?_
    refine r_aloadN hC dX5_peakAt_8 rfl ?_
    refine r_ifnullN (tgt := 26) hC dX5_peakAt_10 rfl ?_
    refine r_iconst hC dX5_peakAt_26 rfl ?_
    refine y_iret hK rfl dX5_peakAt_27 ?_
    exact k0
  · refine r_astore hC dX5_peakAt_6 rfl ?_
    refine r_aload hC dX5_peakAt_8 rfl ?_
    refine r_ifnullR hC dX5_peakAt_10 ?_
    refine r_iload_n hC dX5_peakAt_13 rfl ?_
    refine r_iconst hC dX5_peakAt_14 rfl ?_
    refine r_aload hC dX5_peakAt_15 rfl ?_
    refine z_getI (jz := 6) hM dX5_peakAt_17 fl_RX5_154 rfl rfl rfl (fun v2 h_v2 o_v2 t_v2 => ?_)
    clear t_v2
    have q_v2 : 0 ≤ v2 ∧ v2 ≤ 121 := o_v2.1 rfl
    refine z_ins3 hM dX5_peakAt_20 tl_RX5_59 rfl (Nat.le_of_ble_eq_true rfl) (Nat.le_of_ble_eq_true rfl) ?_
    refine qs_within (fun h4 => ?_) (fun h4 => ?_)
    · refine r_if_ne (tgt := 28) hC dX5_peakAt_23 rfl (fun h5 => ?_) (fun h5 => by omega)
      refine r_iconst hC dX5_peakAt_28 rfl ?_
      refine r_istore hC dX5_peakAt_29 rfl ?_
      refine r_ldc hC dX5_peakAt_31 co_RX5_175 rfl ?_
      refine r_istore hC dX5_peakAt_33 rfl ?_
      refine r_iconst hC dX5_peakAt_35 rfl ?_
      refine r_istore hC dX5_peakAt_36 rfl ?_
      have L38 : ∀ (n38 : Nat) (w6 w7 w8 : Int), 0 ≤ w6 ∧ w6 ≤ 121 → -2147483648 ≤ w7 ∧ w7 ≤ 2147483647 → 0 ≤ w8 ∧ w8 ≤ 120 → ((w8) + m ≤ 121) → 121 - w6 < (n38 : Int) → K 38 [some (vR 2 0), some (vI l), some (vI m), some (vI w), some (vR 7 l), some (vI w8), some (vI w7), some (vI w6), none] [] σ := by
        intro n38
        induction n38 with
        | zero => intro w6 w7 w8  f_w6 f_w7 f_w8 i0_38 hm  ; omega
        | succ n38 ih38 =>
          intro w6 w7 w8  f_w6 f_w7 f_w8 i0_38 hm38  
          refine r_iload hC dX5_peakAt_38 rfl ?_
          refine r_iload_n hC dX5_peakAt_40 rfl ?_
          refine r_iaddE hC ((w6 + m)) dX5_peakAt_41 (by omega) (by unfold inR; omega) ?_
          refine r_aload hC dX5_peakAt_42 rfl ?_
          refine z_getI (jz := 6) hM dX5_peakAt_44 fl_RX5_154 rfl rfl rfl (fun v9 h_v9 o_v9 t_v9 => ?_)
          clear t_v9
          have q_v9 : 0 ≤ v9 ∧ v9 ≤ 121 := o_v9.1 rfl
          refine r_icmp_gt (tgt := 86) hC dX5_peakAt_47 rfl (fun h10 => ?_) (fun h10 => ?_)
          · refine r_iload hC dX5_peakAt_86 rfl ?_
            refine y_iret hK rfl dX5_peakAt_88 ?_
            exact k1 _ (by omega)
          · refine r_aload_n hC dX5_peakAt_50 rfl ?_
            refine r_aload hC dX5_peakAt_51 rfl ?_
            refine r_iload hC dX5_peakAt_53 rfl ?_
            refine r_iload hC dX5_peakAt_55 rfl ?_
            refine r_iload_n hC dX5_peakAt_57 rfl ?_
            refine r_iaddE hC ((w6 + m)) dX5_peakAt_58 (by omega) (by unfold inR; omega) ?_
            refine r_iload_n hC dX5_peakAt_59 rfl ?_
            refine z_inv4 hM dX5_peakAt_60 vl_RX5_227 rfl rfl rfl (Nat.le_of_ble_eq_true rfl) (Nat.le_of_ble_eq_true rfl) ?_
            refine qs_comesTo (by omega) (by omega) (by omega) (fun v11 h_v11 => ?_)
            refine r_istore hC dX5_peakAt_63 rfl ?_
            refine r_iload hC dX5_peakAt_65 rfl ?_
            refine r_iload hC dX5_peakAt_67 rfl ?_
            refine r_icmp_le (tgt := 80) hC dX5_peakAt_69 rfl (fun h12 => ?_) (fun h12 => ?_)
            · refine r_iincE hC ((w6 + 1)) dX5_peakAt_80 rfl rfl (by omega) (by unfold inR; omega) ?_
              refine r_goto (tgt := 38) hC dX5_peakAt_83 rfl ?_
              refine r_forget hC (ls2 := [some (vR 2 0), some (vI l), some (vI m), some (vI w), some (vR 7 l), some (vI w8), some (vI w7), some (vI (w6 + 1)), none]) (lsub_some (lsub_some (lsub_some (lsub_some (lsub_some (lsub_some (lsub_some (lsub_some (lsub_none lsub_nil))))))))) ?_
              exact ih38 ((w6 + 1)) (w7) (w8)  (by omega) (by omega) (by omega) (by omega) (by omega)  
            · refine r_iload hC dX5_peakAt_72 rfl ?_
              refine r_istore hC dX5_peakAt_74 rfl ?_
              refine r_iload hC dX5_peakAt_76 rfl ?_
              refine r_istore hC dX5_peakAt_78 rfl ?_
              refine r_iincE hC ((w6 + 1)) dX5_peakAt_80 rfl rfl (by omega) (by unfold inR; omega) ?_
              show K _ [_, _, _, _, _, _, _, _, _] _ _
              refine r_goto (tgt := 38) hC dX5_peakAt_83 rfl ?_
              refine r_forget hC (ls2 := [some (vR 2 0), some (vI l), some (vI m), some (vI w), some (vR 7 l), some (vI w6), some (vI v11), some (vI (w6 + 1)), none]) (lsub_some (lsub_some (lsub_some (lsub_some (lsub_some (lsub_some (lsub_some (lsub_some (lsub_none lsub_nil))))))))) ?_
              exact ih38 ((w6 + 1)) (v11) (w6)  (by omega) (by omega) (by omega) (by omega) (by omega)  
      exact L38 123 (0) ((-2147483648)) (0)  (by omega) (by omega) (by omega) (by omega) (by omega)  
    · refine r_if_ne (tgt := 28) hC dX5_peakAt_23 rfl (fun h13 => by omega) (fun h13 => ?_)
      refine r_iconst hC dX5_peakAt_26 rfl ?_
      refine y_iret hK rfl dX5_peakAt_27 ?_
      exact k0
theorem qs_peak {eb : Bool} {d : Nat} {P : Option Vl → Mm → Prop} {σ : Mm} {l m w : Int}   (k : ∀ r : Int, -2147483648 ≤ r ∧ r ≤ 2147483647 → P (some (vI r)) σ) : WT (false, false, eb) (d + 7) 79 [vR 2 0, vI l, vI m, vI w] σ P := by
  refine WT_in fun K hK => ?_
  have hK : StpY (false, false, eb) cX5_peak RX5 (some .int) (WT (false, false, eb) (d + 6)) P K := hK
  have hM := hK.1
  have hC := hK.1.1
  show K 0 [some (vR 2 0), some (vI l), some (vI m), some (vI w), none] [] σ
  refine r_rngz hC (fun g0 => ?_)
  have r_l : -2147483648 ≤ l ∧ l ≤ 2147483647 := inR_le (g0 (vI l) (by simp))
  have r_m : -2147483648 ≤ m ∧ m ≤ 2147483647 := inR_le (g0 (vI m) (by simp))
  have r_w : -2147483648 ≤ w ∧ w ≤ 2147483647 := inR_le (g0 (vI w) (by simp))
  refine r_aload_n hC dX5_peak_0 rfl ?_
  refine r_iload_n hC dX5_peak_1 rfl ?_
  refine r_iload_n hC dX5_peak_2 rfl ?_
  refine r_iload_n hC dX5_peak_3 rfl ?_
  refine z_inv3 hM dX5_peak_4 vl_RX5_262 rfl rfl rfl (Nat.le_of_ble_eq_true rfl) (Nat.le_of_ble_eq_true rfl) ?_
  refine qs_peakAt ?_ (fun v1 h_v1 => ?_)
  · refine r_istore hC dX5_peak_7 rfl ?_
    refine r_iload hC dX5_peak_9 rfl ?_
    refine r_iconst hC dX5_peak_11 rfl ?_
    refine r_icmp_ne (tgt := 20) hC dX5_peak_12 rfl (fun h2 => by omega) (fun h2 => ?_)
    refine r_ldc hC dX5_peak_15 co_RX5_175 rfl ?_
    refine r_goto (tgt := 37) hC dX5_peak_17 rfl ?_
    refine y_iret hK rfl dX5_peak_37 ?_
    exact k _ (by omega)
  · refine r_istore hC dX5_peak_7 rfl ?_
    refine r_iload hC dX5_peak_9 rfl ?_
    refine r_iconst hC dX5_peak_11 rfl ?_
    refine r_icmp_ne (tgt := 20) hC dX5_peak_12 rfl (fun h3 => ?_) (fun h3 => by omega)
    refine r_aload_n hC dX5_peak_20 rfl ?_
    refine r_aload_n hC dX5_peak_21 rfl ?_
    refine z_getR hM dX5_peak_22 fl_RX5_13 rfl rfl (vld_of (n := 1) rfl (by omega) (by omega)) ?_
    refine r_iload_n hC dX5_peak_25 rfl ?_
    refine z_aald hM dX5_peak_26 rfl (by decide) (by omega) (by omega) (vld_of (n := 7) rfl (by omega) (by omega)) ?_
    refine r_iload hC dX5_peak_27 rfl ?_
    refine r_iload hC dX5_peak_29 rfl ?_
    refine r_iload_n hC dX5_peak_31 rfl ?_
    refine r_iaddE hC ((v1 + m)) dX5_peak_32 (by omega) (by unfold inR; omega) ?_
    refine r_iload_n hC dX5_peak_33 rfl ?_
    refine z_inv4 hM dX5_peak_34 vl_RX5_227 rfl rfl rfl (Nat.le_of_ble_eq_true rfl) (Nat.le_of_ble_eq_true rfl) ?_
    refine qs_comesTo (by omega) (by omega) (by omega) (fun v4 h_v4 => ?_)
    refine y_iret hK rfl dX5_peak_37 ?_
    exact k _ (by omega)
theorem qs_peakAtR {eb : Bool} {d : Nat} {P : Option Vl → Mm → Prop} {σ : Mm} {l m w : Int}   (k : ∀ r : Int, -1 ≤ r ∧ r ≤ 120 → P (some (vI r)) σ) : WT (false, false, eb) (d + 6) 80 [vR 2 0, vI l, vI m, vI w] σ P := by
  refine WT_in fun K hK => ?_
  have hK : StpY (false, false, eb) cX5_peakAt RX5 (some .int) (WT (false, false, eb) (d + 5)) P K := hK
  have hM := hK.1
  have hC := hK.1.1
  show K 0 [some (vR 2 0), some (vI l), some (vI m), some (vI w), none, none, none, none, none] [] σ
  refine r_rngz hC (fun g0 => ?_)
  have r_l : -2147483648 ≤ l ∧ l ≤ 2147483647 := inR_le (g0 (vI l) (by simp))
  have r_m : -2147483648 ≤ m ∧ m ≤ 2147483647 := inR_le (g0 (vI m) (by simp))
  have r_w : -2147483648 ≤ w ∧ w ≤ 2147483647 := inR_le (g0 (vI w) (by simp))
  refine r_aload_n hC dX5_peakAt_0 rfl ?_
  refine r_iload_n hC dX5_peakAt_1 rfl ?_
  refine r_iload_n hC dX5_peakAt_2 rfl ?_
  refine z_inv2 hM dX5_peakAt_3 vl_RX5_248 rfl rfl rfl (Nat.le_of_ble_eq_true rfl) (Nat.le_of_ble_eq_true rfl) ?_
  refine qs_laneWith ?_ (fun h1 => ?_)
  · refine r_astoreN hC dX5_peakAt_6 rfl ?_
    refine r_aloadN hC dX5_peakAt_8 rfl ?_
    refine r_ifnullN (tgt := 26) hC dX5_peakAt_10 rfl ?_
    refine r_iconst hC dX5_peakAt_26 rfl ?_
    refine y_iret hK rfl dX5_peakAt_27 ?_
    exact k _ (by omega)
  · refine r_astore hC dX5_peakAt_6 rfl ?_
    refine r_aload hC dX5_peakAt_8 rfl ?_
    refine r_ifnullR hC dX5_peakAt_10 ?_
    refine r_iload_n hC dX5_peakAt_13 rfl ?_
    refine r_iconst hC dX5_peakAt_14 rfl ?_
    refine r_aload hC dX5_peakAt_15 rfl ?_
    refine z_getI (jz := 6) hM dX5_peakAt_17 fl_RX5_154 rfl rfl rfl (fun v2 h_v2 o_v2 t_v2 => ?_)
    clear t_v2
    have q_v2 : 0 ≤ v2 ∧ v2 ≤ 121 := o_v2.1 rfl
    refine z_ins3 hM dX5_peakAt_20 tl_RX5_59 rfl (Nat.le_of_ble_eq_true rfl) (Nat.le_of_ble_eq_true rfl) ?_
    refine qs_within (fun h4 => ?_) (fun h4 => ?_)
    · refine r_if_ne (tgt := 28) hC dX5_peakAt_23 rfl (fun h5 => ?_) (fun h5 => by omega)
      refine r_iconst hC dX5_peakAt_28 rfl ?_
      refine r_istore hC dX5_peakAt_29 rfl ?_
      refine r_ldc hC dX5_peakAt_31 co_RX5_175 rfl ?_
      refine r_istore hC dX5_peakAt_33 rfl ?_
      refine r_iconst hC dX5_peakAt_35 rfl ?_
      refine r_istore hC dX5_peakAt_36 rfl ?_
      have L38 : ∀ (n38 : Nat) (w6 w7 w8 : Int), 0 ≤ w6 ∧ w6 ≤ 121 → -2147483648 ≤ w7 ∧ w7 ≤ 2147483647 → 0 ≤ w8 ∧ w8 ≤ 120 → ((w8) + m ≤ 121) → 121 - w6 < (n38 : Int) → K 38 [some (vR 2 0), some (vI l), some (vI m), some (vI w), some (vR 7 l), some (vI w8), some (vI w7), some (vI w6), none] [] σ := by
        intro n38
        induction n38 with
        | zero => intro w6 w7 w8  f_w6 f_w7 f_w8 i0_38 hm  ; omega
        | succ n38 ih38 =>
          intro w6 w7 w8  f_w6 f_w7 f_w8 i0_38 hm38  
          refine r_iload hC dX5_peakAt_38 rfl ?_
          refine r_iload_n hC dX5_peakAt_40 rfl ?_
          refine r_iaddE hC ((w6 + m)) dX5_peakAt_41 (by omega) (by unfold inR; omega) ?_
          refine r_aload hC dX5_peakAt_42 rfl ?_
          refine z_getI (jz := 6) hM dX5_peakAt_44 fl_RX5_154 rfl rfl rfl (fun v9 h_v9 o_v9 t_v9 => ?_)
          clear t_v9
          have q_v9 : 0 ≤ v9 ∧ v9 ≤ 121 := o_v9.1 rfl
          refine r_icmp_gt (tgt := 86) hC dX5_peakAt_47 rfl (fun h10 => ?_) (fun h10 => ?_)
          · refine r_iload hC dX5_peakAt_86 rfl ?_
            refine y_iret hK rfl dX5_peakAt_88 ?_
            exact k _ (by omega)
          · refine r_aload_n hC dX5_peakAt_50 rfl ?_
            refine r_aload hC dX5_peakAt_51 rfl ?_
            refine r_iload hC dX5_peakAt_53 rfl ?_
            refine r_iload hC dX5_peakAt_55 rfl ?_
            refine r_iload_n hC dX5_peakAt_57 rfl ?_
            refine r_iaddE hC ((w6 + m)) dX5_peakAt_58 (by omega) (by unfold inR; omega) ?_
            refine r_iload_n hC dX5_peakAt_59 rfl ?_
            refine z_inv4 hM dX5_peakAt_60 vl_RX5_227 rfl rfl rfl (Nat.le_of_ble_eq_true rfl) (Nat.le_of_ble_eq_true rfl) ?_
            refine qs_comesTo (by omega) (by omega) (by omega) (fun v11 h_v11 => ?_)
            refine r_istore hC dX5_peakAt_63 rfl ?_
            refine r_iload hC dX5_peakAt_65 rfl ?_
            refine r_iload hC dX5_peakAt_67 rfl ?_
            refine r_icmp_le (tgt := 80) hC dX5_peakAt_69 rfl (fun h12 => ?_) (fun h12 => ?_)
            · refine r_iincE hC ((w6 + 1)) dX5_peakAt_80 rfl rfl (by omega) (by unfold inR; omega) ?_
              refine r_goto (tgt := 38) hC dX5_peakAt_83 rfl ?_
              refine r_forget hC (ls2 := [some (vR 2 0), some (vI l), some (vI m), some (vI w), some (vR 7 l), some (vI w8), some (vI w7), some (vI (w6 + 1)), none]) (lsub_some (lsub_some (lsub_some (lsub_some (lsub_some (lsub_some (lsub_some (lsub_some (lsub_none lsub_nil))))))))) ?_
              exact ih38 ((w6 + 1)) (w7) (w8)  (by omega) (by omega) (by omega) (by omega) (by omega)  
            · refine r_iload hC dX5_peakAt_72 rfl ?_
              refine r_istore hC dX5_peakAt_74 rfl ?_
              refine r_iload hC dX5_peakAt_76 rfl ?_
              refine r_istore hC dX5_peakAt_78 rfl ?_
              refine r_iincE hC ((w6 + 1)) dX5_peakAt_80 rfl rfl (by omega) (by unfold inR; omega) ?_
              show K _ [_, _, _, _, _, _, _, _, _] _ _
              refine r_goto (tgt := 38) hC dX5_peakAt_83 rfl ?_
              refine r_forget hC (ls2 := [some (vR 2 0), some (vI l), some (vI m), some (vI w), some (vR 7 l), some (vI w6), some (vI v11), some (vI (w6 + 1)), none]) (lsub_some (lsub_some (lsub_some (lsub_some (lsub_some (lsub_some (lsub_some (lsub_some (lsub_none lsub_nil))))))))) ?_
              exact ih38 ((w6 + 1)) (v11) (w6)  (by omega) (by omega) (by omega) (by omega) (by omega)  
      exact L38 123 (0) ((-2147483648)) (0)  (by omega) (by omega) (by omega) (by omega) (by omega)  
    · refine r_if_ne (tgt := 28) hC dX5_peakAt_23 rfl (fun h13 => by omega) (fun h13 => ?_)
      refine r_iconst hC dX5_peakAt_26 rfl ?_
      refine y_iret hK rfl dX5_peakAt_27 ?_
      exact k _ (by omega)
theorem qs_without {eb : Bool} {d : Nat} {P : Option Vl → Mm → Prop} {σ : Mm} {l x w : Int}   (k : ∀ r : Int, -2147483648 ≤ r ∧ r ≤ 2147483647 → P (some (vI r)) σ) : WT (false, false, eb) (d + 6) 81 [vR 2 0, vI l, vI x, vI w] σ P := by
  refine WT_in fun K hK => ?_
  have hK : StpY (false, false, eb) cX5_without RX5 (some .int) (WT (false, false, eb) (d + 5)) P K := hK
  have hM := hK.1
  have hC := hK.1.1
  show K 0 [some (vR 2 0), some (vI l), some (vI x), some (vI w), none] [] σ
  refine r_rngz hC (fun g0 => ?_)
  have r_l : -2147483648 ≤ l ∧ l ≤ 2147483647 := inR_le (g0 (vI l) (by simp))
  have r_x : -2147483648 ≤ x ∧ x ≤ 2147483647 := inR_le (g0 (vI x) (by simp))
  have r_w : -2147483648 ≤ w ∧ w ≤ 2147483647 := inR_le (g0 (vI w) (by simp))
  refine r_aload_n hC dX5_without_0 rfl ?_
  refine r_iload_n hC dX5_without_1 rfl ?_
  refine r_iload_n hC dX5_without_2 rfl ?_
  refine z_inv2 hM dX5_without_3 vl_RX5_171 rfl rfl rfl (Nat.le_of_ble_eq_true rfl) (Nat.le_of_ble_eq_true rfl) ?_
  refine qs_laneHolding ?_ (fun h1 x_h1 => ?_)
  · refine r_astoreN hC dX5_without_6 rfl ?_
    refine r_aloadN hC dX5_without_8 rfl ?_
    refine r_ifnullN (tgt := 22) hC dX5_without_10 rfl ?_
    refine r_ldc hC dX5_without_22 co_RX5_175 rfl ?_
    refine r_goto (tgt := 35) hC dX5_without_24 rfl ?_
    refine y_iret hK rfl dX5_without_35 ?_
    exact k _ (by omega)
  · refine r_astore hC dX5_without_6 rfl ?_
    refine r_aload hC dX5_without_8 rfl ?_
    refine r_ifnullR hC dX5_without_10 ?_
    refine r_aload hC dX5_without_13 rfl ?_
    refine r_iload_n hC dX5_without_15 rfl ?_
    refine z_inv1 hM dX5_without_16 vl_RX5_266 rfl rfl rfl (Nat.le_of_ble_eq_true rfl) (Nat.le_of_ble_eq_true rfl) ?_
    refine qs_hasNumber (by omega) (fun v2 h_v2 => ?_)
    have J35_4 : ∀ (w4 : Int), -2147483648 ≤ w4 ∧ w4 ≤ 2147483647 → K 35 [some (vR 2 0), some (vI l), some (vI x), some (vI w), some (vR 7 l)] [vI w4] σ := by
      intro w4  f_w4 
      refine y_iret hK rfl dX5_without_35 ?_
      exact k _ (by omega)
    refine r_if_ne (tgt := 27) hC dX5_without_19 rfl (fun h3 => ?_) (fun h3 => ?_)
    · refine r_aload_n hC dX5_without_27 rfl ?_
      refine r_aload hC dX5_without_28 rfl ?_
      refine r_iload_n hC dX5_without_30 rfl ?_
      refine r_iload_n hC dX5_without_31 rfl ?_
      refine z_inv3 hM dX5_without_32 vl_RX5_269 rfl rfl rfl (Nat.le_of_ble_eq_true rfl) (Nat.le_of_ble_eq_true rfl) ?_
      refine qs_comesToWithout (by omega) (by omega) (fun v6 h_v6 => ?_)
      exact J35_4 (v6)  (by omega) 
    · refine r_ldc hC dX5_without_22 co_RX5_175 rfl ?_
      refine r_goto (tgt := 35) hC dX5_without_24 rfl ?_
      exact J35_4 ((-2147483648))  (by omega) 
theorem qs_spare {eb : Bool} {d : Nat} {P : Option Vl → Mm → Prop} {σ : Mm} {l w : Int}   (k : ∀ r : Int, -1 ≤ r ∧ r ≤ 120 → P (some (vI r)) σ) : WT (false, false, eb) (d + 6) 82 [vR 2 0, vI l, vI w] σ P := by
  refine WT_in fun K hK => ?_
  have hK : StpY (false, false, eb) cX5_spare RX5 (some .int) (WT (false, false, eb) (d + 5)) P K := hK
  have hM := hK.1
  have hC := hK.1.1
  show K 0 [some (vR 2 0), some (vI l), some (vI w), none, none, none, none, none] [] σ
  refine r_rngz hC (fun g0 => ?_)
  have r_l : -2147483648 ≤ l ∧ l ≤ 2147483647 := inR_le (g0 (vI l) (by simp))
  have r_w : -2147483648 ≤ w ∧ w ≤ 2147483647 := inR_le (g0 (vI w) (by simp))
  refine r_aload_n hC dX5_spare_0 rfl ?_
  refine r_iload_n hC dX5_spare_1 rfl ?_
  refine r_iload_n hC dX5_spare_2 rfl ?_
  refine z_inv2 hM dX5_spare_3 vl_RX5_248 rfl rfl rfl (Nat.le_of_ble_eq_true rfl) (Nat.le_of_ble_eq_true rfl) ?_
  refine qs_laneWith ?_ (fun h1 => ?_)
  · refine r_astoreN_n hC dX5_spare_6 rfl ?_
    refine r_aloadN_n hC dX5_spare_7 rfl ?_
    refine r_ifnullN (tgt := 19) hC dX5_spare_8 rfl ?_
    refine r_iconst hC dX5_spare_19 rfl ?_
    refine y_iret hK rfl dX5_spare_20 ?_
    exact k _ (by omega)
  · refine r_astore_n hC dX5_spare_6 rfl ?_
    refine r_aload_n hC dX5_spare_7 rfl ?_
    refine r_ifnullR hC dX5_spare_8 ?_
    refine r_aload_n hC dX5_spare_11 rfl ?_
    refine z_getI (jz := 6) hM dX5_spare_12 fl_RX5_154 rfl rfl rfl (fun v2 h_v2 o_v2 t_v2 => ?_)
    clear t_v2
    have q_v2 : 0 ≤ v2 ∧ v2 ≤ 121 := o_v2.1 rfl
    refine r_iconst hC dX5_spare_15 rfl ?_
    refine r_icmp_ge (tgt := 21) hC dX5_spare_16 rfl (fun h3 => ?_) (fun h3 => ?_)
    · refine r_iconst hC dX5_spare_21 rfl ?_
      refine r_istore hC dX5_spare_22 rfl ?_
      refine r_ldc hC dX5_spare_24 co_RX5_175 rfl ?_
      refine r_istore hC dX5_spare_26 rfl ?_
      refine r_iconst hC dX5_spare_28 rfl ?_
      refine r_istore hC dX5_spare_29 rfl ?_
      have L31 : ∀ (n31 : Nat) (w4 w5 w6 : Int), -2147483648 ≤ w4 ∧ w4 ≤ 2147483647 → 0 ≤ w5 ∧ w5 ≤ 121 → 0 ≤ w6 ∧ w6 ≤ 120 → 121 - w5 < (n31 : Int) → K 31 [some (vR 2 0), some (vI l), some (vI w), some (vR 7 l), some (vI w6), some (vI w4), some (vI w5), none] [] σ := by
        intro n31
        induction n31 with
        | zero => intro w4 w5 w6  f_w4 f_w5 f_w6  hm  ; omega
        | succ n31 ih31 =>
          intro w4 w5 w6  f_w4 f_w5 f_w6  hm31  
          refine r_iload hC dX5_spare_31 rfl ?_
          refine r_aload_n hC dX5_spare_33 rfl ?_
          refine z_getI (jz := 6) hM dX5_spare_34 fl_RX5_154 rfl rfl rfl (fun v7 h_v7 o_v7 t_v7 => ?_)
          clear t_v7
          have q_v7 : 0 ≤ v7 ∧ v7 ≤ 121 := o_v7.1 rfl
          refine r_icmp_ge (tgt := 71) hC dX5_spare_37 rfl (fun h8 => ?_) (fun h8 => ?_)
          · refine r_iload hC dX5_spare_71 rfl ?_
            refine y_iret hK rfl dX5_spare_73 ?_
            exact k _ (by omega)
          · refine r_aload_n hC dX5_spare_40 rfl ?_
            refine r_aload_n hC dX5_spare_41 rfl ?_
            refine r_iload hC dX5_spare_42 rfl ?_
            refine r_iload_n hC dX5_spare_44 rfl ?_
            refine z_inv3 hM dX5_spare_45 vl_RX5_269 rfl rfl rfl (Nat.le_of_ble_eq_true rfl) (Nat.le_of_ble_eq_true rfl) ?_
            refine qs_comesToWithout (by omega) (by omega) (fun v9 h_v9 => ?_)
            refine r_istore hC dX5_spare_48 rfl ?_
            refine r_iload hC dX5_spare_50 rfl ?_
            refine r_iload hC dX5_spare_52 rfl ?_
            have J65_12 : ∀ (w11 w12 : Int), 0 ≤ w11 ∧ w11 ≤ 120 → -2147483648 ≤ w12 ∧ w12 ≤ 2147483647 → K 65 [some (vR 2 0), some (vI l), some (vI w), some (vR 7 l), some (vI w11), some (vI w12), some (vI w5), some (vI v9)] [] σ := by
              intro w11 w12  f_w11 f_w12 
              refine r_iincE hC ((w5 + 1)) dX5_spare_65 rfl rfl (by omega) (by unfold inR; omega) ?_
              refine r_goto (tgt := 31) hC dX5_spare_68 rfl ?_
              refine r_forget hC (ls2 := [some (vR 2 0), some (vI l), some (vI w), some (vR 7 l), some (vI w11), some (vI w12), some (vI (w5 + 1)), none]) (lsub_some (lsub_some (lsub_some (lsub_some (lsub_some (lsub_some (lsub_some (lsub_none lsub_nil)))))))) ?_
              exact ih31 (w12) ((w5 + 1)) (w11)  (by omega) (by omega) (by omega)  (by omega)  
            refine r_icmp_le (tgt := 65) hC dX5_spare_54 rfl (fun h10 => ?_) (fun h10 => ?_)
            · exact J65_12 (w6) (w4)  (by omega) (by omega)
            · refine r_iload hC dX5_spare_57 rfl ?_
              refine r_istore hC dX5_spare_59 rfl ?_
              refine r_iload hC dX5_spare_61 rfl ?_
              refine r_istore hC dX5_spare_63 rfl ?_
              exact J65_12 (w5) (v9)  (by omega) (by omega) 
      exact L31 123 ((-2147483648)) (0) (0)  (by omega) (by omega) (by omega)  (by omega)  
    · refine r_iconst hC dX5_spare_19 rfl ?_
      refine y_iret hK rfl dX5_spare_20 ?_
      exact k _ (by omega)
theorem qs_turned {eb : Bool} {d : Nat} {P : Option Vl → Mm → Prop} {σ : Mm} {l w : Int}   (k : ∀ r : Int, -2147483648 ≤ r ∧ r ≤ 2147483647 → P (some (vI r)) σ) : WT (false, false, eb) (d + 5) 83 [vR 2 0, vI l, vI w] σ P := by
  refine WT_in fun K hK => ?_
  have hK : StpY (false, false, eb) cX5_turned RX5 (some .int) (WT (false, false, eb) (d + 4)) P K := hK
  have hM := hK.1
  have hC := hK.1.1
  show K 0 [some (vR 2 0), some (vI l), some (vI w), none, none] [] σ
  refine r_rngz hC (fun g0 => ?_)
  have r_l : -2147483648 ≤ l ∧ l ≤ 2147483647 := inR_le (g0 (vI l) (by simp))
  have r_w : -2147483648 ≤ w ∧ w ≤ 2147483647 := inR_le (g0 (vI w) (by simp))
  refine r_aload_n hC dX5_turned_0 rfl ?_
  refine r_iload_n hC dX5_turned_1 rfl ?_
  refine r_iload_n hC dX5_turned_2 rfl ?_
  refine z_inv2 hM dX5_turned_3 vl_RX5_248 rfl rfl rfl (Nat.le_of_ble_eq_true rfl) (Nat.le_of_ble_eq_true rfl) ?_
  refine qs_laneWith ?_ (fun h1 => ?_)
  · refine r_astoreN_n hC dX5_turned_6 rfl ?_
    refine r_aloadN_n hC dX5_turned_7 rfl ?_
    refine r_ifnonnullN hC dX5_turned_8 ?_
    refine r_ldc hC dX5_turned_11 co_RX5_175 rfl ?_
    refine y_iret hK rfl dX5_turned_13 ?_
    exact k _ (by omega)
  · refine r_astore_n hC dX5_turned_6 rfl ?_
    refine r_aload_n hC dX5_turned_7 rfl ?_
    refine r_ifnonnullR (tgt := 14) hC dX5_turned_8 rfl ?_
    refine r_aload_n hC dX5_turned_14 rfl ?_
    refine z_getR hM dX5_turned_15 fl_RX5_40 rfl rfl (vld_of (n := 1) rfl (by omega) (by omega)) ?_
    refine r_aload_n hC dX5_turned_18 rfl ?_
    refine z_getI (jz := 2) hM dX5_turned_19 fl_RX5_98 rfl rfl rfl (fun v2 h_v2 o_v2 t_v2 => ?_)
    clear t_v2
    have q_v2 : 0 ≤ v2 ∧ v2 ≤ 9 := o_v2.2.2 rfl
    refine z_inv1 hM dX5_turned_22 vl_RX5_251 rfl rfl rfl (Nat.le_of_ble_eq_true rfl) (Nat.le_of_ble_eq_true rfl) ?_
    refine qs_begin (by omega) ?_
    refine r_aload_n hC dX5_turned_25 rfl ?_
    refine z_getI (jz := 6) hM dX5_turned_26 fl_RX5_154 rfl rfl rfl (fun v3 h_v3 o_v3 t_v3 => ?_)
    clear t_v3
    have q_v3 : 0 ≤ v3 ∧ v3 ≤ 121 := o_v3.1 rfl
    refine r_iconst hC dX5_turned_29 rfl ?_
    refine r_isubE hC ((v3 - 1)) dX5_turned_30 (by omega) (by unfold inR; omega) ?_
    refine r_istore hC dX5_turned_31 rfl ?_
    have L33 : ∀ (n33 : Nat) (w4 : Int), -1 ≤ w4 ∧ w4 ≤ 120 → w4 + 1 < (n33 : Int) → K 33 [some (vR 2 0), some (vI l), some (vI w), some (vR 7 l), some (vI w4)] [] σ := by
      intro n33
      induction n33 with
      | zero => intro w4  f_w4  hm  ; omega
      | succ n33 ih33 =>
        intro w4  f_w4  hm33  
        refine r_iload hC dX5_turned_33 rfl ?_
        refine r_if_lt (tgt := 58) hC dX5_turned_35 rfl (fun h5 => ?_) (fun h5 => ?_)
        · refine r_aload_n hC dX5_turned_58 rfl ?_
          refine z_getR hM dX5_turned_59 fl_RX5_40 rfl rfl (vld_of (n := 1) rfl (by omega) (by omega)) ?_
          refine r_iload_n hC dX5_turned_62 rfl ?_
          refine z_inv1 hM dX5_turned_63 vl_RX5_273 rfl rfl rfl (Nat.le_of_ble_eq_true rfl) (Nat.le_of_ble_eq_true rfl) ?_
          refine qs_number (fun v6 h_v6 => ?_)
          refine y_iret hK rfl dX5_turned_66 ?_
          exact k _ (by omega)
        · refine r_aload_n hC dX5_turned_38 rfl ?_
          refine z_getR hM dX5_turned_39 fl_RX5_40 rfl rfl (vld_of (n := 1) rfl (by omega) (by omega)) ?_
          refine r_aload_n hC dX5_turned_42 rfl ?_
          refine z_getR hM dX5_turned_43 fl_RX5_176 rfl rfl (vld_of (n := 7) rfl (by omega) (by omega)) ?_
          refine r_iload hC dX5_turned_46 rfl ?_
          refine z_iald hM dX5_turned_48 rfl (by omega) (by omega) (fun v7 h_v7 o_v7 t_v7 => ?_)
          clear t_v7
          have q_v7 : -1000 ≤ v7 ∧ v7 ≤ 1000 := o_v7
          refine z_inv1 hM dX5_turned_49 vl_RX5_253 rfl rfl rfl (Nat.le_of_ble_eq_true rfl) (Nat.le_of_ble_eq_true rfl) ?_
          refine qs_append (by omega) ?_
          refine r_iincE hC ((w4 - 1)) dX5_turned_52 rfl rfl (by omega) (by unfold inR; omega) ?_
          refine r_goto (tgt := 33) hC dX5_turned_55 rfl ?_
          exact ih33 ((w4 - 1))  (by omega)  (by omega)  
    exact L33 123 ((v3 - 1))  (by omega)  (by omega)  
theorem qs_law {eb : Bool} {d : Nat} {P : Option Vl → Mm → Prop} {σ : Mm} {l h w : Int}   (k : ∀ r : Int, -2147483648 ≤ r ∧ r ≤ 2147483647 → P (some (vI r)) σ) : WT (false, false, eb) (d + 7) 85 [vR 2 0, vI l, vI h, vI w] σ P := by
  refine WT_in fun K hK => ?_
  have hK : StpY (false, false, eb) cX5_law RX5 (some .int) (WT (false, false, eb) (d + 6)) P K := hK
  have hM := hK.1
  have hC := hK.1.1
  show K 0 [some (vR 2 0), some (vI l), some (vI h), some (vI w)] [] σ
  refine r_rngz hC (fun g0 => ?_)
  have r_l : -2147483648 ≤ l ∧ l ≤ 2147483647 := inR_le (g0 (vI l) (by simp))
  have r_h : -2147483648 ≤ h ∧ h ≤ 2147483647 := inR_le (g0 (vI h) (by simp))
  have r_w : -2147483648 ≤ w ∧ w ≤ 2147483647 := inR_le (g0 (vI w) (by simp))
  refine r_iload_n hC dX5_law_0 rfl ?_
  refine r_iconst hC dX5_law_1 rfl ?_
  refine r_iconst hC dX5_law_2 rfl ?_
  refine z_ins3 hM dX5_law_3 tl_RX5_59 rfl (Nat.le_of_ble_eq_true rfl) (Nat.le_of_ble_eq_true rfl) ?_
  refine qs_within (fun h2 => ?_) (fun h2 => ?_)
  · refine r_if_eq (tgt := 18) hC dX5_law_6 rfl (fun h3 => by omega) (fun h3 => ?_)
    refine r_aload_n hC dX5_law_9 rfl ?_
    refine r_iload_n hC dX5_law_10 rfl ?_
    refine r_iload_n hC dX5_law_11 rfl ?_
    refine z_inv2 hM dX5_law_12 vl_RX5_281 rfl rfl rfl (Nat.le_of_ble_eq_true rfl) (Nat.le_of_ble_eq_true rfl) ?_
    refine qs_total (fun v4 h_v4 => ?_)
    refine r_goto (tgt := 20) hC dX5_law_15 rfl ?_
    refine y_iret hK rfl dX5_law_20 ?_
    exact k _ (by omega)
  · refine r_if_eq (tgt := 18) hC dX5_law_6 rfl (fun h5 => ?_) (fun h5 => by omega)
    refine r_ldc hC dX5_law_18 co_RX5_175 rfl ?_
    refine y_iret hK rfl dX5_law_20 ?_
    exact k _ (by omega)
theorem qs_joined {eb : Bool} {d : Nat} {P : Option Vl → Mm → Prop} {σ : Mm} {l o w : Int}   (k : ∀ r : Int, -2147483648 ≤ r ∧ r ≤ 2147483647 → P (some (vI r)) σ) : WT (false, false, eb) (d + 5) 86 [vR 2 0, vI l, vI o, vI w] σ P := by
  refine WT_in fun K hK => ?_
  have hK : StpY (false, false, eb) cX5_joined RX5 (some .int) (WT (false, false, eb) (d + 4)) P K := hK
  have hM := hK.1
  have hC := hK.1.1
  show K 0 [some (vR 2 0), some (vI l), some (vI o), some (vI w), none, none, none] [] σ
  refine r_rngz hC (fun g0 => ?_)
  have r_l : -2147483648 ≤ l ∧ l ≤ 2147483647 := inR_le (g0 (vI l) (by simp))
  have r_o : -2147483648 ≤ o ∧ o ≤ 2147483647 := inR_le (g0 (vI o) (by simp))
  have r_w : -2147483648 ≤ w ∧ w ≤ 2147483647 := inR_le (g0 (vI w) (by simp))
  refine r_aload_n hC dX5_joined_0 rfl ?_
  refine r_iload_n hC dX5_joined_1 rfl ?_
  refine r_iload_n hC dX5_joined_2 rfl ?_
  refine z_inv2 hM dX5_joined_3 vl_RX5_248 rfl rfl rfl (Nat.le_of_ble_eq_true rfl) (Nat.le_of_ble_eq_true rfl) ?_
  refine qs_laneWith ?_ (fun h1 => ?_)
  · refine r_astoreN hC dX5_joined_6 rfl ?_
    refine r_aload_n hC dX5_joined_8 rfl ?_
    refine r_iload_n hC dX5_joined_9 rfl ?_
    refine z_inv1 hM dX5_joined_10 vl_RX5_123 rfl rfl rfl (Nat.le_of_ble_eq_true rfl) (Nat.le_of_ble_eq_true rfl) ?_
    refine qs_openLane ?_ (fun h2 => ?_)
    · refine r_astoreN hC dX5_joined_13 rfl ?_
      refine r_aloadN hC dX5_joined_15 rfl ?_
      refine r_ifnullN (tgt := 38) hC dX5_joined_17 rfl ?_
      refine r_ldc hC dX5_joined_38 co_RX5_175 rfl ?_
      refine y_iret hK rfl dX5_joined_40 ?_
      exact k _ (by omega)
    · refine r_astore hC dX5_joined_13 rfl ?_
      refine r_aloadN hC dX5_joined_15 rfl ?_
      refine r_ifnullN (tgt := 38) hC dX5_joined_17 rfl ?_
      refine r_ldc hC dX5_joined_38 co_RX5_175 rfl ?_
      refine y_iret hK rfl dX5_joined_40 ?_
      exact k _ (by omega)
  · refine r_astore hC dX5_joined_6 rfl ?_
    refine r_aload_n hC dX5_joined_8 rfl ?_
    refine r_iload_n hC dX5_joined_9 rfl ?_
    refine z_inv1 hM dX5_joined_10 vl_RX5_123 rfl rfl rfl (Nat.le_of_ble_eq_true rfl) (Nat.le_of_ble_eq_true rfl) ?_
    refine qs_openLane ?_ (fun h3 => ?_)
    · refine r_astoreN hC dX5_joined_13 rfl ?_
      refine r_aload hC dX5_joined_15 rfl ?_
      refine r_ifnullR hC dX5_joined_17 ?_
      refine r_aloadN hC dX5_joined_20 rfl ?_
      refine r_ifnullN (tgt := 38) hC dX5_joined_22 rfl ?_
      refine r_ldc hC dX5_joined_38 co_RX5_175 rfl ?_
      refine y_iret hK rfl dX5_joined_40 ?_
      exact k _ (by omega)
    · refine r_astore hC dX5_joined_13 rfl ?_
      refine r_aload hC dX5_joined_15 rfl ?_
      refine r_ifnullR hC dX5_joined_17 ?_
      refine r_aload hC dX5_joined_20 rfl ?_
      refine r_ifnullR hC dX5_joined_22 ?_
      refine r_aload hC dX5_joined_25 rfl ?_
      refine z_getI (jz := 2) hM dX5_joined_27 fl_RX5_98 rfl rfl rfl (fun v4 h_v4 o_v4 t_v4 => ?_)
      clear t_v4
      have q_v4 : 0 ≤ v4 ∧ v4 ≤ 9 := o_v4.2.2 rfl
      refine r_aload hC dX5_joined_30 rfl ?_
      refine z_getI (jz := 2) hM dX5_joined_32 fl_RX5_98 rfl rfl rfl (fun v5 h_v5 o_v5 t_v5 => ?_)
      clear t_v5
      have q_v5 : 0 ≤ v5 ∧ v5 ≤ 9 := o_v5.2.2 rfl
      refine r_icmp_eq (tgt := 41) hC dX5_joined_35 rfl (fun h6 => ?_) (fun h6 => ?_)
      · refine r_aload_n hC dX5_joined_41 rfl ?_
        refine r_aload hC dX5_joined_42 rfl ?_
        refine r_iconst hC dX5_joined_44 rfl ?_
        refine r_aload hC dX5_joined_45 rfl ?_
        refine z_getI (jz := 6) hM dX5_joined_47 fl_RX5_154 rfl rfl rfl (fun v7 h_v7 o_v7 t_v7 => ?_)
        clear t_v7
        have q_v7 : 0 ≤ v7 ∧ v7 ≤ 121 := o_v7.1 rfl
        refine z_inv3 hM dX5_joined_50 vl_RX5_259 rfl rfl rfl (Nat.le_of_ble_eq_true rfl) (Nat.le_of_ble_eq_true rfl) ?_
        refine qs_foldPart (by omega) (by omega) (by omega) ?_
        refine r_iconst hC dX5_joined_53 rfl ?_
        refine r_istore hC dX5_joined_54 rfl ?_
        have L56 : ∀ (n56 : Nat) (w8 : Int), 0 ≤ w8 ∧ w8 ≤ 121 → 121 - w8 < (n56 : Int) → K 56 [some (vR 2 0), some (vI l), some (vI o), some (vI w), some (vR 7 l), some (vR 7 o), some (vI w8)] [] σ := by
          intro n56
          induction n56 with
          | zero => intro w8  f_w8  hm  ; omega
          | succ n56 ih56 =>
            intro w8  f_w8  hm56  
            refine r_iload hC dX5_joined_56 rfl ?_
            refine r_aload hC dX5_joined_58 rfl ?_
            refine z_getI (jz := 6) hM dX5_joined_60 fl_RX5_154 rfl rfl rfl (fun v9 h_v9 o_v9 t_v9 => ?_)
            clear t_v9
            have q_v9 : 0 ≤ v9 ∧ v9 ≤ 121 := o_v9.1 rfl
            refine r_icmp_ge (tgt := 87) hC dX5_joined_63 rfl (fun h10 => ?_) (fun h10 => ?_)
            · refine r_aload_n hC dX5_joined_87 rfl ?_
              refine z_getR hM dX5_joined_88 fl_RX5_40 rfl rfl (vld_of (n := 1) rfl (by omega) (by omega)) ?_
              refine r_iload_n hC dX5_joined_91 rfl ?_
              refine z_inv1 hM dX5_joined_92 vl_RX5_273 rfl rfl rfl (Nat.le_of_ble_eq_true rfl) (Nat.le_of_ble_eq_true rfl) ?_
              refine qs_number (fun v11 h_v11 => ?_)
              refine y_iret hK rfl dX5_joined_95 ?_
              exact k _ (by omega)
            · refine r_aload_n hC dX5_joined_66 rfl ?_
              refine z_getR hM dX5_joined_67 fl_RX5_40 rfl rfl (vld_of (n := 1) rfl (by omega) (by omega)) ?_
              refine r_aload hC dX5_joined_70 rfl ?_
              refine z_getR hM dX5_joined_72 fl_RX5_176 rfl rfl (vld_of (n := 7) rfl (by omega) (by omega)) ?_
              refine r_iload hC dX5_joined_75 rfl ?_
              refine z_iald hM dX5_joined_77 rfl (by omega) (by omega) (fun v12 h_v12 o_v12 t_v12 => ?_)
              clear t_v12
              have q_v12 : -1000 ≤ v12 ∧ v12 ≤ 1000 := o_v12
              refine z_inv1 hM dX5_joined_78 vl_RX5_253 rfl rfl rfl (Nat.le_of_ble_eq_true rfl) (Nat.le_of_ble_eq_true rfl) ?_
              refine qs_append (by omega) ?_
              refine r_iincE hC ((w8 + 1)) dX5_joined_81 rfl rfl (by omega) (by unfold inR; omega) ?_
              refine r_goto (tgt := 56) hC dX5_joined_84 rfl ?_
              exact ih56 ((w8 + 1))  (by omega)  (by omega)  
        exact L56 123 (0)  (by omega)  (by omega)  
      · refine r_ldc hC dX5_joined_38 co_RX5_175 rfl ?_
        refine y_iret hK rfl dX5_joined_40 ?_
        exact k _ (by omega)
theorem qs_same {eb : Bool} {d : Nat} {P : Option Vl → Mm → Prop} {σ : Mm} {l o : Int}   (k : ∀ r : Int, -1 ≤ r ∧ r ≤ 1 → P (some (vI r)) σ) : WT (false, false, eb) (d + 5) 88 [vR 2 0, vI l, vI o] σ P := by
  refine WT_in fun K hK => ?_
  have hK : StpY (false, false, eb) cX5_same RX5 (some .int) (WT (false, false, eb) (d + 4)) P K := hK
  have hM := hK.1
  have hC := hK.1.1
  show K 0 [some (vR 2 0), some (vI l), some (vI o), none, none] [] σ
  refine r_rngz hC (fun g0 => ?_)
  have r_l : -2147483648 ≤ l ∧ l ≤ 2147483647 := inR_le (g0 (vI l) (by simp))
  have r_o : -2147483648 ≤ o ∧ o ≤ 2147483647 := inR_le (g0 (vI o) (by simp))
  refine r_aload_n hC dX5_same_0 rfl ?_
  refine r_iload_n hC dX5_same_1 rfl ?_
  refine z_inv1 hM dX5_same_2 vl_RX5_123 rfl rfl rfl (Nat.le_of_ble_eq_true rfl) (Nat.le_of_ble_eq_true rfl) ?_
  refine qs_openLane ?_ (fun h1 => ?_)
  · refine r_astoreN_n hC dX5_same_5 rfl ?_
    refine r_aload_n hC dX5_same_6 rfl ?_
    refine r_iload_n hC dX5_same_7 rfl ?_
    refine z_inv1 hM dX5_same_8 vl_RX5_123 rfl rfl rfl (Nat.le_of_ble_eq_true rfl) (Nat.le_of_ble_eq_true rfl) ?_
    refine qs_openLane ?_ (fun h2 => ?_)
    · refine r_astoreN hC dX5_same_11 rfl ?_
      refine r_aloadN_n hC dX5_same_13 rfl ?_
      refine r_ifnullN (tgt := 34) hC dX5_same_14 rfl ?_
      refine r_iconst hC dX5_same_34 rfl ?_
      refine y_iret hK rfl dX5_same_35 ?_
      exact k _ (by omega)
    · refine r_astore hC dX5_same_11 rfl ?_
      refine r_aloadN_n hC dX5_same_13 rfl ?_
      refine r_ifnullN (tgt := 34) hC dX5_same_14 rfl ?_
      refine r_iconst hC dX5_same_34 rfl ?_
      refine y_iret hK rfl dX5_same_35 ?_
      exact k _ (by omega)
  · refine r_astore_n hC dX5_same_5 rfl ?_
    refine r_aload_n hC dX5_same_6 rfl ?_
    refine r_iload_n hC dX5_same_7 rfl ?_
    refine z_inv1 hM dX5_same_8 vl_RX5_123 rfl rfl rfl (Nat.le_of_ble_eq_true rfl) (Nat.le_of_ble_eq_true rfl) ?_
    refine qs_openLane ?_ (fun h3 => ?_)
    · refine r_astoreN hC dX5_same_11 rfl ?_
      refine r_aload_n hC dX5_same_13 rfl ?_
      refine r_ifnullR hC dX5_same_14 ?_
      refine r_aloadN hC dX5_same_17 rfl ?_
      refine r_ifnullN (tgt := 34) hC dX5_same_19 rfl ?_
      refine r_iconst hC dX5_same_34 rfl ?_
      refine y_iret hK rfl dX5_same_35 ?_
      exact k _ (by omega)
    · refine r_astore hC dX5_same_11 rfl ?_
      refine r_aload_n hC dX5_same_13 rfl ?_
      refine r_ifnullR hC dX5_same_14 ?_
      refine r_aload hC dX5_same_17 rfl ?_
      refine r_ifnullR hC dX5_same_19 ?_
      refine r_aload_n hC dX5_same_22 rfl ?_
      refine z_getI (jz := 2) hM dX5_same_23 fl_RX5_98 rfl rfl rfl (fun v4 h_v4 o_v4 t_v4 => ?_)
      clear t_v4
      have q_v4 : 0 ≤ v4 ∧ v4 ≤ 9 := o_v4.2.2 rfl
      refine r_aload hC dX5_same_26 rfl ?_
      refine z_getI (jz := 2) hM dX5_same_28 fl_RX5_98 rfl rfl rfl (fun v5 h_v5 o_v5 t_v5 => ?_)
      clear t_v5
      have q_v5 : 0 ≤ v5 ∧ v5 ≤ 9 := o_v5.2.2 rfl
      refine r_icmp_eq (tgt := 36) hC dX5_same_31 rfl (fun h6 => ?_) (fun h6 => ?_)
      · refine r_aload_n hC dX5_same_36 rfl ?_
        refine r_aload_n hC dX5_same_37 rfl ?_
        refine r_iconst hC dX5_same_38 rfl ?_
        refine r_aload_n hC dX5_same_39 rfl ?_
        refine z_getI (jz := 6) hM dX5_same_40 fl_RX5_154 rfl rfl rfl (fun v7 h_v7 o_v7 t_v7 => ?_)
        clear t_v7
        have q_v7 : 0 ≤ v7 ∧ v7 ≤ 121 := o_v7.1 rfl
        refine z_inv3 hM dX5_same_43 vl_RX5_259 rfl rfl rfl (Nat.le_of_ble_eq_true rfl) (Nat.le_of_ble_eq_true rfl) ?_
        refine qs_foldPart (by omega) (by omega) (by omega) ?_
        refine r_aload_n hC dX5_same_46 rfl ?_
        refine z_getR hM dX5_same_47 fl_RX5_40 rfl rfl (vld_of (n := 1) rfl (by omega) (by omega)) ?_
        refine z_inv0 hM dX5_same_50 vl_RX5_275 rfl rfl rfl (Nat.le_of_ble_eq_true rfl) (Nat.le_of_ble_eq_true rfl) ?_
        refine qs_noteNumbers ?_
        refine r_aload_n hC dX5_same_53 rfl ?_
        refine r_aload hC dX5_same_54 rfl ?_
        refine r_iconst hC dX5_same_56 rfl ?_
        refine r_aload hC dX5_same_57 rfl ?_
        refine z_getI (jz := 6) hM dX5_same_59 fl_RX5_154 rfl rfl rfl (fun v8 h_v8 o_v8 t_v8 => ?_)
        clear t_v8
        have q_v8 : 0 ≤ v8 ∧ v8 ≤ 121 := o_v8.1 rfl
        refine z_inv3 hM dX5_same_62 vl_RX5_259 rfl rfl rfl (Nat.le_of_ble_eq_true rfl) (Nat.le_of_ble_eq_true rfl) ?_
        refine qs_foldPart (by omega) (by omega) (by omega) ?_
        refine r_aload_n hC dX5_same_65 rfl ?_
        refine z_getR hM dX5_same_66 fl_RX5_40 rfl rfl (vld_of (n := 1) rfl (by omega) (by omega)) ?_
        refine z_inv0 hM dX5_same_69 vl_RX5_278 rfl rfl rfl (Nat.le_of_ble_eq_true rfl) (Nat.le_of_ble_eq_true rfl) ?_
        refine qs_isAsNoted (fun v9 h_v9 => ?_)
        have J80_11 : ∀ (w11 : Int), 0 ≤ w11 ∧ w11 ≤ 1 → K 80 [some (vR 2 0), some (vI l), some (vI o), some (vR 7 l), some (vR 7 o)] [vI w11] σ := by
          intro w11  f_w11 
          refine y_iret hK rfl dX5_same_80 ?_
          exact k _ (by omega)
        refine r_if_eq (tgt := 79) hC dX5_same_72 rfl (fun h10 => ?_) (fun h10 => ?_)
        · refine r_iconst hC dX5_same_79 rfl ?_
          exact J80_11 (0)  (by omega) 
        · refine r_iconst hC dX5_same_75 rfl ?_
          refine r_goto (tgt := 80) hC dX5_same_76 rfl ?_
          exact J80_11 (1)  (by omega) 
      · refine r_iconst hC dX5_same_34 rfl ?_
        refine y_iret hK rfl dX5_same_35 ?_
        exact k _ (by omega)
theorem qs_session {eb : Bool} {d : Nat} {P : Option Vl → Mm → Prop} {σ : Mm} {l z x w : Int}   (k : ∀ r : Int, -2147483648 ≤ r ∧ r ≤ 2147483647 → P (some (vI r)) σ) : WT (false, false, eb) (d + 5) 92 [vR 2 0, vI l, vI z, vI x, vI w] σ P := by
  refine WT_in fun K hK => ?_
  have hK : StpY (false, false, eb) cX5_session RX5 (some .int) (WT (false, false, eb) (d + 4)) P K := hK
  have hM := hK.1
  have hC := hK.1.1
  show K 0 [some (vR 2 0), some (vI l), some (vI z), some (vI x), some (vI w), none, none, none] [] σ
  refine r_rngz hC (fun g0 => ?_)
  have r_l : -2147483648 ≤ l ∧ l ≤ 2147483647 := inR_le (g0 (vI l) (by simp))
  have r_z : -2147483648 ≤ z ∧ z ≤ 2147483647 := inR_le (g0 (vI z) (by simp))
  have r_x : -2147483648 ≤ x ∧ x ≤ 2147483647 := inR_le (g0 (vI x) (by simp))
  have r_w : -2147483648 ≤ w ∧ w ≤ 2147483647 := inR_le (g0 (vI w) (by simp))
  refine r_aload_n hC dX5_session_0 rfl ?_
  refine r_iload_n hC dX5_session_1 rfl ?_
  refine r_iload hC dX5_session_2 rfl ?_
  refine z_inv2 hM dX5_session_4 vl_RX5_248 rfl rfl rfl (Nat.le_of_ble_eq_true rfl) (Nat.le_of_ble_eq_true rfl) ?_
  refine qs_laneWith ?_ (fun h1 => ?_)
  · refine r_astoreN hC dX5_session_7 rfl ?_
    refine r_aloadN hC dX5_session_9 rfl ?_
    refine r_ifnullN (tgt := 25) hC dX5_session_11 rfl ?_
    refine r_ldc hC dX5_session_25 co_RX5_175 rfl ?_
    refine y_iret hK rfl dX5_session_27 ?_
    exact k _ (by omega)
  · refine r_astore hC dX5_session_7 rfl ?_
    refine r_aload hC dX5_session_9 rfl ?_
    refine r_ifnullR hC dX5_session_11 ?_
    refine r_iload_n hC dX5_session_14 rfl ?_
    refine z_ins1 hM dX5_session_15 tl_RX5_285 rfl (Nat.le_of_ble_eq_true rfl) (Nat.le_of_ble_eq_true rfl) ?_
    refine qs_isGap (fun h3 => ?_) (fun h3 => ?_)
    · refine r_if_eq (tgt := 25) hC dX5_session_18 rfl (fun h4 => by omega) (fun h4 => ?_)
      refine r_iload_n hC dX5_session_21 rfl ?_
      refine r_if_ge (tgt := 28) hC dX5_session_22 rfl (fun h5 => ?_) (fun h5 => ?_)
      · refine r_aload_n hC dX5_session_28 rfl ?_
        refine z_getR hM dX5_session_29 fl_RX5_40 rfl rfl (vld_of (n := 1) rfl (by omega) (by omega)) ?_
        refine r_aload hC dX5_session_32 rfl ?_
        refine z_getI (jz := 2) hM dX5_session_34 fl_RX5_98 rfl rfl rfl (fun v6 h_v6 o_v6 t_v6 => ?_)
        clear t_v6
        have q_v6 : 0 ≤ v6 ∧ v6 ≤ 9 := o_v6.2.2 rfl
        refine z_inv1 hM dX5_session_37 vl_RX5_251 rfl rfl rfl (Nat.le_of_ble_eq_true rfl) (Nat.le_of_ble_eq_true rfl) ?_
        refine qs_begin (by omega) ?_
        refine r_iconst hC dX5_session_40 rfl ?_
        refine r_istore hC dX5_session_41 rfl ?_
        refine r_iconst hC dX5_session_43 rfl ?_
        refine r_istore hC dX5_session_44 rfl ?_
        have L46 : ∀ (n46 : Nat) (w7 w8 : Int), -2147483648 ≤ w7 ∧ w7 ≤ 2147483647 → 0 ≤ w8 ∧ w8 ≤ 121 → 121 - w8 < (n46 : Int) → K 46 [some (vR 2 0), some (vI l), some (vI z), some (vI x), some (vI w), some (vR 7 l), some (vI w7), some (vI w8)] [] σ := by
          intro n46
          induction n46 with
          | zero => intro w7 w8  f_w7 f_w8  hm  ; omega
          | succ n46 ih46 =>
            intro w7 w8  f_w7 f_w8  hm46  
            refine r_iload hC dX5_session_46 rfl ?_
            refine r_aload hC dX5_session_48 rfl ?_
            refine z_getI (jz := 6) hM dX5_session_50 fl_RX5_154 rfl rfl rfl (fun v9 h_v9 o_v9 t_v9 => ?_)
            clear t_v9
            have q_v9 : 0 ≤ v9 ∧ v9 ≤ 121 := o_v9.1 rfl
            refine r_icmp_ge (tgt := 104) hC dX5_session_53 rfl (fun h10 => ?_) (fun h10 => ?_)
            · refine r_aload_n hC dX5_session_104 rfl ?_
              refine z_getR hM dX5_session_105 fl_RX5_40 rfl rfl (vld_of (n := 1) rfl (by omega) (by omega)) ?_
              refine r_iload hC dX5_session_108 rfl ?_
              refine z_inv1 hM dX5_session_110 vl_RX5_273 rfl rfl rfl (Nat.le_of_ble_eq_true rfl) (Nat.le_of_ble_eq_true rfl) ?_
              refine qs_number (fun v11 h_v11 => ?_)
              refine y_iret hK rfl dX5_session_113 ?_
              exact k _ (by omega)
            · refine r_iload hC dX5_session_56 rfl ?_
              refine r_aload hC dX5_session_58 rfl ?_
              refine r_iload hC dX5_session_60 rfl ?_
              refine r_iload_n hC dX5_session_62 rfl ?_
              refine z_inv2 hM dX5_session_63 vl_RX5_221 rfl rfl rfl (Nat.le_of_ble_eq_true rfl) (Nat.le_of_ble_eq_true rfl) ?_
              refine qs_startsSession (by omega) (by omega) (fun v12 h_v12 => ?_)
              have J74_14 : ∀ (w14 : Int), 0 ≤ w14 ∧ w14 ≤ 1 → K 74 [some (vR 2 0), some (vI l), some (vI z), some (vI x), some (vI w), some (vR 7 l), some (vI w7), some (vI w8)] [vI w14, vI w7] σ := by
                intro w14  f_w14 
                refine r_iaddG hC dX5_session_74 (fun v16 h_v16 => ?_)
                refine r_istore hC dX5_session_75 rfl ?_
                refine r_iload hC dX5_session_77 rfl ?_
                refine r_iload_n hC dX5_session_79 rfl ?_
                have J98_17 : K 98 [some (vR 2 0), some (vI l), some (vI z), some (vI x), some (vI w), some (vR 7 l), some (vI v16), some (vI w8)] [] σ := by
                  refine r_iincE hC ((w8 + 1)) dX5_session_98 rfl rfl (by omega) (by unfold inR; omega) ?_
                  refine r_goto (tgt := 46) hC dX5_session_101 rfl ?_
                  exact ih46 (v16) ((w8 + 1))  (by omega) (by omega)  (by omega)  
                refine r_icmp_ne (tgt := 98) hC dX5_session_80 rfl (fun h17 => ?_) (fun h17 => ?_)
                · exact J98_17
                · refine r_aload_n hC dX5_session_83 rfl ?_
                  refine z_getR hM dX5_session_84 fl_RX5_40 rfl rfl (vld_of (n := 1) rfl (by omega) (by omega)) ?_
                  refine r_aload hC dX5_session_87 rfl ?_
                  refine z_getR hM dX5_session_89 fl_RX5_176 rfl rfl (vld_of (n := 7) rfl (by omega) (by omega)) ?_
                  refine r_iload hC dX5_session_92 rfl ?_
                  refine z_iald hM dX5_session_94 rfl (by omega) (by omega) (fun v19 h_v19 o_v19 t_v19 => ?_)
                  clear t_v19
                  have q_v19 : -1000 ≤ v19 ∧ v19 ≤ 1000 := o_v19
                  refine z_inv1 hM dX5_session_95 vl_RX5_253 rfl rfl rfl (Nat.le_of_ble_eq_true rfl) (Nat.le_of_ble_eq_true rfl) ?_
                  refine qs_append (by omega) ?_
                  exact J98_17    
              refine r_if_eq (tgt := 73) hC dX5_session_66 rfl (fun h13 => ?_) (fun h13 => ?_)
              · refine r_iconst hC dX5_session_73 rfl ?_
                exact J74_14 (0)  (by omega) 
              · refine r_iconst hC dX5_session_69 rfl ?_
                refine r_goto (tgt := 74) hC dX5_session_70 rfl ?_
                exact J74_14 (1)  (by omega) 
        exact L46 123 ((-1)) (0)  (by omega) (by omega)  (by omega)  
      · refine r_ldc hC dX5_session_25 co_RX5_175 rfl ?_
        refine y_iret hK rfl dX5_session_27 ?_
        exact k _ (by omega)
    · refine r_if_eq (tgt := 25) hC dX5_session_18 rfl (fun h20 => ?_) (fun h20 => by omega)
      refine r_ldc hC dX5_session_25 co_RX5_175 rfl ?_
      refine y_iret hK rfl dX5_session_27 ?_
      exact k _ (by omega)
theorem qs_shortest {eb : Bool} {d : Nat} {P : Option Vl → Mm → Prop} {σ : Mm} {l w b z : Int}   (k : ∀ r : Int, -1000 ≤ r ∧ r ≤ 122 → P (some (vI r)) σ) : WT (false, false, eb) (d + 5) 109 [vR 2 0, vI l, vI w, vI b, vI z] σ P := by
  refine WT_in fun K hK => ?_
  have hK : StpY (false, false, eb) cX5_shortest RX5 (some .int) (WT (false, false, eb) (d + 4)) P K := hK
  have hM := hK.1
  have hC := hK.1.1
  show K 0 [some (vR 2 0), some (vI l), some (vI w), some (vI b), some (vI z), none, none, none, none, none] [] σ
  refine r_rngz hC (fun g0 => ?_)
  have r_l : -2147483648 ≤ l ∧ l ≤ 2147483647 := inR_le (g0 (vI l) (by simp))
  have r_w : -2147483648 ≤ w ∧ w ≤ 2147483647 := inR_le (g0 (vI w) (by simp))
  have r_b : -2147483648 ≤ b ∧ b ≤ 2147483647 := inR_le (g0 (vI b) (by simp))
  have r_z : -2147483648 ≤ z ∧ z ≤ 2147483647 := inR_le (g0 (vI z) (by simp))
  refine r_aload_n hC dX5_shortest_0 rfl ?_
  refine r_iload_n hC dX5_shortest_1 rfl ?_
  refine r_iload_n hC dX5_shortest_2 rfl ?_
  refine z_inv2 hM dX5_shortest_3 vl_RX5_248 rfl rfl rfl (Nat.le_of_ble_eq_true rfl) (Nat.le_of_ble_eq_true rfl) ?_
  refine qs_laneWith ?_ (fun h1 => ?_)
  · refine r_astoreN hC dX5_shortest_6 rfl ?_
    refine r_aloadN hC dX5_shortest_8 rfl ?_
    refine r_ifnullN (tgt := 23) hC dX5_shortest_10 rfl ?_
    refine r_iconst hC dX5_shortest_23 rfl ?_
    refine y_iret hK rfl dX5_shortest_24 ?_
    exact k _ (by omega)
  · refine r_astore hC dX5_shortest_6 rfl ?_
    refine r_aload hC dX5_shortest_8 rfl ?_
    refine r_ifnullR hC dX5_shortest_10 ?_
    refine r_iload hC dX5_shortest_13 rfl ?_
    refine r_iconst hC dX5_shortest_15 rfl ?_
    refine r_iconst hC dX5_shortest_16 rfl ?_
    refine z_ins3 hM dX5_shortest_17 tl_RX5_59 rfl (Nat.le_of_ble_eq_true rfl) (Nat.le_of_ble_eq_true rfl) ?_
    refine qs_within (fun h3 => ?_) (fun h3 => ?_)
    · refine r_if_ne (tgt := 25) hC dX5_shortest_20 rfl (fun h4 => ?_) (fun h4 => by omega)
      refine r_aload hC dX5_shortest_25 rfl ?_
      refine z_getI (jz := 6) hM dX5_shortest_27 fl_RX5_154 rfl rfl rfl (fun v5 h_v5 o_v5 t_v5 => ?_)
      clear t_v5
      have q_v5 : 0 ≤ v5 ∧ v5 ≤ 121 := o_v5.1 rfl
      refine r_iconst hC dX5_shortest_30 rfl ?_
      refine r_iaddE hC ((v5 + 1)) dX5_shortest_31 (by omega) (by unfold inR; omega) ?_
      refine r_istore hC dX5_shortest_32 rfl ?_
      refine r_iconst hC dX5_shortest_34 rfl ?_
      refine r_istore hC dX5_shortest_35 rfl ?_
      refine r_iconst hC dX5_shortest_37 rfl ?_
      refine r_istore hC dX5_shortest_38 rfl ?_
      have L40 : ∀ (n40 : Nat) (w6 w7 w8 : Int), -1000 ≤ w6 ∧ w6 ≤ 122 → -1 ≤ w7 ∧ w7 ≤ 120 → 0 ≤ w8 ∧ w8 ≤ 121 → 121 - w8 < (n40 : Int) → K 40 [some (vR 2 0), some (vI l), some (vI w), some (vI b), some (vI z), some (vR 7 l), some (vI w6), some (vI w7), some (vI w8), none] [] σ := by
        intro n40
        induction n40 with
        | zero => intro w6 w7 w8  f_w6 f_w7 f_w8  hm  ; omega
        | succ n40 ih40 =>
          intro w6 w7 w8  f_w6 f_w7 f_w8  hm40  
          refine r_iload hC dX5_shortest_40 rfl ?_
          refine r_aload hC dX5_shortest_42 rfl ?_
          refine z_getI (jz := 6) hM dX5_shortest_44 fl_RX5_154 rfl rfl rfl (fun v9 h_v9 o_v9 t_v9 => ?_)
          clear t_v9
          have q_v9 : 0 ≤ v9 ∧ v9 ≤ 121 := o_v9.1 rfl
          refine r_icmp_ge (tgt := 140) hC dX5_shortest_47 rfl (fun h10 => ?_) (fun h10 => ?_)
          · refine r_iload hC dX5_shortest_140 rfl ?_
            refine r_iconst hC dX5_shortest_142 rfl ?_
            have J162_12 : ∀ (w12 : Int), -1000 ≤ w12 ∧ w12 ≤ 122 → K 162 [some (vR 2 0), some (vI l), some (vI w), some (vI b), some (vI z), some (vR 7 l), some (vI w6), some (vI w7), some (vI w8), none] [vI w12] σ := by
              intro w12  f_w12 
              refine y_iret hK rfl dX5_shortest_162 ?_
              exact k _ (by omega)
            refine r_icmp_ne (tgt := 150) hC dX5_shortest_143 rfl (fun h11 => ?_) (fun h11 => ?_)
            · refine r_iload hC dX5_shortest_150 rfl ?_
              refine r_if_ne (tgt := 160) hC dX5_shortest_152 rfl (fun h14 => ?_) (fun h14 => ?_)
              · refine r_iload hC dX5_shortest_160 rfl ?_
                exact J162_12 (w7)  (by omega) 
              · refine r_iload hC dX5_shortest_155 rfl ?_
                refine r_goto (tgt := 162) hC dX5_shortest_157 rfl ?_
                exact J162_12 (w6)  (by omega) 
            · refine r_iconst hC dX5_shortest_146 rfl ?_
              refine r_goto (tgt := 162) hC dX5_shortest_147 rfl ?_
              exact J162_12 ((-1))  (by omega) 
          · refine r_aload_n hC dX5_shortest_50 rfl ?_
            refine z_getR hM dX5_shortest_51 fl_RX5_40 rfl rfl (vld_of (n := 1) rfl (by omega) (by omega)) ?_
            refine r_aload hC dX5_shortest_54 rfl ?_
            refine z_getI (jz := 2) hM dX5_shortest_56 fl_RX5_98 rfl rfl rfl (fun v15 h_v15 o_v15 t_v15 => ?_)
            clear t_v15
            have q_v15 : 0 ≤ v15 ∧ v15 ≤ 9 := o_v15.2.2 rfl
            refine z_inv1 hM dX5_shortest_59 vl_RX5_251 rfl rfl rfl (Nat.le_of_ble_eq_true rfl) (Nat.le_of_ble_eq_true rfl) ?_
            refine qs_begin (by omega) ?_
            refine r_iload hC dX5_shortest_62 rfl ?_
            refine r_istore hC dX5_shortest_64 rfl ?_
            have L66 : ∀ (n66 : Nat) (w16 w17 w18 : Int), -1000 ≤ w16 ∧ w16 ≤ 122 → -1 ≤ w17 ∧ w17 ≤ 120 → 0 ≤ w18 ∧ w18 ≤ 121 → 121 - w18 < (n66 : Int) → K 66 [some (vR 2 0), some (vI l), some (vI w), some (vI b), some (vI z), some (vR 7 l), some (vI w16), some (vI w17), some (vI w8), some (vI w18)] [] σ := by
              intro n66
              induction n66 with
              | zero => intro w16 w17 w18  f_w16 f_w17 f_w18  hm  ; omega
              | succ n66 ih66 =>
                intro w16 w17 w18  f_w16 f_w17 f_w18  hm66  
                refine r_iload hC dX5_shortest_66 rfl ?_
                refine r_aload hC dX5_shortest_68 rfl ?_
                refine z_getI (jz := 6) hM dX5_shortest_70 fl_RX5_154 rfl rfl rfl (fun v19 h_v19 o_v19 t_v19 => ?_)
                clear t_v19
                have q_v19 : 0 ≤ v19 ∧ v19 ≤ 121 := o_v19.1 rfl
                have J134_20 : K 134 [some (vR 2 0), some (vI l), some (vI w), some (vI b), some (vI z), some (vR 7 l), some (vI w16), some (vI w17), some (vI w8), some (vI w18)] [] σ := by
                  refine r_iincE hC ((w8 + 1)) dX5_shortest_134 rfl rfl (by omega) (by unfold inR; omega) ?_
                  refine r_goto (tgt := 40) hC dX5_shortest_137 rfl ?_
                  refine r_forget hC (ls2 := [some (vR 2 0), some (vI l), some (vI w), some (vI b), some (vI z), some (vR 7 l), some (vI w16), some (vI w17), some (vI (w8 + 1)), none]) (lsub_some (lsub_some (lsub_some (lsub_some (lsub_some (lsub_some (lsub_some (lsub_some (lsub_some (lsub_none lsub_nil)))))))))) ?_
                  exact ih40 (w16) (w17) ((w8 + 1))  (by omega) (by omega) (by omega)  (by omega)  
                refine r_icmp_ge (tgt := 134) hC dX5_shortest_73 rfl (fun h20 => ?_) (fun h20 => ?_)
                · exact J134_20
                · refine r_iload hC dX5_shortest_76 rfl ?_
                  refine r_iload hC dX5_shortest_78 rfl ?_
                  refine r_isubE hC ((w18 - w8)) dX5_shortest_80 (by omega) (by unfold inR; omega) ?_
                  refine r_iconst hC dX5_shortest_81 rfl ?_
                  refine r_iaddE hC (((w18 - w8) + 1)) dX5_shortest_82 (by omega) (by unfold inR; omega) ?_
                  refine r_iload hC dX5_shortest_83 rfl ?_
                  refine r_icmp_ge (tgt := 134) hC dX5_shortest_85 rfl (fun h22 => ?_) (fun h22 => ?_)
                  · exact J134_20
                  · refine r_aload_n hC dX5_shortest_88 rfl ?_
                    refine z_getR hM dX5_shortest_89 fl_RX5_40 rfl rfl (vld_of (n := 1) rfl (by omega) (by omega)) ?_
                    refine r_aload hC dX5_shortest_92 rfl ?_
                    refine z_getR hM dX5_shortest_94 fl_RX5_176 rfl rfl (vld_of (n := 7) rfl (by omega) (by omega)) ?_
                    refine r_iload hC dX5_shortest_97 rfl ?_
                    refine z_iald hM dX5_shortest_99 rfl (by omega) (by omega) (fun v23 h_v23 o_v23 t_v23 => ?_)
                    clear t_v23
                    have q_v23 : -1000 ≤ v23 ∧ v23 ≤ 1000 := o_v23
                    refine z_inv1 hM dX5_shortest_100 vl_RX5_253 rfl rfl rfl (Nat.le_of_ble_eq_true rfl) (Nat.le_of_ble_eq_true rfl) ?_
                    refine qs_append (by omega) ?_
                    refine r_aload_n hC dX5_shortest_103 rfl ?_
                    refine z_getR hM dX5_shortest_104 fl_RX5_40 rfl rfl (vld_of (n := 1) rfl (by omega) (by omega)) ?_
                    refine r_iload_n hC dX5_shortest_107 rfl ?_
                    refine r_iload_n hC dX5_shortest_108 rfl ?_
                    refine z_inv2 hM dX5_shortest_109 vl_RX5_256 rfl rfl rfl (Nat.le_of_ble_eq_true rfl) (Nat.le_of_ble_eq_true rfl) ?_
                    refine qs_reaches (fun v24 h_v24 => ?_)
                    have J128_27 : ∀ (w26 w27 : Int), -119 ≤ w26 ∧ w26 ≤ 122 → -1 ≤ w27 ∧ w27 ≤ 120 → K 128 [some (vR 2 0), some (vI l), some (vI w), some (vI b), some (vI z), some (vR 7 l), some (vI w26), some (vI w27), some (vI w8), some (vI w18)] [] σ := by
                      intro w26 w27  f_w26 f_w27 
                      refine r_iincE hC ((w18 + 1)) dX5_shortest_128 rfl rfl (by omega) (by unfold inR; omega) ?_
                      refine r_goto (tgt := 66) hC dX5_shortest_131 rfl ?_
                      exact ih66 (w26) (w27) ((w18 + 1))  (by omega) (by omega) (by omega)  (by omega)  
                    refine r_if_eq (tgt := 128) hC dX5_shortest_112 rfl (fun h25 => ?_) (fun h25 => ?_)
                    · exact J128_27 (w16) (w17)  (by omega) (by omega)
                    · refine r_iload hC dX5_shortest_115 rfl ?_
                      refine r_iload hC dX5_shortest_117 rfl ?_
                      refine r_isubE hC ((w18 - w8)) dX5_shortest_119 (by omega) (by unfold inR; omega) ?_
                      refine r_iconst hC dX5_shortest_120 rfl ?_
                      refine r_iaddE hC (((w18 - w8) + 1)) dX5_shortest_121 (by omega) (by unfold inR; omega) ?_
                      refine r_istore hC dX5_shortest_122 rfl ?_
                      refine r_iload hC dX5_shortest_124 rfl ?_
                      refine r_istore hC dX5_shortest_126 rfl ?_
                      exact J128_27 (((w18 - w8) + 1)) (w8)  (by omega) (by omega) 
            exact L66 123 (w6) (w7) (w8)  (by omega) (by omega) (by omega)  (by omega)  
      exact L40 123 ((v5 + 1)) ((-1)) (0)  (by omega) (by omega) (by omega)  (by omega)  
    · refine r_if_ne (tgt := 25) hC dX5_shortest_20 rfl (fun h29 => by omega) (fun h29 => ?_)
      refine r_iconst hC dX5_shortest_23 rfl ?_
      refine y_iret hK rfl dX5_shortest_24 ?_
      exact k _ (by omega)
theorem qs_windows {eb : Bool} {d : Nat} {P : Option Vl → Mm → Prop} {σ : Mm} {l w x y : Int}   (k : ∀ r : Int, -2147483648 ≤ r ∧ r ≤ 2147483647 → P (some (vI r)) σ) : WT (false, false, eb) (d + 5) 110 [vR 2 0, vI l, vI w, vI x, vI y] σ P := by
  refine WT_in fun K hK => ?_
  have hK : StpY (false, false, eb) cX5_windows RX5 (some .int) (WT (false, false, eb) (d + 4)) P K := hK
  have hM := hK.1
  have hC := hK.1.1
  show K 0 [some (vR 2 0), some (vI l), some (vI w), some (vI x), some (vI y), none, none, none, none, none] [] σ
  refine r_rngz hC (fun g0 => ?_)
  have r_l : -2147483648 ≤ l ∧ l ≤ 2147483647 := inR_le (g0 (vI l) (by simp))
  have r_w : -2147483648 ≤ w ∧ w ≤ 2147483647 := inR_le (g0 (vI w) (by simp))
  have r_x : -2147483648 ≤ x ∧ x ≤ 2147483647 := inR_le (g0 (vI x) (by simp))
  have r_y : -2147483648 ≤ y ∧ y ≤ 2147483647 := inR_le (g0 (vI y) (by simp))
  refine r_aload_n hC dX5_windows_0 rfl ?_
  refine r_iload_n hC dX5_windows_1 rfl ?_
  refine r_iload_n hC dX5_windows_2 rfl ?_
  refine z_inv2 hM dX5_windows_3 vl_RX5_248 rfl rfl rfl (Nat.le_of_ble_eq_true rfl) (Nat.le_of_ble_eq_true rfl) ?_
  refine qs_laneWith ?_ (fun h1 => ?_)
  · refine r_astoreN hC dX5_windows_6 rfl ?_
    refine r_aloadN hC dX5_windows_8 rfl ?_
    refine r_ifnonnullN hC dX5_windows_10 ?_
    refine r_iconst hC dX5_windows_13 rfl ?_
    refine y_iret hK rfl dX5_windows_14 ?_
    exact k _ (by omega)
  · refine r_astore hC dX5_windows_6 rfl ?_
    refine r_aload hC dX5_windows_8 rfl ?_
    refine r_ifnonnullR (tgt := 15) hC dX5_windows_10 rfl ?_
    refine r_iconst hC dX5_windows_15 rfl ?_
    refine r_istore hC dX5_windows_16 rfl ?_
    refine r_iconst hC dX5_windows_18 rfl ?_
    refine r_istore hC dX5_windows_19 rfl ?_
    have L21 : ∀ (n21 : Nat) (w2 w3 : Int), -2147483648 ≤ w2 ∧ w2 ≤ 2147483647 → 0 ≤ w3 ∧ w3 ≤ 121 → 121 - w3 < (n21 : Int) → K 21 [some (vR 2 0), some (vI l), some (vI w), some (vI x), some (vI y), some (vR 7 l), some (vI w2), some (vI w3), none, none] [] σ := by
      intro n21
      induction n21 with
      | zero => intro w2 w3  f_w2 f_w3  hm  ; omega
      | succ n21 ih21 =>
        intro w2 w3  f_w2 f_w3  hm21  
        refine r_iload hC dX5_windows_21 rfl ?_
        refine r_aload hC dX5_windows_23 rfl ?_
        refine z_getI (jz := 6) hM dX5_windows_25 fl_RX5_154 rfl rfl rfl (fun v4 h_v4 o_v4 t_v4 => ?_)
        clear t_v4
        have q_v4 : 0 ≤ v4 ∧ v4 ≤ 121 := o_v4.1 rfl
        refine r_icmp_ge (tgt := 122) hC dX5_windows_28 rfl (fun h5 => ?_) (fun h5 => ?_)
        · refine r_iload hC dX5_windows_122 rfl ?_
          refine y_iret hK rfl dX5_windows_124 ?_
          exact k _ (by omega)
        · refine r_aload_n hC dX5_windows_31 rfl ?_
          refine z_getR hM dX5_windows_32 fl_RX5_40 rfl rfl (vld_of (n := 1) rfl (by omega) (by omega)) ?_
          refine r_aload hC dX5_windows_35 rfl ?_
          refine z_getI (jz := 2) hM dX5_windows_37 fl_RX5_98 rfl rfl rfl (fun v6 h_v6 o_v6 t_v6 => ?_)
          clear t_v6
          have q_v6 : 0 ≤ v6 ∧ v6 ≤ 9 := o_v6.2.2 rfl
          refine z_inv1 hM dX5_windows_40 vl_RX5_251 rfl rfl rfl (Nat.le_of_ble_eq_true rfl) (Nat.le_of_ble_eq_true rfl) ?_
          refine qs_begin (by omega) ?_
          refine r_iload hC dX5_windows_43 rfl ?_
          refine r_istore hC dX5_windows_45 rfl ?_
          have L47 : ∀ (n47 : Nat) (w7 w8 : Int), -2147483648 ≤ w7 ∧ w7 ≤ 2147483647 → 0 ≤ w8 ∧ w8 ≤ 121 → 121 - w8 < (n47 : Int) → K 47 [some (vR 2 0), some (vI l), some (vI w), some (vI x), some (vI y), some (vR 7 l), some (vI w7), some (vI w3), some (vI w8), none] [] σ := by
            intro n47
            induction n47 with
            | zero => intro w7 w8  f_w7 f_w8  hm  ; omega
            | succ n47 ih47 =>
              intro w7 w8  f_w7 f_w8  hm47  
              refine r_iload hC dX5_windows_47 rfl ?_
              refine r_aload hC dX5_windows_49 rfl ?_
              refine z_getI (jz := 6) hM dX5_windows_51 fl_RX5_154 rfl rfl rfl (fun v9 h_v9 o_v9 t_v9 => ?_)
              clear t_v9
              have q_v9 : 0 ≤ v9 ∧ v9 ≤ 121 := o_v9.1 rfl
              refine r_icmp_ge (tgt := 116) hC dX5_windows_54 rfl (fun h10 => ?_) (fun h10 => ?_)
              · refine r_iincE hC ((w3 + 1)) dX5_windows_116 rfl rfl (by omega) (by unfold inR; omega) ?_
                refine r_goto (tgt := 21) hC dX5_windows_119 rfl ?_
                refine r_forget hC (ls2 := [some (vR 2 0), some (vI l), some (vI w), some (vI x), some (vI y), some (vR 7 l), some (vI w7), some (vI (w3 + 1)), none, none]) (lsub_some (lsub_some (lsub_some (lsub_some (lsub_some (lsub_some (lsub_some (lsub_some (lsub_none (lsub_none lsub_nil)))))))))) ?_
                exact ih21 (w7) ((w3 + 1))  (by omega) (by omega)  (by omega)  
              · refine r_aload_n hC dX5_windows_57 rfl ?_
                refine z_getR hM dX5_windows_58 fl_RX5_40 rfl rfl (vld_of (n := 1) rfl (by omega) (by omega)) ?_
                refine r_aload hC dX5_windows_61 rfl ?_
                refine z_getR hM dX5_windows_63 fl_RX5_176 rfl rfl (vld_of (n := 7) rfl (by omega) (by omega)) ?_
                refine r_iload hC dX5_windows_66 rfl ?_
                refine z_iald hM dX5_windows_68 rfl (by omega) (by omega) (fun v11 h_v11 o_v11 t_v11 => ?_)
                clear t_v11
                have q_v11 : -1000 ≤ v11 ∧ v11 ≤ 1000 := o_v11
                refine z_inv1 hM dX5_windows_69 vl_RX5_253 rfl rfl rfl (Nat.le_of_ble_eq_true rfl) (Nat.le_of_ble_eq_true rfl) ?_
                refine qs_append (by omega) ?_
                refine r_aload_n hC dX5_windows_72 rfl ?_
                refine z_getR hM dX5_windows_73 fl_RX5_40 rfl rfl (vld_of (n := 1) rfl (by omega) (by omega)) ?_
                refine r_iload_n hC dX5_windows_76 rfl ?_
                refine z_inv1 hM dX5_windows_77 vl_RX5_273 rfl rfl rfl (Nat.le_of_ble_eq_true rfl) (Nat.le_of_ble_eq_true rfl) ?_
                refine qs_number (fun v12 h_v12 => ?_)
                refine r_istore hC dX5_windows_80 rfl ?_
                refine r_iload hC dX5_windows_82 rfl ?_
                refine r_iload hC dX5_windows_84 rfl ?_
                refine r_ldc hC dX5_windows_86 co_RX5_175 rfl ?_
                have J107_14 : ∀ (w14 : Int), 0 ≤ w14 ∧ w14 ≤ 1 → K 107 [some (vR 2 0), some (vI l), some (vI w), some (vI x), some (vI y), some (vR 7 l), some (vI w7), some (vI w3), some (vI w8), some (vI v12)] [vI w14, vI w7] σ := by
                  intro w14  f_w14 
                  refine r_iaddG hC dX5_windows_107 (fun v16 h_v16 => ?_)
                  refine r_istore hC dX5_windows_108 rfl ?_
                  refine r_iincE hC ((w8 + 1)) dX5_windows_110 rfl rfl (by omega) (by unfold inR; omega) ?_
                  refine r_goto (tgt := 47) hC dX5_windows_113 rfl ?_
                  refine r_forget hC (ls2 := [some (vR 2 0), some (vI l), some (vI w), some (vI x), some (vI y), some (vR 7 l), some (vI v16), some (vI w3), some (vI (w8 + 1)), none]) (lsub_some (lsub_some (lsub_some (lsub_some (lsub_some (lsub_some (lsub_some (lsub_some (lsub_some (lsub_none lsub_nil)))))))))) ?_
                  exact ih47 (v16) ((w8 + 1))  (by omega) (by omega)  (by omega)  
                refine r_icmp_eq (tgt := 106) hC dX5_windows_88 rfl (fun h13 => ?_) (fun h13 => ?_)
                · refine r_iconst hC dX5_windows_106 rfl ?_
                  exact J107_14 (0)  (by omega) 
                · refine r_iload hC dX5_windows_91 rfl ?_
                  refine r_iload_n hC dX5_windows_93 rfl ?_
                  refine r_iload hC dX5_windows_94 rfl ?_
                  refine z_ins3 hM dX5_windows_96 tl_RX5_59 rfl (Nat.le_of_ble_eq_true rfl) (Nat.le_of_ble_eq_true rfl) ?_
                  refine qs_within (fun h18 => ?_) (fun h18 => ?_)
                  · refine r_if_eq (tgt := 106) hC dX5_windows_99 rfl (fun h19 => by omega) (fun h19 => ?_)
                    refine r_iconst hC dX5_windows_102 rfl ?_
                    refine r_goto (tgt := 107) hC dX5_windows_103 rfl ?_
                    exact J107_14 (1)  (by omega) 
                  · refine r_if_eq (tgt := 106) hC dX5_windows_99 rfl (fun h20 => ?_) (fun h20 => by omega)
                    refine r_iconst hC dX5_windows_106 rfl ?_
                    exact J107_14 (0)  (by omega) 
          exact L47 123 (w2) (w3)  (by omega) (by omega)  (by omega)  
    exact L21 123 (0) (0)  (by omega) (by omega)  (by omega)  
theorem qs_were {eb : Bool} {d : Nat} {P : Option Vl → Mm → Prop} {σ : Mm} {l t v w : Int}   (k : ∀ r : Int, -2147483648 ≤ r ∧ r ≤ 2147483647 → P (some (vI r)) σ) : WT (false, false, eb) (d + 5) 111 [vR 2 0, vI l, vI t, vI v, vI w] σ P := by
  refine WT_in fun K hK => ?_
  have hK : StpY (false, false, eb) cX5_were RX5 (some .int) (WT (false, false, eb) (d + 4)) P K := hK
  have hM := hK.1
  have hC := hK.1.1
  show K 0 [some (vR 2 0), some (vI l), some (vI t), some (vI v), some (vI w), none, none, none, none, none, none] [] σ
  refine r_rngz hC (fun g0 => ?_)
  have r_l : -2147483648 ≤ l ∧ l ≤ 2147483647 := inR_le (g0 (vI l) (by simp))
  have r_t : -2147483648 ≤ t ∧ t ≤ 2147483647 := inR_le (g0 (vI t) (by simp))
  have r_v : -2147483648 ≤ v ∧ v ≤ 2147483647 := inR_le (g0 (vI v) (by simp))
  have r_w : -2147483648 ≤ w ∧ w ≤ 2147483647 := inR_le (g0 (vI w) (by simp))
  refine r_aload_n hC dX5_were_0 rfl ?_
  refine r_iload_n hC dX5_were_1 rfl ?_
  refine r_iload hC dX5_were_2 rfl ?_
  refine z_inv2 hM dX5_were_4 vl_RX5_248 rfl rfl rfl (Nat.le_of_ble_eq_true rfl) (Nat.le_of_ble_eq_true rfl) ?_
  refine qs_laneWith ?_ (fun h1 => ?_)
  · refine r_astoreN hC dX5_were_7 rfl ?_
    refine r_aloadN hC dX5_were_9 rfl ?_
    refine r_ifnullN (tgt := 45) hC dX5_were_11 rfl ?_
    refine r_ldc hC dX5_were_45 co_RX5_175 rfl ?_
    refine y_iret hK rfl dX5_were_47 ?_
    exact k _ (by omega)
  · refine r_astore hC dX5_were_7 rfl ?_
    refine r_aload hC dX5_were_9 rfl ?_
    refine r_ifnullR hC dX5_were_11 ?_
    refine r_iload_n hC dX5_were_14 rfl ?_
    refine z_ins1 hM dX5_were_15 tl_RX5_127 rfl (Nat.le_of_ble_eq_true rfl) (Nat.le_of_ble_eq_true rfl) ?_
    refine qs_isTime (fun h3 => ?_) (fun h3 => ?_)
    · refine r_if_eq (tgt := 45) hC dX5_were_18 rfl (fun h4 => by omega) (fun h4 => ?_)
      refine r_iload_n hC dX5_were_21 rfl ?_
      refine z_ins1 hM dX5_were_22 tl_RX5_130 rfl (Nat.le_of_ble_eq_true rfl) (Nat.le_of_ble_eq_true rfl) ?_
      refine qs_isValue (fun h6 => ?_) (fun h6 => ?_)
      · refine r_if_eq (tgt := 45) hC dX5_were_25 rfl (fun h7 => by omega) (fun h7 => ?_)
        refine r_aload hC dX5_were_28 rfl ?_
        refine r_iload_n hC dX5_were_30 rfl ?_
        refine z_inv1 hM dX5_were_31 vl_RX5_133 rfl rfl rfl (Nat.le_of_ble_eq_true rfl) (Nat.le_of_ble_eq_true rfl) ?_
        refine qs_isTooLate (by omega) (fun v8 h_v8 => ?_)
        refine r_if_ne (tgt := 45) hC dX5_were_34 rfl (fun h9 => ?_) (fun h9 => ?_)
        · refine r_ldc hC dX5_were_45 co_RX5_175 rfl ?_
          refine y_iret hK rfl dX5_were_47 ?_
          exact k _ (by omega)
        · refine r_aload hC dX5_were_37 rfl ?_
          refine z_inv0 hM dX5_were_39 vl_RX5_139 rfl rfl rfl (Nat.le_of_ble_eq_true rfl) (Nat.le_of_ble_eq_true rfl) ?_
          refine qs_isFull (by omega) (fun v10 h_v10 => ?_)
          refine r_if_eq (tgt := 48) hC dX5_were_42 rfl (fun h11 => ?_) (fun h11 => ?_)
          · refine r_aload hC dX5_were_48 rfl ?_
            refine r_iload_n hC dX5_were_50 rfl ?_
            refine r_i2l hC dX5_were_51 ?_
            refine z_inv1 hM dX5_were_52 vl_RX5_167 rfl rfl rfl (Nat.le_of_ble_eq_true rfl) (Nat.le_of_ble_eq_true rfl) ?_
            refine qs_heldUntil (by omega) (fun v12 h_v12 => ?_)
            refine r_istore hC dX5_were_55 rfl ?_
            refine r_aload hC dX5_were_57 rfl ?_
            refine z_getI (jz := 10) hM dX5_were_59 fl_RX5_157 rfl rfl rfl (fun v13 h_v13 o_v13 t_v13 => ?_)
            clear t_v13
            refine r_iload_n hC dX5_were_62 rfl ?_
            refine z_ins2 hM dX5_were_63 tl_RX5_239 rfl (Nat.le_of_ble_eq_true rfl) (Nat.le_of_ble_eq_true rfl) ?_
            refine qs_max (fun v14 h_v14 => ?_)
            refine r_istore hC dX5_were_66 rfl ?_
            refine r_aload_n hC dX5_were_68 rfl ?_
            refine z_getR hM dX5_were_69 fl_RX5_40 rfl rfl (vld_of (n := 1) rfl (by omega) (by omega)) ?_
            refine r_aload hC dX5_were_72 rfl ?_
            refine z_getI (jz := 2) hM dX5_were_74 fl_RX5_98 rfl rfl rfl (fun v15 h_v15 o_v15 t_v15 => ?_)
            clear t_v15
            have q_v15 : 0 ≤ v15 ∧ v15 ≤ 9 := o_v15.2.2 rfl
            refine z_inv1 hM dX5_were_77 vl_RX5_251 rfl rfl rfl (Nat.le_of_ble_eq_true rfl) (Nat.le_of_ble_eq_true rfl) ?_
            refine qs_begin (by omega) ?_
            refine r_iconst hC dX5_were_80 rfl ?_
            refine r_istore hC dX5_were_81 rfl ?_
            have L83 : ∀ (n83 : Nat) (w16 : Int), 0 ≤ w16 ∧ w16 ≤ 122 → 122 - w16 < (n83 : Int) → K 83 [some (vR 2 0), some (vI l), some (vI t), some (vI v), some (vI w), some (vR 7 l), some (vI v12), some (vI v14), some (vI w16), none, none] [] σ := by
              intro n83
              induction n83 with
              | zero => intro w16  f_w16  hm  ; omega
              | succ n83 ih83 =>
                intro w16  f_w16  hm83  
                refine r_iload hC dX5_were_83 rfl ?_
                refine r_aload hC dX5_were_85 rfl ?_
                refine z_getI (jz := 6) hM dX5_were_87 fl_RX5_154 rfl rfl rfl (fun v17 h_v17 o_v17 t_v17 => ?_)
                clear t_v17
                have q_v17 : 0 ≤ v17 ∧ v17 ≤ 121 := o_v17.1 rfl
                refine r_icmp_gt (tgt := 186) hC dX5_were_90 rfl (fun h18 => ?_) (fun h18 => ?_)
                · refine r_aload_n hC dX5_were_186 rfl ?_
                  refine z_getR hM dX5_were_187 fl_RX5_40 rfl rfl (vld_of (n := 1) rfl (by omega) (by omega)) ?_
                  refine r_iload hC dX5_were_190 rfl ?_
                  refine z_inv1 hM dX5_were_192 vl_RX5_273 rfl rfl rfl (Nat.le_of_ble_eq_true rfl) (Nat.le_of_ble_eq_true rfl) ?_
                  refine qs_number (fun v19 h_v19 => ?_)
                  refine y_iret hK rfl dX5_were_195 ?_
                  exact k _ (by omega)
                · refine r_iload hC dX5_were_93 rfl ?_
                  refine r_iload hC dX5_were_95 rfl ?_
                  refine r_icmp_ge (tgt := 105) hC dX5_were_97 rfl (fun h20 => ?_) (fun h20 => ?_)
                  · refine r_iload hC dX5_were_105 rfl ?_
                    refine r_iconst hC dX5_were_107 rfl ?_
                    refine r_isubE hC ((w16 - 1)) dX5_were_108 (by omega) (by unfold inR; omega) ?_
                    refine r_istore hC dX5_were_109 rfl ?_
                    refine r_iload hC dX5_were_111 rfl ?_
                    refine r_iload hC dX5_were_113 rfl ?_
                    refine r_icmp_ne (tgt := 122) hC dX5_were_115 rfl (fun h21 => ?_) (fun h21 => ?_)
                    · refine r_aload hC dX5_were_122 rfl ?_
                      refine z_getR hM dX5_were_124 fl_RX5_198 rfl rfl (vld_of (n := 7) rfl (by omega) (by omega)) ?_
                      refine r_iload hC dX5_were_127 rfl ?_
                      refine z_iald hM dX5_were_129 rfl (by omega) (by omega) (fun v22 h_v22 o_v22 t_v22 => ?_)
                      clear t_v22
                      refine r_istore hC dX5_were_130 rfl ?_
                      refine r_aload hC dX5_were_132 rfl ?_
                      refine r_aload hC dX5_were_134 rfl ?_
                      refine z_getI (jz := 6) hM dX5_were_136 fl_RX5_154 rfl rfl rfl (fun v23 h_v23 o_v23 t_v23 => ?_)
                      clear t_v23
                      have q_v23 : 0 ≤ v23 ∧ v23 ≤ 121 := o_v23.1 rfl
                      refine r_iconst hC dX5_were_139 rfl ?_
                      refine r_iaddE hC ((v23 + 1)) dX5_were_140 (by omega) (by unfold inR; omega) ?_
                      refine r_iload hC dX5_were_141 rfl ?_
                      refine r_isubE hC (((v23 + 1) - w16)) dX5_were_143 (by omega) (by unfold inR; omega) ?_
                      refine r_iload hC dX5_were_144 rfl ?_
                      refine r_iload hC dX5_were_146 rfl ?_
                      refine z_inv3 hM dX5_were_148 vl_RX5_201 rfl rfl rfl (Nat.le_of_ble_eq_true rfl) (Nat.le_of_ble_eq_true rfl) ?_
                      refine qs_goes (by omega) (fun v24 h_v24 => ?_)
                      refine r_if_ne (tgt := 180) hC dX5_were_151 rfl (fun h25 => ?_) (fun h25 => ?_)
                      · refine r_iincE hC ((w16 + 1)) dX5_were_180 rfl rfl (by omega) (by unfold inR; omega) ?_
                        refine r_goto (tgt := 83) hC dX5_were_183 rfl ?_
                        refine r_forget hC (ls2 := [some (vR 2 0), some (vI l), some (vI t), some (vI v), some (vI w), some (vR 7 l), some (vI v12), some (vI v14), some (vI (w16 + 1)), none, none]) (lsub_some (lsub_some (lsub_some (lsub_some (lsub_some (lsub_some (lsub_some (lsub_some (lsub_some (lsub_none (lsub_none lsub_nil))))))))))) ?_
                        exact ih83 ((w16 + 1))  (by omega)  (by omega)  
                      · refine r_aload_n hC dX5_were_154 rfl ?_
                        refine z_getR hM dX5_were_155 fl_RX5_40 rfl rfl (vld_of (n := 1) rfl (by omega) (by omega)) ?_
                        refine r_iload hC dX5_were_158 rfl ?_
                        refine r_iload hC dX5_were_160 rfl ?_
                        refine r_icmp_ne (tgt := 169) hC dX5_were_162 rfl (fun h26 => ?_) (fun h26 => ?_)
                        · refine r_aload hC dX5_were_169 rfl ?_
                          refine z_getR hM dX5_were_171 fl_RX5_176 rfl rfl (vld_of (n := 7) rfl (by omega) (by omega)) ?_
                          refine r_iload hC dX5_were_174 rfl ?_
                          refine z_iald hM dX5_were_176 rfl (by omega) (by omega) (fun v27 h_v27 o_v27 t_v27 => ?_)
                          clear t_v27
                          have q_v27 : -1000 ≤ v27 ∧ v27 ≤ 1000 := o_v27
                          refine z_inv1 hM dX5_were_177 vl_RX5_253 rfl rfl rfl (Nat.le_of_ble_eq_true rfl) (Nat.le_of_ble_eq_true rfl) ?_
                          refine qs_append (by omega) ?_
                          refine r_iincE hC ((w16 + 1)) dX5_were_180 rfl rfl (by omega) (by unfold inR; omega) ?_
                          refine r_goto (tgt := 83) hC dX5_were_183 rfl ?_
                          refine r_forget hC (ls2 := [some (vR 2 0), some (vI l), some (vI t), some (vI v), some (vI w), some (vR 7 l), some (vI v12), some (vI v14), some (vI (w16 + 1)), none, none]) (lsub_some (lsub_some (lsub_some (lsub_some (lsub_some (lsub_some (lsub_some (lsub_some (lsub_some (lsub_none (lsub_none lsub_nil))))))))))) ?_
                          exact ih83 ((w16 + 1))  (by omega)  (by omega)  
                        · refine r_iload_n hC dX5_were_165 rfl ?_
                          refine r_goto (tgt := 177) hC dX5_were_166 rfl ?_
                          refine z_inv1 hM dX5_were_177 vl_RX5_253 rfl rfl rfl (Nat.le_of_ble_eq_true rfl) (Nat.le_of_ble_eq_true rfl) ?_
                          refine qs_append (by omega) ?_
                          refine r_iincE hC ((w16 + 1)) dX5_were_180 rfl rfl (by omega) (by unfold inR; omega) ?_
                          refine r_goto (tgt := 83) hC dX5_were_183 rfl ?_
                          refine r_forget hC (ls2 := [some (vR 2 0), some (vI l), some (vI t), some (vI v), some (vI w), some (vR 7 l), some (vI v12), some (vI v14), some (vI (w16 + 1)), none, none]) (lsub_some (lsub_some (lsub_some (lsub_some (lsub_some (lsub_some (lsub_some (lsub_some (lsub_some (lsub_none (lsub_none lsub_nil))))))))))) ?_
                          exact ih83 ((w16 + 1))  (by omega)  (by omega)  
                    · refine r_iload_n hC dX5_were_118 rfl ?_
                      refine r_goto (tgt := 130) hC dX5_were_119 rfl ?_
                      refine r_istore hC dX5_were_130 rfl ?_
                      refine r_aload hC dX5_were_132 rfl ?_
                      refine r_aload hC dX5_were_134 rfl ?_
                      refine z_getI (jz := 6) hM dX5_were_136 fl_RX5_154 rfl rfl rfl (fun v28 h_v28 o_v28 t_v28 => ?_)
                      clear t_v28
                      have q_v28 : 0 ≤ v28 ∧ v28 ≤ 121 := o_v28.1 rfl
                      refine r_iconst hC dX5_were_139 rfl ?_
                      refine r_iaddE hC ((v28 + 1)) dX5_were_140 (by omega) (by unfold inR; omega) ?_
                      refine r_iload hC dX5_were_141 rfl ?_
                      refine r_isubE hC (((v28 + 1) - w16)) dX5_were_143 (by omega) (by unfold inR; omega) ?_
                      refine r_iload hC dX5_were_144 rfl ?_
                      refine r_iload hC dX5_were_146 rfl ?_
                      refine z_inv3 hM dX5_were_148 vl_RX5_201 rfl rfl rfl (Nat.le_of_ble_eq_true rfl) (Nat.le_of_ble_eq_true rfl) ?_
                      refine qs_goes (by omega) (fun v29 h_v29 => ?_)
                      refine r_if_ne (tgt := 180) hC dX5_were_151 rfl (fun h30 => ?_) (fun h30 => ?_)
                      · refine r_iincE hC ((w16 + 1)) dX5_were_180 rfl rfl (by omega) (by unfold inR; omega) ?_
                        refine r_goto (tgt := 83) hC dX5_were_183 rfl ?_
                        refine r_forget hC (ls2 := [some (vR 2 0), some (vI l), some (vI t), some (vI v), some (vI w), some (vR 7 l), some (vI v12), some (vI v14), some (vI (w16 + 1)), none, none]) (lsub_some (lsub_some (lsub_some (lsub_some (lsub_some (lsub_some (lsub_some (lsub_some (lsub_some (lsub_none (lsub_none lsub_nil))))))))))) ?_
                        exact ih83 ((w16 + 1))  (by omega)  (by omega)  
                      · refine r_aload_n hC dX5_were_154 rfl ?_
                        refine z_getR hM dX5_were_155 fl_RX5_40 rfl rfl (vld_of (n := 1) rfl (by omega) (by omega)) ?_
                        refine r_iload hC dX5_were_158 rfl ?_
                        refine r_iload hC dX5_were_160 rfl ?_
                        refine r_icmp_ne (tgt := 169) hC dX5_were_162 rfl (fun h31 => ?_) (fun h31 => ?_)
                        · refine r_aload hC dX5_were_169 rfl ?_
                          refine z_getR hM dX5_were_171 fl_RX5_176 rfl rfl (vld_of (n := 7) rfl (by omega) (by omega)) ?_
                          refine r_iload hC dX5_were_174 rfl ?_
                          refine z_iald hM dX5_were_176 rfl (by omega) (by omega) (fun v32 h_v32 o_v32 t_v32 => ?_)
                          clear t_v32
                          have q_v32 : -1000 ≤ v32 ∧ v32 ≤ 1000 := o_v32
                          refine z_inv1 hM dX5_were_177 vl_RX5_253 rfl rfl rfl (Nat.le_of_ble_eq_true rfl) (Nat.le_of_ble_eq_true rfl) ?_
                          refine qs_append (by omega) ?_
                          refine r_iincE hC ((w16 + 1)) dX5_were_180 rfl rfl (by omega) (by unfold inR; omega) ?_
                          refine r_goto (tgt := 83) hC dX5_were_183 rfl ?_
                          refine r_forget hC (ls2 := [some (vR 2 0), some (vI l), some (vI t), some (vI v), some (vI w), some (vR 7 l), some (vI v12), some (vI v14), some (vI (w16 + 1)), none, none]) (lsub_some (lsub_some (lsub_some (lsub_some (lsub_some (lsub_some (lsub_some (lsub_some (lsub_some (lsub_none (lsub_none lsub_nil))))))))))) ?_
                          exact ih83 ((w16 + 1))  (by omega)  (by omega)  
                        · refine r_iload_n hC dX5_were_165 rfl ?_
                          refine r_goto (tgt := 177) hC dX5_were_166 rfl ?_
                          refine z_inv1 hM dX5_were_177 vl_RX5_253 rfl rfl rfl (Nat.le_of_ble_eq_true rfl) (Nat.le_of_ble_eq_true rfl) ?_
                          refine qs_append (by omega) ?_
                          refine r_iincE hC ((w16 + 1)) dX5_were_180 rfl rfl (by omega) (by unfold inR; omega) ?_
                          refine r_goto (tgt := 83) hC dX5_were_183 rfl ?_
                          refine r_forget hC (ls2 := [some (vR 2 0), some (vI l), some (vI t), some (vI v), some (vI w), some (vR 7 l), some (vI v12), some (vI v14), some (vI (w16 + 1)), none, none]) (lsub_some (lsub_some (lsub_some (lsub_some (lsub_some (lsub_some (lsub_some (lsub_some (lsub_some (lsub_none (lsub_none lsub_nil))))))))))) ?_
                          exact ih83 ((w16 + 1))  (by omega)  (by omega)  
                  · refine r_iload hC dX5_were_100 rfl ?_
                    refine r_goto (tgt := 109) hC dX5_were_102 rfl ?_
                    refine r_istore hC dX5_were_109 rfl ?_
                    refine r_iload hC dX5_were_111 rfl ?_
                    refine r_iload hC dX5_were_113 rfl ?_
                    refine r_icmp_ne (tgt := 122) hC dX5_were_115 rfl (fun h33 => ?_) (fun h33 => ?_)
                    · refine r_aload hC dX5_were_122 rfl ?_
                      refine z_getR hM dX5_were_124 fl_RX5_198 rfl rfl (vld_of (n := 7) rfl (by omega) (by omega)) ?_
                      refine r_iload hC dX5_were_127 rfl ?_
                      refine z_iald hM dX5_were_129 rfl (by omega) (by omega) (fun v34 h_v34 o_v34 t_v34 => ?_)
                      clear t_v34
                      refine r_istore hC dX5_were_130 rfl ?_
                      refine r_aload hC dX5_were_132 rfl ?_
                      refine r_aload hC dX5_were_134 rfl ?_
                      refine z_getI (jz := 6) hM dX5_were_136 fl_RX5_154 rfl rfl rfl (fun v35 h_v35 o_v35 t_v35 => ?_)
                      clear t_v35
                      have q_v35 : 0 ≤ v35 ∧ v35 ≤ 121 := o_v35.1 rfl
                      refine r_iconst hC dX5_were_139 rfl ?_
                      refine r_iaddE hC ((v35 + 1)) dX5_were_140 (by omega) (by unfold inR; omega) ?_
                      refine r_iload hC dX5_were_141 rfl ?_
                      refine r_isubE hC (((v35 + 1) - w16)) dX5_were_143 (by omega) (by unfold inR; omega) ?_
                      refine r_iload hC dX5_were_144 rfl ?_
                      refine r_iload hC dX5_were_146 rfl ?_
                      refine z_inv3 hM dX5_were_148 vl_RX5_201 rfl rfl rfl (Nat.le_of_ble_eq_true rfl) (Nat.le_of_ble_eq_true rfl) ?_
                      refine qs_goes (by omega) (fun v36 h_v36 => ?_)
                      refine r_if_ne (tgt := 180) hC dX5_were_151 rfl (fun h37 => ?_) (fun h37 => ?_)
                      · refine r_iincE hC ((w16 + 1)) dX5_were_180 rfl rfl (by omega) (by unfold inR; omega) ?_
                        refine r_goto (tgt := 83) hC dX5_were_183 rfl ?_
                        refine r_forget hC (ls2 := [some (vR 2 0), some (vI l), some (vI t), some (vI v), some (vI w), some (vR 7 l), some (vI v12), some (vI v14), some (vI (w16 + 1)), none, none]) (lsub_some (lsub_some (lsub_some (lsub_some (lsub_some (lsub_some (lsub_some (lsub_some (lsub_some (lsub_none (lsub_none lsub_nil))))))))))) ?_
                        exact ih83 ((w16 + 1))  (by omega)  (by omega)  
                      · refine r_aload_n hC dX5_were_154 rfl ?_
                        refine z_getR hM dX5_were_155 fl_RX5_40 rfl rfl (vld_of (n := 1) rfl (by omega) (by omega)) ?_
                        refine r_iload hC dX5_were_158 rfl ?_
                        refine r_iload hC dX5_were_160 rfl ?_
                        refine r_icmp_ne (tgt := 169) hC dX5_were_162 rfl (fun h38 => ?_) (fun h38 => ?_)
                        · refine r_aload hC dX5_were_169 rfl ?_
                          refine z_getR hM dX5_were_171 fl_RX5_176 rfl rfl (vld_of (n := 7) rfl (by omega) (by omega)) ?_
                          refine r_iload hC dX5_were_174 rfl ?_
                          refine z_iald hM dX5_were_176 rfl (by omega) (by omega) (fun v39 h_v39 o_v39 t_v39 => ?_)
                          clear t_v39
                          have q_v39 : -1000 ≤ v39 ∧ v39 ≤ 1000 := o_v39
                          refine z_inv1 hM dX5_were_177 vl_RX5_253 rfl rfl rfl (Nat.le_of_ble_eq_true rfl) (Nat.le_of_ble_eq_true rfl) ?_
                          refine qs_append (by omega) ?_
                          refine r_iincE hC ((w16 + 1)) dX5_were_180 rfl rfl (by omega) (by unfold inR; omega) ?_
                          refine r_goto (tgt := 83) hC dX5_were_183 rfl ?_
                          refine r_forget hC (ls2 := [some (vR 2 0), some (vI l), some (vI t), some (vI v), some (vI w), some (vR 7 l), some (vI v12), some (vI v14), some (vI (w16 + 1)), none, none]) (lsub_some (lsub_some (lsub_some (lsub_some (lsub_some (lsub_some (lsub_some (lsub_some (lsub_some (lsub_none (lsub_none lsub_nil))))))))))) ?_
                          exact ih83 ((w16 + 1))  (by omega)  (by omega)  
                        · refine r_iload_n hC dX5_were_165 rfl ?_
                          refine r_goto (tgt := 177) hC dX5_were_166 rfl ?_
                          refine z_inv1 hM dX5_were_177 vl_RX5_253 rfl rfl rfl (Nat.le_of_ble_eq_true rfl) (Nat.le_of_ble_eq_true rfl) ?_
                          refine qs_append (by omega) ?_
                          refine r_iincE hC ((w16 + 1)) dX5_were_180 rfl rfl (by omega) (by unfold inR; omega) ?_
                          refine r_goto (tgt := 83) hC dX5_were_183 rfl ?_
                          refine r_forget hC (ls2 := [some (vR 2 0), some (vI l), some (vI t), some (vI v), some (vI w), some (vR 7 l), some (vI v12), some (vI v14), some (vI (w16 + 1)), none, none]) (lsub_some (lsub_some (lsub_some (lsub_some (lsub_some (lsub_some (lsub_some (lsub_some (lsub_some (lsub_none (lsub_none lsub_nil))))))))))) ?_
                          exact ih83 ((w16 + 1))  (by omega)  (by omega)  
                    · refine r_iload_n hC dX5_were_118 rfl ?_
                      refine r_goto (tgt := 130) hC dX5_were_119 rfl ?_
                      refine r_istore hC dX5_were_130 rfl ?_
                      refine r_aload hC dX5_were_132 rfl ?_
                      refine r_aload hC dX5_were_134 rfl ?_
                      refine z_getI (jz := 6) hM dX5_were_136 fl_RX5_154 rfl rfl rfl (fun v40 h_v40 o_v40 t_v40 => ?_)
                      clear t_v40
                      have q_v40 : 0 ≤ v40 ∧ v40 ≤ 121 := o_v40.1 rfl
                      refine r_iconst hC dX5_were_139 rfl ?_
                      refine r_iaddE hC ((v40 + 1)) dX5_were_140 (by omega) (by unfold inR; omega) ?_
                      refine r_iload hC dX5_were_141 rfl ?_
                      refine r_isubE hC (((v40 + 1) - w16)) dX5_were_143 (by omega) (by unfold inR; omega) ?_
                      refine r_iload hC dX5_were_144 rfl ?_
                      refine r_iload hC dX5_were_146 rfl ?_
                      refine z_inv3 hM dX5_were_148 vl_RX5_201 rfl rfl rfl (Nat.le_of_ble_eq_true rfl) (Nat.le_of_ble_eq_true rfl) ?_
                      refine qs_goes (by omega) (fun v41 h_v41 => ?_)
                      refine r_if_ne (tgt := 180) hC dX5_were_151 rfl (fun h42 => ?_) (fun h42 => ?_)
                      · refine r_iincE hC ((w16 + 1)) dX5_were_180 rfl rfl (by omega) (by unfold inR; omega) ?_
                        refine r_goto (tgt := 83) hC dX5_were_183 rfl ?_
                        refine r_forget hC (ls2 := [some (vR 2 0), some (vI l), some (vI t), some (vI v), some (vI w), some (vR 7 l), some (vI v12), some (vI v14), some (vI (w16 + 1)), none, none]) (lsub_some (lsub_some (lsub_some (lsub_some (lsub_some (lsub_some (lsub_some (lsub_some (lsub_some (lsub_none (lsub_none lsub_nil))))))))))) ?_
                        exact ih83 ((w16 + 1))  (by omega)  (by omega)  
                      · refine r_aload_n hC dX5_were_154 rfl ?_
                        refine z_getR hM dX5_were_155 fl_RX5_40 rfl rfl (vld_of (n := 1) rfl (by omega) (by omega)) ?_
                        refine r_iload hC dX5_were_158 rfl ?_
                        refine r_iload hC dX5_were_160 rfl ?_
                        refine r_icmp_ne (tgt := 169) hC dX5_were_162 rfl (fun h43 => ?_) (fun h43 => ?_)
                        · refine r_aload hC dX5_were_169 rfl ?_
                          refine z_getR hM dX5_were_171 fl_RX5_176 rfl rfl (vld_of (n := 7) rfl (by omega) (by omega)) ?_
                          refine r_iload hC dX5_were_174 rfl ?_
                          refine z_iald hM dX5_were_176 rfl (by omega) (by omega) (fun v44 h_v44 o_v44 t_v44 => ?_)
                          clear t_v44
                          have q_v44 : -1000 ≤ v44 ∧ v44 ≤ 1000 := o_v44
                          refine z_inv1 hM dX5_were_177 vl_RX5_253 rfl rfl rfl (Nat.le_of_ble_eq_true rfl) (Nat.le_of_ble_eq_true rfl) ?_
                          refine qs_append (by omega) ?_
                          refine r_iincE hC ((w16 + 1)) dX5_were_180 rfl rfl (by omega) (by unfold inR; omega) ?_
                          refine r_goto (tgt := 83) hC dX5_were_183 rfl ?_
                          refine r_forget hC (ls2 := [some (vR 2 0), some (vI l), some (vI t), some (vI v), some (vI w), some (vR 7 l), some (vI v12), some (vI v14), some (vI (w16 + 1)), none, none]) (lsub_some (lsub_some (lsub_some (lsub_some (lsub_some (lsub_some (lsub_some (lsub_some (lsub_some (lsub_none (lsub_none lsub_nil))))))))))) ?_
                          exact ih83 ((w16 + 1))  (by omega)  (by omega)  
                        · refine r_iload_n hC dX5_were_165 rfl ?_
                          refine r_goto (tgt := 177) hC dX5_were_166 rfl ?_
                          refine z_inv1 hM dX5_were_177 vl_RX5_253 rfl rfl rfl (Nat.le_of_ble_eq_true rfl) (Nat.le_of_ble_eq_true rfl) ?_
                          refine qs_append (by omega) ?_
                          refine r_iincE hC ((w16 + 1)) dX5_were_180 rfl rfl (by omega) (by unfold inR; omega) ?_
                          refine r_goto (tgt := 83) hC dX5_were_183 rfl ?_
                          refine r_forget hC (ls2 := [some (vR 2 0), some (vI l), some (vI t), some (vI v), some (vI w), some (vR 7 l), some (vI v12), some (vI v14), some (vI (w16 + 1)), none, none]) (lsub_some (lsub_some (lsub_some (lsub_some (lsub_some (lsub_some (lsub_some (lsub_some (lsub_some (lsub_none (lsub_none lsub_nil))))))))))) ?_
                          exact ih83 ((w16 + 1))  (by omega)  (by omega)  
            exact L83 124 (0)  (by omega)  (by omega)  
          · refine r_ldc hC dX5_were_45 co_RX5_175 rfl ?_
            refine y_iret hK rfl dX5_were_47 ?_
            exact k _ (by omega)
      · refine r_if_eq (tgt := 45) hC dX5_were_25 rfl (fun h45 => ?_) (fun h45 => by omega)
        refine r_ldc hC dX5_were_45 co_RX5_175 rfl ?_
        refine y_iret hK rfl dX5_were_47 ?_
        exact k _ (by omega)
    · refine r_if_eq (tgt := 45) hC dX5_were_18 rfl (fun h46 => ?_) (fun h46 => by omega)
      refine r_ldc hC dX5_were_45 co_RX5_175 rfl ?_
      refine y_iret hK rfl dX5_were_47 ?_
      exact k _ (by omega)
theorem qs_reachBack_S {eb : Bool} {d : Nat} {P : Option Vl → Mm → Prop} {σ : Mm} {l w b hl : Int} (qg0 : σ 7 l 6 = hl) (hL : HL σ)  (k : ∀ r : Int, -1 ≤ r ∧ r ≤ 120 → P (some (vI r)) σ) : WT (false, false, eb) (d + 5) 78 [vR 2 0, vI l, vI w, vI b] σ P := by
  refine WT_in fun K hK => ?_
  have hK : StpY (false, false, eb) cX5_reachBack RX5 (some .int) (WT (false, false, eb) (d + 4)) P K := hK
  have hM := hK.1
  have hC := hK.1.1
  show K 0 [some (vR 2 0), some (vI l), some (vI w), some (vI b), none, none] [] σ
  refine r_rngz hC (fun g0 => ?_)
  have r_l : -2147483648 ≤ l ∧ l ≤ 2147483647 := inR_le (g0 (vI l) (by simp))
  have r_w : -2147483648 ≤ w ∧ w ≤ 2147483647 := inR_le (g0 (vI w) (by simp))
  have r_b : -2147483648 ≤ b ∧ b ≤ 2147483647 := inR_le (g0 (vI b) (by simp))
  refine r_aload_n hC dX5_reachBack_0 rfl ?_
  refine r_iload_n hC dX5_reachBack_1 rfl ?_
  refine r_iload_n hC dX5_reachBack_2 rfl ?_
  refine z_inv2 hM dX5_reachBack_3 vl_RX5_248 rfl rfl rfl (Nat.le_of_ble_eq_true rfl) (Nat.le_of_ble_eq_true rfl) ?_
  refine qs_laneWith ?_ (fun h1 => ?_)
  · refine r_astoreN hC dX5_reachBack_6 rfl ?_
    refine r_aloadN hC dX5_reachBack_8 rfl ?_
    refine r_ifnonnullN hC dX5_reachBack_10 ?_
    refine r_iconst hC dX5_reachBack_13 rfl ?_
    refine y_iret hK rfl dX5_reachBack_14 ?_
    exact k _ (by omega)
  · have b_h1 : 0 ≤ hl ∧ hl ≤ 120 := by have := HL.h7 hL (i := l) (by omega) (by omega); have := qg0; omega
    refine r_astore hC dX5_reachBack_6 rfl ?_
    refine r_aload hC dX5_reachBack_8 rfl ?_
    refine r_ifnonnullR (tgt := 15) hC dX5_reachBack_10 rfl ?_
    refine r_iconst hC dX5_reachBack_15 rfl ?_
    refine r_istore hC dX5_reachBack_16 rfl ?_
    have L18 : ∀ (n18 : Nat) (w2 : Int), 1 ≤ w2 ∧ w2 ≤ 121 → 121 - w2 < (n18 : Int) → K 18 [some (vR 2 0), some (vI l), some (vI w), some (vI b), some (vR 7 l), some (vI w2)] [] σ := by
      intro n18
      induction n18 with
      | zero => intro w2  f_w2  hm  ; omega
      | succ n18 ih18 =>
        intro w2  f_w2  hm18  
        refine r_iload hC dX5_reachBack_18 rfl ?_
        refine r_aload hC dX5_reachBack_20 rfl ?_
        refine z_getI (jz := 6) hM dX5_reachBack_22 fl_RX5_154 rfl rfl rfl (fun v3 h_v3 o_v3 t_v3 => ?_)
        have e_v3 : hl = v3 := ((t_v3 (Or.inl (show (6 : Int) ≠ 11 from by decide))).trans qg0).symm
        clear t_v3
        subst e_v3
        refine r_icmp_gt (tgt := 68) hC dX5_reachBack_25 rfl (fun h4 => ?_) (fun h4 => ?_)
        · refine r_iconst hC dX5_reachBack_68 rfl ?_
          refine y_iret hK rfl dX5_reachBack_69 ?_
          exact k _ (by omega)
        · refine r_aload_n hC dX5_reachBack_28 rfl ?_
          refine r_aload hC dX5_reachBack_29 rfl ?_
          refine r_aload hC dX5_reachBack_31 rfl ?_
          refine z_getI (jz := 6) hM dX5_reachBack_33 fl_RX5_154 rfl rfl rfl (fun v5 h_v5 o_v5 t_v5 => ?_)
          have e_v5 : hl = v5 := ((t_v5 (Or.inl (show (6 : Int) ≠ 11 from by decide))).trans qg0).symm
          clear t_v5
          subst e_v5
          refine r_iload hC dX5_reachBack_36 rfl ?_
          refine r_isubE hC ((hl - w2)) dX5_reachBack_38 (by omega) (by unfold inR; omega) ?_
          refine r_aload hC dX5_reachBack_39 rfl ?_
          refine z_getI (jz := 6) hM dX5_reachBack_41 fl_RX5_154 rfl rfl rfl (fun v6 h_v6 o_v6 t_v6 => ?_)
          have e_v6 : hl = v6 := ((t_v6 (Or.inl (show (6 : Int) ≠ 11 from by decide))).trans qg0).symm
          clear t_v6
          subst e_v6
          refine z_inv3 hM dX5_reachBack_44 vl_RX5_259 rfl rfl rfl (Nat.le_of_ble_eq_true rfl) (Nat.le_of_ble_eq_true rfl) ?_
          refine qs_foldPart (by omega) (by omega) (by omega) ?_
          refine r_aload_n hC dX5_reachBack_47 rfl ?_
          refine z_getR hM dX5_reachBack_48 fl_RX5_40 rfl rfl (vld_of (n := 1) rfl (by omega) (by omega)) ?_
          refine r_iload_n hC dX5_reachBack_51 rfl ?_
          refine r_iload_n hC dX5_reachBack_52 rfl ?_
          refine z_inv2 hM dX5_reachBack_53 vl_RX5_256 rfl rfl rfl (Nat.le_of_ble_eq_true rfl) (Nat.le_of_ble_eq_true rfl) ?_
          refine qs_reaches (fun v7 h_v7 => ?_)
          refine r_if_eq (tgt := 62) hC dX5_reachBack_56 rfl (fun h8 => ?_) (fun h8 => ?_)
          · refine r_iincE hC ((w2 + 1)) dX5_reachBack_62 rfl rfl (by omega) (by unfold inR; omega) ?_
            refine r_goto (tgt := 18) hC dX5_reachBack_65 rfl ?_
            exact ih18 ((w2 + 1))  (by omega)  (by omega)  
          · refine r_iload hC dX5_reachBack_59 rfl ?_
            refine y_iret hK rfl dX5_reachBack_61 ?_
            exact k _ (by omega)
    exact L18 122 (1)  (by omega)  (by omega)  
theorem qs_commutes_S {eb : Bool} {d : Nat} {P : Option Vl → Mm → Prop} {σ : Mm} {l x hl : Int} (qg0 : σ 7 l 6 = hl) (hL : HL σ)  (k : ∀ r : Int, -1 ≤ r ∧ r ≤ 1 → P (some (vI r)) σ) : WT (false, false, eb) (d + 5) 84 [vR 2 0, vI l, vI x] σ P := by
  refine WT_in fun K hK => ?_
  have hK : StpY (false, false, eb) cX5_commutes RX5 (some .int) (WT (false, false, eb) (d + 4)) P K := hK
  have hM := hK.1
  have hC := hK.1.1
  show K 0 [some (vR 2 0), some (vI l), some (vI x), none, none, none] [] σ
  refine r_rngz hC (fun g0 => ?_)
  have r_l : -2147483648 ≤ l ∧ l ≤ 2147483647 := inR_le (g0 (vI l) (by simp))
  have r_x : -2147483648 ≤ x ∧ x ≤ 2147483647 := inR_le (g0 (vI x) (by simp))
  refine r_aload_n hC dX5_commutes_0 rfl ?_
  refine r_iload_n hC dX5_commutes_1 rfl ?_
  refine r_iload_n hC dX5_commutes_2 rfl ?_
  refine z_inv2 hM dX5_commutes_3 vl_RX5_171 rfl rfl rfl (Nat.le_of_ble_eq_true rfl) (Nat.le_of_ble_eq_true rfl) ?_
  refine qs_laneHolding ?_ (fun h1 x_h1 => ?_)
  · refine r_astoreN_n hC dX5_commutes_6 rfl ?_
    refine r_aloadN_n hC dX5_commutes_7 rfl ?_
    refine r_ifnullN (tgt := 21) hC dX5_commutes_8 rfl ?_
    refine r_iconst hC dX5_commutes_21 rfl ?_
    refine y_iret hK rfl dX5_commutes_22 ?_
    exact k _ (by omega)
  · have b_h1 : 0 ≤ hl ∧ hl ≤ 120 := by have := HL.h7 hL (i := l) (by omega) (by omega); have := qg0; omega
    have y_h1 := x_h1 rfl
    refine r_astore_n hC dX5_commutes_6 rfl ?_
    refine r_aload_n hC dX5_commutes_7 rfl ?_
    refine r_ifnullR hC dX5_commutes_8 ?_
    refine r_iload_n hC dX5_commutes_11 rfl ?_
    refine r_aload_n hC dX5_commutes_12 rfl ?_
    refine z_getI (jz := 6) hM dX5_commutes_13 fl_RX5_154 rfl rfl rfl (fun v2 h_v2 o_v2 t_v2 => ?_)
    have e_v2 : hl = v2 := ((t_v2 (Or.inl (show (6 : Int) ≠ 11 from by decide))).trans qg0).symm
    clear t_v2
    subst e_v2
    refine r_iconst hC dX5_commutes_16 rfl ?_
    refine r_isubE hC ((hl - 1)) dX5_commutes_17 (by omega) (by unfold inR; omega) ?_
    refine r_icmp_ne (tgt := 23) hC dX5_commutes_18 rfl (fun h3 => ?_) (fun h3 => ?_)
    · refine r_aload_n hC dX5_commutes_23 rfl ?_
      refine r_aload_n hC dX5_commutes_24 rfl ?_
      refine r_iconst hC dX5_commutes_25 rfl ?_
      refine r_aload_n hC dX5_commutes_26 rfl ?_
      refine z_getI (jz := 6) hM dX5_commutes_27 fl_RX5_154 rfl rfl rfl (fun v4 h_v4 o_v4 t_v4 => ?_)
      have e_v4 : hl = v4 := ((t_v4 (Or.inl (show (6 : Int) ≠ 11 from by decide))).trans qg0).symm
      clear t_v4
      subst e_v4
      refine z_inv3 hM dX5_commutes_30 vl_RX5_259 rfl rfl rfl (Nat.le_of_ble_eq_true rfl) (Nat.le_of_ble_eq_true rfl) ?_
      refine qs_foldPart (by omega) (by omega) (by omega) ?_
      refine r_aload_n hC dX5_commutes_33 rfl ?_
      refine z_getR hM dX5_commutes_34 fl_RX5_40 rfl rfl (vld_of (n := 1) rfl (by omega) (by omega)) ?_
      refine z_inv0 hM dX5_commutes_37 vl_RX5_275 rfl rfl rfl (Nat.le_of_ble_eq_true rfl) (Nat.le_of_ble_eq_true rfl) ?_
      refine qs_noteNumbers ?_
      refine r_aload_n hC dX5_commutes_40 rfl ?_
      refine z_getR hM dX5_commutes_41 fl_RX5_40 rfl rfl (vld_of (n := 1) rfl (by omega) (by omega)) ?_
      refine r_aload_n hC dX5_commutes_44 rfl ?_
      refine z_getI (jz := 2) hM dX5_commutes_45 fl_RX5_98 rfl rfl rfl (fun v5 h_v5 o_v5 t_v5 => ?_)
      clear t_v5
      have q_v5 : 0 ≤ v5 ∧ v5 ≤ 9 := o_v5.2.2 rfl
      refine z_inv1 hM dX5_commutes_48 vl_RX5_251 rfl rfl rfl (Nat.le_of_ble_eq_true rfl) (Nat.le_of_ble_eq_true rfl) ?_
      refine qs_begin (by omega) ?_
      refine r_iconst hC dX5_commutes_51 rfl ?_
      refine r_istore hC dX5_commutes_52 rfl ?_
      have L54 : ∀ (n54 : Nat) (w6 : Int), 0 ≤ w6 ∧ w6 ≤ 120 → 120 - w6 < (n54 : Int) → K 54 [some (vR 2 0), some (vI l), some (vI x), some (vR 7 l), some (vI w6), none] [] σ := by
        intro n54
        induction n54 with
        | zero => intro w6  f_w6  hm  ; omega
        | succ n54 ih54 =>
          intro w6  f_w6  hm54  
          refine r_iload hC dX5_commutes_54 rfl ?_
          refine r_aload_n hC dX5_commutes_56 rfl ?_
          refine z_getI (jz := 6) hM dX5_commutes_57 fl_RX5_154 rfl rfl rfl (fun v7 h_v7 o_v7 t_v7 => ?_)
          have e_v7 : hl = v7 := ((t_v7 (Or.inl (show (6 : Int) ≠ 11 from by decide))).trans qg0).symm
          clear t_v7
          subst e_v7
          refine r_icmp_ge (tgt := 111) hC dX5_commutes_60 rfl (fun h8 => ?_) (fun h8 => ?_)
          · refine r_aload_n hC dX5_commutes_111 rfl ?_
            refine z_getR hM dX5_commutes_112 fl_RX5_40 rfl rfl (vld_of (n := 1) rfl (by omega) (by omega)) ?_
            refine z_inv0 hM dX5_commutes_115 vl_RX5_278 rfl rfl rfl (Nat.le_of_ble_eq_true rfl) (Nat.le_of_ble_eq_true rfl) ?_
            refine qs_isAsNoted (fun v9 h_v9 => ?_)
            refine r_if_eq (tgt := 125) hC dX5_commutes_118 rfl (fun h10 => ?_) (fun h10 => ?_)
            · refine r_iconst hC dX5_commutes_125 rfl ?_
              refine y_iret hK rfl dX5_commutes_126 ?_
              exact k _ (by omega)
            · refine r_iconst hC dX5_commutes_121 rfl ?_
              refine r_goto (tgt := 126) hC dX5_commutes_122 rfl ?_
              refine y_iret hK rfl dX5_commutes_126 ?_
              exact k _ (by omega)
          · refine r_iload hC dX5_commutes_63 rfl ?_
            refine r_iload_n hC dX5_commutes_65 rfl ?_
            refine r_icmp_ne (tgt := 75) hC dX5_commutes_66 rfl (fun h11 => ?_) (fun h11 => ?_)
            · refine r_iload hC dX5_commutes_75 rfl ?_
              refine r_iload_n hC dX5_commutes_77 rfl ?_
              refine r_iconst hC dX5_commutes_78 rfl ?_
              refine r_iaddE hC ((x + 1)) dX5_commutes_79 (by omega) (by unfold inR; omega) ?_
              refine r_icmp_ne (tgt := 87) hC dX5_commutes_80 rfl (fun h12 => ?_) (fun h12 => ?_)
              · refine r_iload hC dX5_commutes_87 rfl ?_
                refine r_istore hC dX5_commutes_89 rfl ?_
                refine r_aload_n hC dX5_commutes_91 rfl ?_
                refine z_getR hM dX5_commutes_92 fl_RX5_40 rfl rfl (vld_of (n := 1) rfl (by omega) (by omega)) ?_
                refine r_aload_n hC dX5_commutes_95 rfl ?_
                refine z_getR hM dX5_commutes_96 fl_RX5_176 rfl rfl (vld_of (n := 7) rfl (by omega) (by omega)) ?_
                refine r_iload hC dX5_commutes_99 rfl ?_
                refine z_iald hM dX5_commutes_101 rfl (by omega) (by omega) (fun v13 h_v13 o_v13 t_v13 => ?_)
                clear t_v13
                have q_v13 : -1000 ≤ v13 ∧ v13 ≤ 1000 := o_v13
                refine z_inv1 hM dX5_commutes_102 vl_RX5_253 rfl rfl rfl (Nat.le_of_ble_eq_true rfl) (Nat.le_of_ble_eq_true rfl) ?_
                refine qs_append (by omega) ?_
                refine r_iincE hC ((w6 + 1)) dX5_commutes_105 rfl rfl (by omega) (by unfold inR; omega) ?_
                refine r_goto (tgt := 54) hC dX5_commutes_108 rfl ?_
                refine r_forget hC (ls2 := [some (vR 2 0), some (vI l), some (vI x), some (vR 7 l), some (vI (w6 + 1)), none]) (lsub_some (lsub_some (lsub_some (lsub_some (lsub_some (lsub_none lsub_nil)))))) ?_
                exact ih54 ((w6 + 1))  (by omega)  (by omega)  
              · refine r_iload_n hC dX5_commutes_83 rfl ?_
                refine r_goto (tgt := 89) hC dX5_commutes_84 rfl ?_
                refine r_istore hC dX5_commutes_89 rfl ?_
                refine r_aload_n hC dX5_commutes_91 rfl ?_
                refine z_getR hM dX5_commutes_92 fl_RX5_40 rfl rfl (vld_of (n := 1) rfl (by omega) (by omega)) ?_
                refine r_aload_n hC dX5_commutes_95 rfl ?_
                refine z_getR hM dX5_commutes_96 fl_RX5_176 rfl rfl (vld_of (n := 7) rfl (by omega) (by omega)) ?_
                refine r_iload hC dX5_commutes_99 rfl ?_
                refine z_iald hM dX5_commutes_101 rfl (by omega) (by omega) (fun v14 h_v14 o_v14 t_v14 => ?_)
                clear t_v14
                have q_v14 : -1000 ≤ v14 ∧ v14 ≤ 1000 := o_v14
                refine z_inv1 hM dX5_commutes_102 vl_RX5_253 rfl rfl rfl (Nat.le_of_ble_eq_true rfl) (Nat.le_of_ble_eq_true rfl) ?_
                refine qs_append (by omega) ?_
                refine r_iincE hC ((w6 + 1)) dX5_commutes_105 rfl rfl (by omega) (by unfold inR; omega) ?_
                refine r_goto (tgt := 54) hC dX5_commutes_108 rfl ?_
                refine r_forget hC (ls2 := [some (vR 2 0), some (vI l), some (vI x), some (vR 7 l), some (vI (w6 + 1)), none]) (lsub_some (lsub_some (lsub_some (lsub_some (lsub_some (lsub_none lsub_nil)))))) ?_
                exact ih54 ((w6 + 1))  (by omega)  (by omega)  
            · refine r_iload_n hC dX5_commutes_69 rfl ?_
              refine r_iconst hC dX5_commutes_70 rfl ?_
              refine r_iaddE hC ((x + 1)) dX5_commutes_71 (by omega) (by unfold inR; omega) ?_
              refine r_goto (tgt := 89) hC dX5_commutes_72 rfl ?_
              refine r_istore hC dX5_commutes_89 rfl ?_
              refine r_aload_n hC dX5_commutes_91 rfl ?_
              refine z_getR hM dX5_commutes_92 fl_RX5_40 rfl rfl (vld_of (n := 1) rfl (by omega) (by omega)) ?_
              refine r_aload_n hC dX5_commutes_95 rfl ?_
              refine z_getR hM dX5_commutes_96 fl_RX5_176 rfl rfl (vld_of (n := 7) rfl (by omega) (by omega)) ?_
              refine r_iload hC dX5_commutes_99 rfl ?_
              refine z_iald hM dX5_commutes_101 rfl (by omega) (by omega) (fun v15 h_v15 o_v15 t_v15 => ?_)
              clear t_v15
              have q_v15 : -1000 ≤ v15 ∧ v15 ≤ 1000 := o_v15
              refine z_inv1 hM dX5_commutes_102 vl_RX5_253 rfl rfl rfl (Nat.le_of_ble_eq_true rfl) (Nat.le_of_ble_eq_true rfl) ?_
              refine qs_append (by omega) ?_
              refine r_iincE hC ((w6 + 1)) dX5_commutes_105 rfl rfl (by omega) (by unfold inR; omega) ?_
              refine r_goto (tgt := 54) hC dX5_commutes_108 rfl ?_
              refine r_forget hC (ls2 := [some (vR 2 0), some (vI l), some (vI x), some (vR 7 l), some (vI (w6 + 1)), none]) (lsub_some (lsub_some (lsub_some (lsub_some (lsub_some (lsub_none lsub_nil)))))) ?_
              exact ih54 ((w6 + 1))  (by omega)  (by omega)  
      exact L54 122 (0)  (by omega)  (by omega)  
    · refine r_iconst hC dX5_commutes_21 rfl ?_
      refine y_iret hK rfl dX5_commutes_22 ?_
      exact k _ (by omega)
theorem qs_woven_S {eb : Bool} {d : Nat} {P : Option Vl → Mm → Prop} {σ : Mm} {l o w hl ho : Int} (qg0 : σ 7 l 6 = hl) (qg1 : σ 7 o 6 = ho) (hL : HL σ)  (k : ∀ r : Int, -2147483648 ≤ r ∧ r ≤ 2147483647 → P (some (vI r)) σ) : WT (false, false, eb) (d + 5) 87 [vR 2 0, vI l, vI o, vI w] σ P := by
  refine WT_in fun K hK => ?_
  have hK : StpY (false, false, eb) cX5_woven RX5 (some .int) (WT (false, false, eb) (d + 4)) P K := hK
  have hM := hK.1
  have hC := hK.1.1
  show K 0 [some (vR 2 0), some (vI l), some (vI o), some (vI w), none, none, none, none, none, none] [] σ
  refine r_rngz hC (fun g0 => ?_)
  have r_l : -2147483648 ≤ l ∧ l ≤ 2147483647 := inR_le (g0 (vI l) (by simp))
  have r_o : -2147483648 ≤ o ∧ o ≤ 2147483647 := inR_le (g0 (vI o) (by simp))
  have r_w : -2147483648 ≤ w ∧ w ≤ 2147483647 := inR_le (g0 (vI w) (by simp))
  refine r_aload_n hC dX5_woven_0 rfl ?_
  refine r_iload_n hC dX5_woven_1 rfl ?_
  refine r_iload_n hC dX5_woven_2 rfl ?_
  refine z_inv2 hM dX5_woven_3 vl_RX5_248 rfl rfl rfl (Nat.le_of_ble_eq_true rfl) (Nat.le_of_ble_eq_true rfl) ?_
  refine qs_laneWith ?_ (fun h1 => ?_)
  · refine r_astoreN hC dX5_woven_6 rfl ?_
    refine r_aload_n hC dX5_woven_8 rfl ?_
    refine r_iload_n hC dX5_woven_9 rfl ?_
    refine z_inv1 hM dX5_woven_10 vl_RX5_123 rfl rfl rfl (Nat.le_of_ble_eq_true rfl) (Nat.le_of_ble_eq_true rfl) ?_
    refine qs_openLane ?_ (fun h2 => ?_)
    · refine r_astoreN hC dX5_woven_13 rfl ?_
      refine r_aloadN hC dX5_woven_15 rfl ?_
      refine r_ifnullN (tgt := 38) hC dX5_woven_17 rfl ?_
      refine r_ldc hC dX5_woven_38 co_RX5_175 rfl ?_
      refine y_iret hK rfl dX5_woven_40 ?_
      exact k _ (by omega)
    · have b_h2 : 0 ≤ ho ∧ ho ≤ 120 := by have := HL.h7 hL (i := o) (by omega) (by omega); have := qg1; omega
      refine r_astore hC dX5_woven_13 rfl ?_
      refine r_aloadN hC dX5_woven_15 rfl ?_
      refine r_ifnullN (tgt := 38) hC dX5_woven_17 rfl ?_
      refine r_ldc hC dX5_woven_38 co_RX5_175 rfl ?_
      refine y_iret hK rfl dX5_woven_40 ?_
      exact k _ (by omega)
  · have b_h1 : 0 ≤ hl ∧ hl ≤ 120 := by have := HL.h7 hL (i := l) (by omega) (by omega); have := qg0; omega
    refine r_astore hC dX5_woven_6 rfl ?_
    refine r_aload_n hC dX5_woven_8 rfl ?_
    refine r_iload_n hC dX5_woven_9 rfl ?_
    refine z_inv1 hM dX5_woven_10 vl_RX5_123 rfl rfl rfl (Nat.le_of_ble_eq_true rfl) (Nat.le_of_ble_eq_true rfl) ?_
    refine qs_openLane ?_ (fun h3 => ?_)
    · refine r_astoreN hC dX5_woven_13 rfl ?_
      refine r_aload hC dX5_woven_15 rfl ?_
      refine r_ifnullR hC dX5_woven_17 ?_
      refine r_aloadN hC dX5_woven_20 rfl ?_
      refine r_ifnullN (tgt := 38) hC dX5_woven_22 rfl ?_
      refine r_ldc hC dX5_woven_38 co_RX5_175 rfl ?_
      refine y_iret hK rfl dX5_woven_40 ?_
      exact k _ (by omega)
    · have b_h3 : 0 ≤ ho ∧ ho ≤ 120 := by have := HL.h7 hL (i := o) (by omega) (by omega); have := qg1; omega
      refine r_astore hC dX5_woven_13 rfl ?_
      refine r_aload hC dX5_woven_15 rfl ?_
      refine r_ifnullR hC dX5_woven_17 ?_
      refine r_aload hC dX5_woven_20 rfl ?_
      refine r_ifnullR hC dX5_woven_22 ?_
      refine r_aload hC dX5_woven_25 rfl ?_
      refine z_getI (jz := 2) hM dX5_woven_27 fl_RX5_98 rfl rfl rfl (fun v4 h_v4 o_v4 t_v4 => ?_)
      clear t_v4
      have q_v4 : 0 ≤ v4 ∧ v4 ≤ 9 := o_v4.2.2 rfl
      refine r_aload hC dX5_woven_30 rfl ?_
      refine z_getI (jz := 2) hM dX5_woven_32 fl_RX5_98 rfl rfl rfl (fun v5 h_v5 o_v5 t_v5 => ?_)
      clear t_v5
      have q_v5 : 0 ≤ v5 ∧ v5 ≤ 9 := o_v5.2.2 rfl
      refine r_icmp_eq (tgt := 41) hC dX5_woven_35 rfl (fun h6 => ?_) (fun h6 => ?_)
      · refine r_aload_n hC dX5_woven_41 rfl ?_
        refine z_getR hM dX5_woven_42 fl_RX5_40 rfl rfl (vld_of (n := 1) rfl (by omega) (by omega)) ?_
        refine r_aload hC dX5_woven_45 rfl ?_
        refine z_getI (jz := 2) hM dX5_woven_47 fl_RX5_98 rfl rfl rfl (fun v7 h_v7 o_v7 t_v7 => ?_)
        clear t_v7
        have q_v7 : 0 ≤ v7 ∧ v7 ≤ 9 := o_v7.2.2 rfl
        refine z_inv1 hM dX5_woven_50 vl_RX5_251 rfl rfl rfl (Nat.le_of_ble_eq_true rfl) (Nat.le_of_ble_eq_true rfl) ?_
        refine qs_begin (by omega) ?_
        refine r_iconst hC dX5_woven_53 rfl ?_
        refine r_istore hC dX5_woven_54 rfl ?_
        refine r_iconst hC dX5_woven_56 rfl ?_
        refine r_istore hC dX5_woven_57 rfl ?_
        refine r_aload hC dX5_woven_59 rfl ?_
        refine z_getI (jz := 6) hM dX5_woven_61 fl_RX5_154 rfl rfl rfl (fun v8 h_v8 o_v8 t_v8 => ?_)
        have e_v8 : hl = v8 := ((t_v8 (Or.inl (show (6 : Int) ≠ 11 from by decide))).trans qg0).symm
        clear t_v8
        subst e_v8
        refine r_aload hC dX5_woven_64 rfl ?_
        refine z_getI (jz := 6) hM dX5_woven_66 fl_RX5_154 rfl rfl rfl (fun v9 h_v9 o_v9 t_v9 => ?_)
        have e_v9 : ho = v9 := ((t_v9 (Or.inl (show (6 : Int) ≠ 11 from by decide))).trans qg1).symm
        clear t_v9
        subst e_v9
        refine r_iaddE hC ((hl + ho)) dX5_woven_69 (by omega) (by unfold inR; omega) ?_
        refine r_istore hC dX5_woven_70 rfl ?_
        have L72 : ∀ (n72 : Nat) (w10 w11 w12 : Int), 0 ≤ w10 ∧ w10 ≤ 120 → 0 ≤ w11 ∧ w11 ≤ 240 → 0 ≤ w12 ∧ w12 ≤ 120 → ((w11) = hl + ho - (w10) - (w12)) → ((w10) ≤ hl) → ((w12) ≤ ho) → w11 < (n72 : Int) → K 72 [some (vR 2 0), some (vI l), some (vI o), some (vI w), some (vR 7 l), some (vR 7 o), some (vI w10), some (vI w12), some (vI w11), none] [] σ := by
          intro n72
          induction n72 with
          | zero => intro w10 w11 w12  f_w10 f_w11 f_w12 i0_72 i1_72 i2_72 hm  ; omega
          | succ n72 ih72 =>
            intro w10 w11 w12  f_w10 f_w11 f_w12 i0_72 i1_72 i2_72 hm72  
            refine r_iload hC dX5_woven_72 rfl ?_
            refine r_if_le (tgt := 190) hC dX5_woven_74 rfl (fun h13 => ?_) (fun h13 => ?_)
            · refine r_aload_n hC dX5_woven_190 rfl ?_
              refine z_getR hM dX5_woven_191 fl_RX5_40 rfl rfl (vld_of (n := 1) rfl (by omega) (by omega)) ?_
              refine r_iload_n hC dX5_woven_194 rfl ?_
              refine z_inv1 hM dX5_woven_195 vl_RX5_273 rfl rfl rfl (Nat.le_of_ble_eq_true rfl) (Nat.le_of_ble_eq_true rfl) ?_
              refine qs_number (fun v14 h_v14 => ?_)
              refine y_iret hK rfl dX5_woven_198 ?_
              exact k _ (by omega)
            · refine r_iload hC dX5_woven_77 rfl ?_
              refine r_aload hC dX5_woven_79 rfl ?_
              refine z_getI (jz := 6) hM dX5_woven_81 fl_RX5_154 rfl rfl rfl (fun v15 h_v15 o_v15 t_v15 => ?_)
              have e_v15 : ho = v15 := ((t_v15 (Or.inl (show (6 : Int) ≠ 11 from by decide))).trans qg1).symm
              clear t_v15
              subst e_v15
              refine r_icmp_ge (tgt := 116) hC dX5_woven_84 rfl (fun h16 => ?_) (fun h16 => ?_)
              · refine r_iconst hC dX5_woven_116 rfl ?_
                refine r_goto (tgt := 121) hC dX5_woven_117 rfl ?_
                refine r_istore hC dX5_woven_121 rfl ?_
                refine r_aload_n hC dX5_woven_123 rfl ?_
                refine z_getR hM dX5_woven_124 fl_RX5_40 rfl rfl (vld_of (n := 1) rfl (by omega) (by omega)) ?_
                refine r_iload hC dX5_woven_127 rfl ?_
                refine r_if_eq (tgt := 143) hC dX5_woven_129 rfl (fun h17 => by omega) (fun h17 => ?_)
                refine r_aload hC dX5_woven_132 rfl ?_
                refine z_getR hM dX5_woven_134 fl_RX5_176 rfl rfl (vld_of (n := 7) rfl (by omega) (by omega)) ?_
                refine r_iload hC dX5_woven_137 rfl ?_
                refine z_iald hM dX5_woven_139 rfl (by omega) (by omega) (fun v18 h_v18 o_v18 t_v18 => ?_)
                clear t_v18
                have q_v18 : -1000 ≤ v18 ∧ v18 ≤ 1000 := o_v18
                refine r_goto (tgt := 151) hC dX5_woven_140 rfl ?_
                refine z_inv1 hM dX5_woven_151 vl_RX5_253 rfl rfl rfl (Nat.le_of_ble_eq_true rfl) (Nat.le_of_ble_eq_true rfl) ?_
                refine qs_append (by omega) ?_
                refine r_iload hC dX5_woven_154 rfl ?_
                refine r_iload hC dX5_woven_156 rfl ?_
                refine r_if_eq (tgt := 165) hC dX5_woven_158 rfl (fun h19 => by omega) (fun h19 => ?_)
                refine r_iconst hC dX5_woven_161 rfl ?_
                refine r_goto (tgt := 166) hC dX5_woven_162 rfl ?_
                refine r_iaddE hC ((w10 + 1)) dX5_woven_166 (by omega) (by unfold inR; omega) ?_
                refine r_istore hC dX5_woven_167 rfl ?_
                refine r_iload hC dX5_woven_169 rfl ?_
                refine r_iload hC dX5_woven_171 rfl ?_
                refine r_if_eq (tgt := 180) hC dX5_woven_173 rfl (fun h20 => by omega) (fun h20 => ?_)
                refine r_iconst hC dX5_woven_176 rfl ?_
                refine r_goto (tgt := 181) hC dX5_woven_177 rfl ?_
                refine r_iaddE hC (w12) dX5_woven_181 (by omega) (by unfold inR; omega) ?_
                refine r_istore hC dX5_woven_182 rfl ?_
                show K _ [_, _, _, _, _, _, _, _, _, _] _ _
                refine r_iincE hC ((w11 - 1)) dX5_woven_184 rfl rfl (by omega) (by unfold inR; omega) ?_
                refine r_goto (tgt := 72) hC dX5_woven_187 rfl ?_
                refine r_forget hC (ls2 := [some (vR 2 0), some (vI l), some (vI o), some (vI w), some (vR 7 l), some (vR 7 o), some (vI (w10 + 1)), some (vI w12), some (vI (w11 - 1)), none]) (lsub_some (lsub_some (lsub_some (lsub_some (lsub_some (lsub_some (lsub_some (lsub_some (lsub_some (lsub_none lsub_nil)))))))))) ?_
                exact ih72 ((w10 + 1)) ((w11 - 1)) (w12)  (by omega) (by omega) (by omega) (by omega) (by omega) (by omega) (by omega)  
              · refine r_iload hC dX5_woven_87 rfl ?_
                refine r_aload hC dX5_woven_89 rfl ?_
                refine z_getI (jz := 6) hM dX5_woven_91 fl_RX5_154 rfl rfl rfl (fun v21 h_v21 o_v21 t_v21 => ?_)
                have e_v21 : hl = v21 := ((t_v21 (Or.inl (show (6 : Int) ≠ 11 from by decide))).trans qg0).symm
                clear t_v21
                subst e_v21
                refine r_icmp_ge (tgt := 120) hC dX5_woven_94 rfl (fun h22 => ?_) (fun h22 => ?_)
                · refine r_iconst hC dX5_woven_120 rfl ?_
                  refine r_istore hC dX5_woven_121 rfl ?_
                  refine r_aload_n hC dX5_woven_123 rfl ?_
                  refine z_getR hM dX5_woven_124 fl_RX5_40 rfl rfl (vld_of (n := 1) rfl (by omega) (by omega)) ?_
                  refine r_iload hC dX5_woven_127 rfl ?_
                  refine r_if_eq (tgt := 143) hC dX5_woven_129 rfl (fun h23 => ?_) (fun h23 => by omega)
                  refine r_aload hC dX5_woven_143 rfl ?_
                  refine z_getR hM dX5_woven_145 fl_RX5_176 rfl rfl (vld_of (n := 7) rfl (by omega) (by omega)) ?_
                  refine r_iload hC dX5_woven_148 rfl ?_
                  refine z_iald hM dX5_woven_150 rfl (by omega) (by omega) (fun v24 h_v24 o_v24 t_v24 => ?_)
                  clear t_v24
                  have q_v24 : -1000 ≤ v24 ∧ v24 ≤ 1000 := o_v24
                  refine z_inv1 hM dX5_woven_151 vl_RX5_253 rfl rfl rfl (Nat.le_of_ble_eq_true rfl) (Nat.le_of_ble_eq_true rfl) ?_
                  refine qs_append (by omega) ?_
                  refine r_iload hC dX5_woven_154 rfl ?_
                  refine r_iload hC dX5_woven_156 rfl ?_
                  refine r_if_eq (tgt := 165) hC dX5_woven_158 rfl (fun h25 => ?_) (fun h25 => by omega)
                  refine r_iconst hC dX5_woven_165 rfl ?_
                  refine r_iaddE hC (w10) dX5_woven_166 (by omega) (by unfold inR; omega) ?_
                  refine r_istore hC dX5_woven_167 rfl ?_
                  refine r_iload hC dX5_woven_169 rfl ?_
                  refine r_iload hC dX5_woven_171 rfl ?_
                  refine r_if_eq (tgt := 180) hC dX5_woven_173 rfl (fun h26 => ?_) (fun h26 => by omega)
                  refine r_iconst hC dX5_woven_180 rfl ?_
                  refine r_iaddE hC ((w12 + 1)) dX5_woven_181 (by omega) (by unfold inR; omega) ?_
                  refine r_istore hC dX5_woven_182 rfl ?_
                  show K _ [_, _, _, _, _, _, _, _, _, _] _ _
                  refine r_iincE hC ((w11 - 1)) dX5_woven_184 rfl rfl (by omega) (by unfold inR; omega) ?_
                  refine r_goto (tgt := 72) hC dX5_woven_187 rfl ?_
                  refine r_forget hC (ls2 := [some (vR 2 0), some (vI l), some (vI o), some (vI w), some (vR 7 l), some (vR 7 o), some (vI w10), some (vI (w12 + 1)), some (vI (w11 - 1)), none]) (lsub_some (lsub_some (lsub_some (lsub_some (lsub_some (lsub_some (lsub_some (lsub_some (lsub_some (lsub_none lsub_nil)))))))))) ?_
                  exact ih72 (w10) ((w11 - 1)) ((w12 + 1))  (by omega) (by omega) (by omega) (by omega) (by omega) (by omega) (by omega)  
                · refine r_aload hC dX5_woven_97 rfl ?_
                  refine z_getR hM dX5_woven_99 fl_RX5_198 rfl rfl (vld_of (n := 7) rfl (by omega) (by omega)) ?_
                  refine r_iload hC dX5_woven_102 rfl ?_
                  refine z_iald hM dX5_woven_104 rfl (by omega) (by omega) (fun v27 h_v27 o_v27 t_v27 => ?_)
                  clear t_v27
                  refine r_aload hC dX5_woven_105 rfl ?_
                  refine z_getR hM dX5_woven_107 fl_RX5_198 rfl rfl (vld_of (n := 7) rfl (by omega) (by omega)) ?_
                  refine r_iload hC dX5_woven_110 rfl ?_
                  refine z_iald hM dX5_woven_112 rfl (by omega) (by omega) (fun v28 h_v28 o_v28 t_v28 => ?_)
                  clear t_v28
                  refine r_icmp_gt (tgt := 120) hC dX5_woven_113 rfl (fun h29 => ?_) (fun h29 => ?_)
                  · refine r_iconst hC dX5_woven_120 rfl ?_
                    refine r_istore hC dX5_woven_121 rfl ?_
                    refine r_aload_n hC dX5_woven_123 rfl ?_
                    refine z_getR hM dX5_woven_124 fl_RX5_40 rfl rfl (vld_of (n := 1) rfl (by omega) (by omega)) ?_
                    refine r_iload hC dX5_woven_127 rfl ?_
                    refine r_if_eq (tgt := 143) hC dX5_woven_129 rfl (fun h30 => ?_) (fun h30 => by omega)
                    refine r_aload hC dX5_woven_143 rfl ?_
                    refine z_getR hM dX5_woven_145 fl_RX5_176 rfl rfl (vld_of (n := 7) rfl (by omega) (by omega)) ?_
                    refine r_iload hC dX5_woven_148 rfl ?_
                    refine z_iald hM dX5_woven_150 rfl (by omega) (by omega) (fun v31 h_v31 o_v31 t_v31 => ?_)
                    clear t_v31
                    have q_v31 : -1000 ≤ v31 ∧ v31 ≤ 1000 := o_v31
                    refine z_inv1 hM dX5_woven_151 vl_RX5_253 rfl rfl rfl (Nat.le_of_ble_eq_true rfl) (Nat.le_of_ble_eq_true rfl) ?_
                    refine qs_append (by omega) ?_
                    refine r_iload hC dX5_woven_154 rfl ?_
                    refine r_iload hC dX5_woven_156 rfl ?_
                    refine r_if_eq (tgt := 165) hC dX5_woven_158 rfl (fun h32 => ?_) (fun h32 => by omega)
                    refine r_iconst hC dX5_woven_165 rfl ?_
                    refine r_iaddE hC (w10) dX5_woven_166 (by omega) (by unfold inR; omega) ?_
                    refine r_istore hC dX5_woven_167 rfl ?_
                    refine r_iload hC dX5_woven_169 rfl ?_
                    refine r_iload hC dX5_woven_171 rfl ?_
                    refine r_if_eq (tgt := 180) hC dX5_woven_173 rfl (fun h33 => ?_) (fun h33 => by omega)
                    refine r_iconst hC dX5_woven_180 rfl ?_
                    refine r_iaddE hC ((w12 + 1)) dX5_woven_181 (by omega) (by unfold inR; omega) ?_
                    refine r_istore hC dX5_woven_182 rfl ?_
                    show K _ [_, _, _, _, _, _, _, _, _, _] _ _
                    refine r_iincE hC ((w11 - 1)) dX5_woven_184 rfl rfl (by omega) (by unfold inR; omega) ?_
                    refine r_goto (tgt := 72) hC dX5_woven_187 rfl ?_
                    refine r_forget hC (ls2 := [some (vR 2 0), some (vI l), some (vI o), some (vI w), some (vR 7 l), some (vR 7 o), some (vI w10), some (vI (w12 + 1)), some (vI (w11 - 1)), none]) (lsub_some (lsub_some (lsub_some (lsub_some (lsub_some (lsub_some (lsub_some (lsub_some (lsub_some (lsub_none lsub_nil)))))))))) ?_
                    exact ih72 (w10) ((w11 - 1)) ((w12 + 1))  (by omega) (by omega) (by omega) (by omega) (by omega) (by omega) (by omega)  
                  · refine r_iconst hC dX5_woven_116 rfl ?_
                    refine r_goto (tgt := 121) hC dX5_woven_117 rfl ?_
                    refine r_istore hC dX5_woven_121 rfl ?_
                    refine r_aload_n hC dX5_woven_123 rfl ?_
                    refine z_getR hM dX5_woven_124 fl_RX5_40 rfl rfl (vld_of (n := 1) rfl (by omega) (by omega)) ?_
                    refine r_iload hC dX5_woven_127 rfl ?_
                    refine r_if_eq (tgt := 143) hC dX5_woven_129 rfl (fun h34 => by omega) (fun h34 => ?_)
                    refine r_aload hC dX5_woven_132 rfl ?_
                    refine z_getR hM dX5_woven_134 fl_RX5_176 rfl rfl (vld_of (n := 7) rfl (by omega) (by omega)) ?_
                    refine r_iload hC dX5_woven_137 rfl ?_
                    refine z_iald hM dX5_woven_139 rfl (by omega) (by omega) (fun v35 h_v35 o_v35 t_v35 => ?_)
                    clear t_v35
                    have q_v35 : -1000 ≤ v35 ∧ v35 ≤ 1000 := o_v35
                    refine r_goto (tgt := 151) hC dX5_woven_140 rfl ?_
                    refine z_inv1 hM dX5_woven_151 vl_RX5_253 rfl rfl rfl (Nat.le_of_ble_eq_true rfl) (Nat.le_of_ble_eq_true rfl) ?_
                    refine qs_append (by omega) ?_
                    refine r_iload hC dX5_woven_154 rfl ?_
                    refine r_iload hC dX5_woven_156 rfl ?_
                    refine r_if_eq (tgt := 165) hC dX5_woven_158 rfl (fun h36 => by omega) (fun h36 => ?_)
                    refine r_iconst hC dX5_woven_161 rfl ?_
                    refine r_goto (tgt := 166) hC dX5_woven_162 rfl ?_
                    refine r_iaddE hC ((w10 + 1)) dX5_woven_166 (by omega) (by unfold inR; omega) ?_
                    refine r_istore hC dX5_woven_167 rfl ?_
                    refine r_iload hC dX5_woven_169 rfl ?_
                    refine r_iload hC dX5_woven_171 rfl ?_
                    refine r_if_eq (tgt := 180) hC dX5_woven_173 rfl (fun h37 => by omega) (fun h37 => ?_)
                    refine r_iconst hC dX5_woven_176 rfl ?_
                    refine r_goto (tgt := 181) hC dX5_woven_177 rfl ?_
                    refine r_iaddE hC (w12) dX5_woven_181 (by omega) (by unfold inR; omega) ?_
                    refine r_istore hC dX5_woven_182 rfl ?_
                    show K _ [_, _, _, _, _, _, _, _, _, _] _ _
                    refine r_iincE hC ((w11 - 1)) dX5_woven_184 rfl rfl (by omega) (by unfold inR; omega) ?_
                    refine r_goto (tgt := 72) hC dX5_woven_187 rfl ?_
                    refine r_forget hC (ls2 := [some (vR 2 0), some (vI l), some (vI o), some (vI w), some (vR 7 l), some (vR 7 o), some (vI (w10 + 1)), some (vI w12), some (vI (w11 - 1)), none]) (lsub_some (lsub_some (lsub_some (lsub_some (lsub_some (lsub_some (lsub_some (lsub_some (lsub_some (lsub_none lsub_nil)))))))))) ?_
                    exact ih72 ((w10 + 1)) ((w11 - 1)) (w12)  (by omega) (by omega) (by omega) (by omega) (by omega) (by omega) (by omega)  
        exact L72 242 (0) ((hl + ho)) (0)  (by omega) (by omega) (by omega) (by omega) (by omega) (by omega) (by omega)  
      · refine r_ldc hC dX5_woven_38 co_RX5_175 rfl ?_
        refine y_iret hK rfl dX5_woven_40 ?_
        exact k _ (by omega)
theorem qs_partFrom {eb : Bool} {d : Nat} {P : Option Vl → Mm → Prop} {σ : Mm} {i f r w h : Int} (b_i : 0 ≤ i ∧ i ≤ 6) (b_f : 0 ≤ f ∧ f ≤ 120) (b_r : 1 ≤ r ∧ r ≤ 4) (b_h : 1 ≤ h ∧ h ≤ 121) (qg0 : σ 7 i 6 = h)  (k : P none σ) : WT (false, false, eb) (d + 4) 113 [vR 2 0, vR 7 i, vI f, vI r, vI w] σ P := by
  refine WT_in fun K hK => ?_
  have hK : StpY (false, false, eb) cX5_partFrom RX5 (none) (WT (false, false, eb) (d + 3)) P K := hK
  have hM := hK.1
  have hC := hK.1.1
  show K 0 [some (vR 2 0), some (vR 7 i), some (vI f), some (vI r), some (vI w), none, none, none, none] [] σ
  refine r_rngz hC (fun g0 => ?_)
  have r_w : -2147483648 ≤ w ∧ w ≤ 2147483647 := inR_le (g0 (vI w) (by simp))
  refine r_iconst hC dX5_partFrom_0 rfl ?_
  refine r_istore hC dX5_partFrom_1 rfl ?_
  have L3 : ∀ (n3 : Nat) (w1 : Int), 1 ≤ w1 ∧ w1 ≤ 5 → 5 - w1 < (n3 : Int) → K 3 [some (vR 2 0), some (vR 7 i), some (vI f), some (vI r), some (vI w), some (vI w1), none, none, none] [] σ := by
    intro n3
    induction n3 with
    | zero => intro w1  f_w1  hm  ; omega
    | succ n3 ih3 =>
      intro w1  f_w1  hm3  
      refine r_iload hC dX5_partFrom_3 rfl ?_
      refine r_iload_n hC dX5_partFrom_5 rfl ?_
      refine r_icmp_gt (tgt := 26) hC dX5_partFrom_6 rfl (fun h2 => ?_) (fun h2 => ?_)
      · refine r_aload_n hC dX5_partFrom_26 rfl ?_
        refine z_getR hM dX5_partFrom_27 fl_RX5_40 rfl rfl (vld_of (n := 1) rfl (by omega) (by omega)) ?_
        refine r_aload_n hC dX5_partFrom_30 rfl ?_
        refine z_getI (jz := 2) hM dX5_partFrom_31 fl_RX5_98 rfl rfl rfl (fun v3 h_v3 o_v3 t_v3 => ?_)
        clear t_v3
        have q_v3 : 0 ≤ v3 ∧ v3 ≤ 9 := o_v3.2.2 rfl
        refine z_inv1 hM dX5_partFrom_34 vl_RX5_251 rfl rfl rfl (Nat.le_of_ble_eq_true rfl) (Nat.le_of_ble_eq_true rfl) ?_
        refine qs_begin (by omega) ?_
        refine r_iload_n hC dX5_partFrom_37 rfl ?_
        refine r_iconst hC dX5_partFrom_38 rfl ?_
        refine r_iaddE hC ((f + 1)) dX5_partFrom_39 (by omega) (by unfold inR; omega) ?_
        refine r_istore hC dX5_partFrom_40 rfl ?_
        have L42 : ∀ (n42 : Nat) (w4 : Int), 1 ≤ w4 ∧ w4 ≤ 121 → 121 - w4 < (n42 : Int) → K 42 [some (vR 2 0), some (vR 7 i), some (vI f), some (vI r), some (vI w), some (vI w4), none, none, none] [] σ := by
          intro n42
          induction n42 with
          | zero => intro w4  f_w4  hm  ; omega
          | succ n42 ih42 =>
            intro w4  f_w4  hm42  
            refine r_iload hC dX5_partFrom_42 rfl ?_
            refine r_aload_n hC dX5_partFrom_44 rfl ?_
            refine z_getI (jz := 6) hM dX5_partFrom_45 fl_RX5_154 rfl rfl rfl (fun v5 h_v5 o_v5 t_v5 => ?_)
            have e_v5 : h = v5 := ((t_v5 (Or.inl (show (6 : Int) ≠ 11 from by decide))).trans qg0).symm
            clear t_v5
            subst e_v5
            refine r_icmp_ge (tgt := 169) hC dX5_partFrom_48 rfl (fun h6 => ?_) (fun h6 => ?_)
            · refine r_aload_n hC dX5_partFrom_169 rfl ?_
              refine z_getR hM dX5_partFrom_170 fl_RX5_40 rfl rfl (vld_of (n := 1) rfl (by omega) (by omega)) ?_
              refine r_aload_n hC dX5_partFrom_173 rfl ?_
              refine z_getR hM dX5_partFrom_174 fl_RX5_176 rfl rfl (vld_of (n := 7) rfl (by omega) (by omega)) ?_
              refine r_aload_n hC dX5_partFrom_177 rfl ?_
              refine z_getI (jz := 6) hM dX5_partFrom_178 fl_RX5_154 rfl rfl rfl (fun v7 h_v7 o_v7 t_v7 => ?_)
              have e_v7 : h = v7 := ((t_v7 (Or.inl (show (6 : Int) ≠ 11 from by decide))).trans qg0).symm
              clear t_v7
              subst e_v7
              refine r_iconst hC dX5_partFrom_181 rfl ?_
              refine r_isubE hC ((h - 1)) dX5_partFrom_182 (by omega) (by unfold inR; omega) ?_
              refine z_iald hM dX5_partFrom_183 rfl (by omega) (by omega) (fun v8 h_v8 o_v8 t_v8 => ?_)
              clear t_v8
              have q_v8 : -1000 ≤ v8 ∧ v8 ≤ 1000 := o_v8
              refine z_inv1 hM dX5_partFrom_184 vl_RX5_253 rfl rfl rfl (Nat.le_of_ble_eq_true rfl) (Nat.le_of_ble_eq_true rfl) ?_
              refine qs_append (by omega) ?_
              refine r_aload_n hC dX5_partFrom_187 rfl ?_
              refine z_getR hM dX5_partFrom_188 fl_RX5_53 rfl rfl (vld_of (n := 1) rfl (by omega) (by omega)) ?_
              refine r_iconst hC dX5_partFrom_191 rfl ?_
              refine z_aald hM dX5_partFrom_192 rfl (by decide) (by omega) (by omega) (vld_of (n := 5) rfl (by omega) (by omega)) ?_
              refine r_iload_n hC dX5_partFrom_193 rfl ?_
              refine r_aload_n hC dX5_partFrom_194 rfl ?_
              refine z_getR hM dX5_partFrom_195 fl_RX5_40 rfl rfl (vld_of (n := 1) rfl (by omega) (by omega)) ?_
              refine r_iload hC dX5_partFrom_198 rfl ?_
              refine z_inv1 hM dX5_partFrom_200 vl_RX5_273 rfl rfl rfl (Nat.le_of_ble_eq_true rfl) (Nat.le_of_ble_eq_true rfl) ?_
              refine qs_number (fun v9 h_v9 => ?_)
              refine z_iastU hM dX5_partFrom_203 rfl (by omega) (by omega) (by simp [Un, Tb, DL, DF, DR, DX]) (by simp [Okv]) ?_
              refine y_vret hK rfl dX5_partFrom_204 ?_
              exact k
            · refine r_aload_n hC dX5_partFrom_51 rfl ?_
              refine z_getR hM dX5_partFrom_52 fl_RX5_40 rfl rfl (vld_of (n := 1) rfl (by omega) (by omega)) ?_
              refine r_aload_n hC dX5_partFrom_55 rfl ?_
              refine z_getR hM dX5_partFrom_56 fl_RX5_176 rfl rfl (vld_of (n := 7) rfl (by omega) (by omega)) ?_
              refine r_iload hC dX5_partFrom_59 rfl ?_
              refine r_iconst hC dX5_partFrom_61 rfl ?_
              refine r_isubE hC ((w4 - 1)) dX5_partFrom_62 (by omega) (by unfold inR; omega) ?_
              refine z_iald hM dX5_partFrom_63 rfl (by omega) (by omega) (fun v10 h_v10 o_v10 t_v10 => ?_)
              clear t_v10
              have q_v10 : -1000 ≤ v10 ∧ v10 ≤ 1000 := o_v10
              refine z_inv1 hM dX5_partFrom_64 vl_RX5_253 rfl rfl rfl (Nat.le_of_ble_eq_true rfl) (Nat.le_of_ble_eq_true rfl) ?_
              refine qs_append (by omega) ?_
              refine r_aload_n hC dX5_partFrom_67 rfl ?_
              refine z_getR hM dX5_partFrom_68 fl_RX5_40 rfl rfl (vld_of (n := 1) rfl (by omega) (by omega)) ?_
              refine r_iload hC dX5_partFrom_71 rfl ?_
              refine z_inv1 hM dX5_partFrom_73 vl_RX5_273 rfl rfl rfl (Nat.le_of_ble_eq_true rfl) (Nat.le_of_ble_eq_true rfl) ?_
              refine qs_number (fun v11 h_v11 => ?_)
              refine r_istore hC dX5_partFrom_76 rfl ?_
              refine r_iconst hC dX5_partFrom_78 rfl ?_
              refine r_istore hC dX5_partFrom_79 rfl ?_
              have L81 : ∀ (n81 : Nat) (w12 : Int), 2 ≤ w12 ∧ w12 ≤ 5 → 5 - w12 < (n81 : Int) → K 81 [some (vR 2 0), some (vR 7 i), some (vI f), some (vI r), some (vI w), some (vI w4), some (vI v11), some (vI w12), none] [] σ := by
                intro n81
                induction n81 with
                | zero => intro w12  f_w12  hm  ; omega
                | succ n81 ih81 =>
                  intro w12  f_w12  hm81  
                  refine r_iload hC dX5_partFrom_81 rfl ?_
                  refine r_iload_n hC dX5_partFrom_83 rfl ?_
                  have J163_13 : K 163 [some (vR 2 0), some (vR 7 i), some (vI f), some (vI r), some (vI w), some (vI w4), some (vI v11), some (vI w12), none] [] σ := by
                    refine r_iincE hC ((w4 + 1)) dX5_partFrom_163 rfl rfl (by omega) (by unfold inR; omega) ?_
                    refine r_goto (tgt := 42) hC dX5_partFrom_166 rfl ?_
                    refine r_forget hC (ls2 := [some (vR 2 0), some (vR 7 i), some (vI f), some (vI r), some (vI w), some (vI (w4 + 1)), none, none, none]) (lsub_some (lsub_some (lsub_some (lsub_some (lsub_some (lsub_some (lsub_none (lsub_none (lsub_none lsub_nil))))))))) ?_
                    exact ih42 ((w4 + 1))  (by omega)  (by omega)  
                  refine r_icmp_gt (tgt := 163) hC dX5_partFrom_84 rfl (fun h13 => ?_) (fun h13 => ?_)
                  · exact J163_13
                  · refine r_iload hC dX5_partFrom_87 rfl ?_
                    refine r_ldc hC dX5_partFrom_89 co_RX5_175 rfl ?_
                    refine r_icmp_eq (tgt := 163) hC dX5_partFrom_91 rfl (fun h15 => ?_) (fun h15 => ?_)
                    · exact J163_13
                    · refine r_aload_n hC dX5_partFrom_94 rfl ?_
                      refine z_getR hM dX5_partFrom_95 fl_RX5_53 rfl rfl (vld_of (n := 1) rfl (by omega) (by omega)) ?_
                      refine r_iload hC dX5_partFrom_98 rfl ?_
                      refine r_iconst hC dX5_partFrom_100 rfl ?_
                      refine r_isubE hC ((w12 - 1)) dX5_partFrom_101 (by omega) (by unfold inR; omega) ?_
                      refine z_aald hM dX5_partFrom_102 rfl (by decide) (by omega) (by omega) (vld_of (n := 5) rfl (by omega) (by omega)) ?_
                      refine r_iload hC dX5_partFrom_103 rfl ?_
                      refine z_iald hM dX5_partFrom_105 rfl (by omega) (by omega) (fun v16 h_v16 o_v16 t_v16 => ?_)
                      clear t_v16
                      refine r_istore hC dX5_partFrom_106 rfl ?_
                      refine r_iload hC dX5_partFrom_108 rfl ?_
                      refine r_ldc hC dX5_partFrom_110 co_RX5_175 rfl ?_
                      have J157_17 : K 157 [some (vR 2 0), some (vR 7 i), some (vI f), some (vI r), some (vI w), some (vI w4), some (vI v11), some (vI w12), some (vI v16)] [] σ := by
                        refine r_iincE hC ((w12 + 1)) dX5_partFrom_157 rfl rfl (by omega) (by unfold inR; omega) ?_
                        refine r_goto (tgt := 81) hC dX5_partFrom_160 rfl ?_
                        refine r_forget hC (ls2 := [some (vR 2 0), some (vR 7 i), some (vI f), some (vI r), some (vI w), some (vI w4), some (vI v11), some (vI (w12 + 1)), none]) (lsub_some (lsub_some (lsub_some (lsub_some (lsub_some (lsub_some (lsub_some (lsub_some (lsub_none lsub_nil))))))))) ?_
                        exact ih81 ((w12 + 1))  (by omega)  (by omega)  
                      refine r_icmp_eq (tgt := 157) hC dX5_partFrom_112 rfl (fun h17 => ?_) (fun h17 => ?_)
                      · exact J157_17
                      · refine r_iload hC dX5_partFrom_115 rfl ?_
                        refine r_iload hC dX5_partFrom_117 rfl ?_
                        refine r_iaddG hC dX5_partFrom_119 (fun v19 h_v19 => ?_)
                        refine r_aload_n hC dX5_partFrom_120 rfl ?_
                        refine z_getR hM dX5_partFrom_121 fl_RX5_53 rfl rfl (vld_of (n := 1) rfl (by omega) (by omega)) ?_
                        refine r_iload hC dX5_partFrom_124 rfl ?_
                        refine z_aald hM dX5_partFrom_126 rfl (by decide) (by omega) (by omega) (vld_of (n := 5) rfl (by omega) (by omega)) ?_
                        refine r_iload_n hC dX5_partFrom_127 rfl ?_
                        refine z_iald hM dX5_partFrom_128 rfl (by omega) (by omega) (fun v20 h_v20 o_v20 t_v20 => ?_)
                        clear t_v20
                        refine r_icmp_le (tgt := 157) hC dX5_partFrom_129 rfl (fun h21 => ?_) (fun h21 => ?_)
                        · exact J157_17
                        · refine r_aload_n hC dX5_partFrom_132 rfl ?_
                          refine z_getR hM dX5_partFrom_133 fl_RX5_53 rfl rfl (vld_of (n := 1) rfl (by omega) (by omega)) ?_
                          refine r_iload hC dX5_partFrom_136 rfl ?_
                          refine z_aald hM dX5_partFrom_138 rfl (by decide) (by omega) (by omega) (vld_of (n := 5) rfl (by omega) (by omega)) ?_
                          refine r_iload_n hC dX5_partFrom_139 rfl ?_
                          refine r_iload hC dX5_partFrom_140 rfl ?_
                          refine r_iload hC dX5_partFrom_142 rfl ?_
                          refine r_iaddG hC dX5_partFrom_144 (fun v22 h_v22 => ?_)
                          refine z_iastU hM dX5_partFrom_145 rfl (by omega) (by omega) (by simp [Un, Tb, DL, DF, DR, DX]) (by simp [Okv]) ?_
                          refine r_aload_n hC dX5_partFrom_146 rfl ?_
                          refine z_getR hM dX5_partFrom_147 fl_RX5_56 rfl rfl (vld_of (n := 1) rfl (by omega) (by omega)) ?_
                          refine r_iload hC dX5_partFrom_150 rfl ?_
                          refine z_aald hM dX5_partFrom_152 rfl (by decide) (by omega) (by omega) (vld_of (n := 5) rfl (by omega) (by omega)) ?_
                          refine r_iload_n hC dX5_partFrom_153 rfl ?_
                          refine r_iload hC dX5_partFrom_154 rfl ?_
                          refine z_iastU hM dX5_partFrom_156 rfl (by omega) (by omega) (by simp [Un, Tb, DL, DF, DR, DX]) (by simp [Okv]; try omega) ?_
                          exact J157_17    
              exact L81 5 (2)  (by omega)  (by omega)  
        exact L42 122 ((f + 1))  (by omega)  (by omega)  
      · refine r_aload_n hC dX5_partFrom_9 rfl ?_
        refine z_getR hM dX5_partFrom_10 fl_RX5_53 rfl rfl (vld_of (n := 1) rfl (by omega) (by omega)) ?_
        refine r_iload hC dX5_partFrom_13 rfl ?_
        refine z_aald hM dX5_partFrom_15 rfl (by decide) (by omega) (by omega) (vld_of (n := 5) rfl (by omega) (by omega)) ?_
        refine r_iload_n hC dX5_partFrom_16 rfl ?_
        refine r_ldc hC dX5_partFrom_17 co_RX5_175 rfl ?_
        refine z_iastU hM dX5_partFrom_19 rfl (by omega) (by omega) (by simp [Un, Tb, DL, DF, DR, DX]) (by simp [Okv]) ?_
        refine r_iincE hC ((w1 + 1)) dX5_partFrom_20 rfl rfl (by omega) (by unfold inR; omega) ?_
        refine r_goto (tgt := 3) hC dX5_partFrom_23 rfl ?_
        exact ih3 ((w1 + 1))  (by omega)  (by omega)  
  exact L3 6 (1)  (by omega)  (by omega)  
theorem qs_parted_S {eb : Bool} {d : Nat} {P : Option Vl → Mm → Prop} {σ : Mm} {l r w x hl : Int} (qg0 : σ 7 l 6 = hl) (hL : HL σ)  (k : ∀ r : Int, -2147483648 ≤ r ∧ r ≤ 2147483647 → P (some (vI r)) σ) : WT (false, false, eb) (d + 5) 112 [vR 2 0, vI l, vI r, vI w, vI x] σ P := by
  refine WT_in fun K hK => ?_
  have hK : StpY (false, false, eb) cX5_parted RX5 (some .int) (WT (false, false, eb) (d + 4)) P K := hK
  have hM := hK.1
  have hC := hK.1.1
  show K 0 [some (vR 2 0), some (vI l), some (vI r), some (vI w), some (vI x), none, none, none, none] [] σ
  refine r_rngz hC (fun g0 => ?_)
  have r_l : -2147483648 ≤ l ∧ l ≤ 2147483647 := inR_le (g0 (vI l) (by simp))
  have r_r : -2147483648 ≤ r ∧ r ≤ 2147483647 := inR_le (g0 (vI r) (by simp))
  have r_w : -2147483648 ≤ w ∧ w ≤ 2147483647 := inR_le (g0 (vI w) (by simp))
  have r_x : -2147483648 ≤ x ∧ x ≤ 2147483647 := inR_le (g0 (vI x) (by simp))
  refine r_aload_n hC dX5_parted_0 rfl ?_
  refine r_iload_n hC dX5_parted_1 rfl ?_
  refine r_iload_n hC dX5_parted_2 rfl ?_
  refine z_inv2 hM dX5_parted_3 vl_RX5_248 rfl rfl rfl (Nat.le_of_ble_eq_true rfl) (Nat.le_of_ble_eq_true rfl) ?_
  refine qs_laneWith ?_ (fun h1 => ?_)
  · refine r_astoreN hC dX5_parted_6 rfl ?_
    refine r_aloadN hC dX5_parted_8 rfl ?_
    refine r_ifnullN (tgt := 41) hC dX5_parted_10 rfl ?_
    refine r_ldc hC dX5_parted_41 co_RX5_175 rfl ?_
    refine y_iret hK rfl dX5_parted_43 ?_
    exact k _ (by omega)
  · have b_h1 : 0 ≤ hl ∧ hl ≤ 120 := by have := HL.h7 hL (i := l) (by omega) (by omega); have := qg0; omega
    refine r_astore hC dX5_parted_6 rfl ?_
    refine r_aload hC dX5_parted_8 rfl ?_
    refine r_ifnullR hC dX5_parted_10 ?_
    refine r_iload_n hC dX5_parted_13 rfl ?_
    refine r_iconst hC dX5_parted_14 rfl ?_
    refine r_iconst hC dX5_parted_15 rfl ?_
    refine z_ins3 hM dX5_parted_16 tl_RX5_59 rfl (Nat.le_of_ble_eq_true rfl) (Nat.le_of_ble_eq_true rfl) ?_
    refine qs_within (fun h3 => ?_) (fun h3 => ?_)
    · refine r_if_eq (tgt := 41) hC dX5_parted_19 rfl (fun h4 => by omega) (fun h4 => ?_)
      refine r_iload hC dX5_parted_22 rfl ?_
      refine r_iconst hC dX5_parted_24 rfl ?_
      refine r_iload_n hC dX5_parted_25 rfl ?_
      refine z_ins3 hM dX5_parted_26 tl_RX5_59 rfl (Nat.le_of_ble_eq_true rfl) (Nat.le_of_ble_eq_true rfl) ?_
      refine qs_within (fun h6 => ?_) (fun h6 => ?_)
      · refine r_if_eq (tgt := 41) hC dX5_parted_29 rfl (fun h7 => by omega) (fun h7 => ?_)
        refine r_aload hC dX5_parted_32 rfl ?_
        refine z_getI (jz := 6) hM dX5_parted_34 fl_RX5_154 rfl rfl rfl (fun v8 h_v8 o_v8 t_v8 => ?_)
        have e_v8 : hl = v8 := ((t_v8 (Or.inl (show (6 : Int) ≠ 11 from by decide))).trans qg0).symm
        clear t_v8
        subst e_v8
        refine r_iload_n hC dX5_parted_37 rfl ?_
        refine r_icmp_ge (tgt := 44) hC dX5_parted_38 rfl (fun h9 => ?_) (fun h9 => ?_)
        · refine r_aload hC dX5_parted_44 rfl ?_
          refine z_getI (jz := 6) hM dX5_parted_46 fl_RX5_154 rfl rfl rfl (fun v10 h_v10 o_v10 t_v10 => ?_)
          have e_v10 : hl = v10 := ((t_v10 (Or.inl (show (6 : Int) ≠ 11 from by decide))).trans qg0).symm
          clear t_v10
          subst e_v10
          refine r_iconst hC dX5_parted_49 rfl ?_
          refine r_isubE hC ((hl - 1)) dX5_parted_50 (by omega) (by unfold inR; omega) ?_
          refine r_istore hC dX5_parted_51 rfl ?_
          have L53 : ∀ (n53 : Nat) (w11 : Int), -1 ≤ w11 ∧ w11 ≤ 119 → w11 + 1 < (n53 : Int) → K 53 [some (vR 2 0), some (vI l), some (vI r), some (vI w), some (vI x), some (vR 7 l), some (vI w11), none, none] [] σ := by
            intro n53
            induction n53 with
            | zero => intro w11  f_w11  hm  ; omega
            | succ n53 ih53 =>
              intro w11  f_w11  hm53  
              refine r_iload hC dX5_parted_53 rfl ?_
              refine r_if_lt (tgt := 74) hC dX5_parted_55 rfl (fun h12 => ?_) (fun h12 => ?_)
              · refine r_aload_n hC dX5_parted_74 rfl ?_
                refine z_getR hM dX5_parted_75 fl_RX5_53 rfl rfl (vld_of (n := 1) rfl (by omega) (by omega)) ?_
                refine r_iload_n hC dX5_parted_78 rfl ?_
                refine z_aald hM dX5_parted_79 rfl (by decide) (by omega) (by omega) (vld_of (n := 5) rfl (by omega) (by omega)) ?_
                refine r_iconst hC dX5_parted_80 rfl ?_
                refine z_iald hM dX5_parted_81 rfl (by omega) (by omega) (fun v13 h_v13 o_v13 t_v13 => ?_)
                clear t_v13
                refine r_istore hC dX5_parted_82 rfl ?_
                refine r_iload hC dX5_parted_84 rfl ?_
                refine r_ldc hC dX5_parted_86 co_RX5_175 rfl ?_
                refine r_icmp_eq (tgt := 96) hC dX5_parted_88 rfl (fun h14 => ?_) (fun h14 => ?_)
                · refine r_iload hC dX5_parted_96 rfl ?_
                  refine y_iret hK rfl dX5_parted_98 ?_
                  exact k _ (by omega)
                · refine r_iload hC dX5_parted_91 rfl ?_
                  refine r_if_ne (tgt := 99) hC dX5_parted_93 rfl (fun h15 => ?_) (fun h15 => ?_)
                  · refine r_iconst hC dX5_parted_99 rfl ?_
                    refine r_istore hC dX5_parted_100 rfl ?_
                    refine r_iconst hC dX5_parted_102 rfl ?_
                    refine r_istore hC dX5_parted_103 rfl ?_
                    have L105 : ∀ (n105 : Nat) (w16 w17 : Int), 0 ≤ w16 ∧ w16 ≤ 120 → 1 ≤ w17 ∧ w17 ≤ 4 → 4 - w17 < (n105 : Int) → K 105 [some (vR 2 0), some (vI l), some (vI r), some (vI w), some (vI x), some (vR 7 l), some (vI v13), some (vI w16), some (vI w17)] [] σ := by
                      intro n105
                      induction n105 with
                      | zero => intro w16 w17  f_w16 f_w17  hm  ; omega
                      | succ n105 ih105 =>
                        intro w16 w17  f_w16 f_w17  hm105  
                        refine r_iload hC dX5_parted_105 rfl ?_
                        refine r_iload hC dX5_parted_107 rfl ?_
                        refine r_icmp_ge (tgt := 134) hC dX5_parted_109 rfl (fun h18 => ?_) (fun h18 => ?_)
                        · refine r_iload hC dX5_parted_134 rfl ?_
                          refine y_iret hK rfl dX5_parted_136 ?_
                          exact k _ (by omega)
                        · refine r_aload_n hC dX5_parted_112 rfl ?_
                          refine z_getR hM dX5_parted_113 fl_RX5_56 rfl rfl (vld_of (n := 1) rfl (by omega) (by omega)) ?_
                          refine r_iload_n hC dX5_parted_116 rfl ?_
                          refine r_iload hC dX5_parted_117 rfl ?_
                          refine r_isubE hC ((r - w17)) dX5_parted_119 (by omega) (by unfold inR; omega) ?_
                          refine r_iconst hC dX5_parted_120 rfl ?_
                          refine r_iaddE hC (((r - w17) + 1)) dX5_parted_121 (by omega) (by unfold inR; omega) ?_
                          refine z_aald hM dX5_parted_122 rfl (by decide) (by omega) (by omega) (vld_of (n := 5) rfl (by omega) (by omega)) ?_
                          refine r_iload hC dX5_parted_123 rfl ?_
                          refine z_iald hM dX5_parted_125 rfl (by omega) (by omega) (fun v19 h_v19 o_v19 t_v19 => ?_)
                          clear t_v19
                          have q_v19 : 0 ≤ v19 ∧ v19 ≤ 120 := o_v19
                          refine r_istore hC dX5_parted_126 rfl ?_
                          refine r_iincE hC ((w17 + 1)) dX5_parted_128 rfl rfl (by omega) (by unfold inR; omega) ?_
                          refine r_goto (tgt := 105) hC dX5_parted_131 rfl ?_
                          exact ih105 (v19) ((w17 + 1))  (by omega) (by omega)  (by omega)  
                    exact L105 5 (0) (1)  (by omega) (by omega)  (by omega)  
                  · refine r_iload hC dX5_parted_96 rfl ?_
                    refine y_iret hK rfl dX5_parted_98 ?_
                    exact k _ (by omega)
              · refine r_aload_n hC dX5_parted_58 rfl ?_
                refine r_aload hC dX5_parted_59 rfl ?_
                refine r_iload hC dX5_parted_61 rfl ?_
                refine r_iload_n hC dX5_parted_63 rfl ?_
                refine r_iload_n hC dX5_parted_64 rfl ?_
                refine z_inv4 hM dX5_parted_65 vl_RX5_345 rfl rfl rfl (Nat.le_of_ble_eq_true rfl) (Nat.le_of_ble_eq_true rfl) ?_
                refine qs_partFrom (h := hl) (by omega) (by omega) (by omega) (by omega) (by have hq := qg0; omega) ?_
                refine r_iincE hC ((w11 - 1)) dX5_parted_68 rfl rfl (by omega) (by unfold inR; omega) ?_
                refine r_goto (tgt := 53) hC dX5_parted_71 rfl ?_
                exact ih53 ((w11 - 1))  (by omega)  (by omega)  
          exact L53 122 ((hl - 1))  (by omega)  (by omega)  
        · refine r_ldc hC dX5_parted_41 co_RX5_175 rfl ?_
          refine y_iret hK rfl dX5_parted_43 ?_
          exact k _ (by omega)
      · refine r_if_eq (tgt := 41) hC dX5_parted_29 rfl (fun h20 => ?_) (fun h20 => by omega)
        refine r_ldc hC dX5_parted_41 co_RX5_175 rfl ?_
        refine y_iret hK rfl dX5_parted_43 ?_
        exact k _ (by omega)
    · refine r_if_eq (tgt := 41) hC dX5_parted_19 rfl (fun h21 => ?_) (fun h21 => by omega)
      refine r_ldc hC dX5_parted_41 co_RX5_175 rfl ?_
      refine y_iret hK rfl dX5_parted_43 ?_
      exact k _ (by omega)
