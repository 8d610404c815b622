-- B: what a part comes to
theorem FRc.inF {ρ : Mm} {o : Int} {u : Int → Int} {n : Nat} (h : FRc ρ o u n) (hc : ∀ j : Int, 0 ≤ j → j < 16 → 0 ≤ ρ 15 0 j ∧ ρ 15 0 j ≤ 3) : InF ρ := by
  refine ⟨fun q => ?_, fun q => ?_⟩
  · have e : o = 9 := h.1.symm.trans q
    subst e
    rw [un_9 h]
    exact tbl_b hc n
  · have e : o = 1 := h.1.symm.trans q
    subst e
    rw [(un_1 h).1]
    exact shr_pos u n
theorem x_comesTo_S {eb : Bool} {d : Nat} {P : Option Vl → Mm → Prop} {σ : Mm} {i f z w : Int} (b_i : 0 ≤ i ∧ i ≤ 6) (b_f : 0 ≤ f ∧ f ≤ 121) (b_z : -2147483648 ≤ z ∧ z ≤ 121)  (k : ∀ ρ : Mm, Gx (fun c x y => c = 17 ∧ x = 0 ∨ c = 14 ∧ x = 0 ∧ (y = 5 ∨ y = 6 ∨ y = 7)) σ ρ → InF ρ → P (some (vI (cm (σ 16 0) (σ 15 0) (σ 7 i 2) (fun j => σ 9 i (f + j)) (z - f).toNat w))) ρ) : WT (true, true, eb) (d + 5) 132 [vR 2 0, vR 7 i, vI f, vI z, vI w] σ P := by
  refine WT_in fun K hK => ?_
  have hK : StpY (true, true, eb) cX5_comesTo RX5 (some .int) (WT (true, true, eb) (d + 4)) P K := hK
  have hM := hK.1
  have hC := hK.1.1
  show K 0 [some (vR 2 0), some (vR 7 i), some (vI f), some (vI z), some (vI w)] [] σ
  refine z_ok hM (fun hok => ?_)
  refine r_rngz hC (fun g0 => ?_)
  have r_w : -2147483648 ≤ w ∧ w ≤ 2147483647 := inR_le (g0 (vI w) (by simp))
  refine r_aload_n hC dX5_comesTo_0 rfl ?_
  refine r_aload_n hC dX5_comesTo_1 rfl ?_
  refine r_iload_n hC dX5_comesTo_2 rfl ?_
  refine r_iload_n hC dX5_comesTo_3 rfl ?_
  refine z_inv3 hM dX5_comesTo_4 vl_RX5_259 rfl rfl rfl (Nat.le_of_ble_eq_true rfl) (Nat.le_of_ble_eq_true rfl) ?_
  refine x_foldPart (by omega) (by omega) (by omega) (fun ρ1 g_ρ1 r_ρ1 => ?_)
  refine r_aload_n hC dX5_comesTo_7 rfl ?_
  refine z_getR hM dX5_comesTo_8 fl_RX5_40 rfl rfl (vld_of (n := 1) rfl (by omega) (by omega)) ?_
  refine r_iload hC dX5_comesTo_11 rfl ?_
  refine z_inv1 hM dX5_comesTo_13 vl_RX5_273 rfl rfl rfl (Nat.le_of_ble_eq_true rfl) (Nat.le_of_ble_eq_true rfl) ?_
  refine x_number (n := (z - f).toNat) (by have := hok 7 i 2 (Or.inl (by simp [Tb])); exact this.2.2 rfl) r_ρ1.1 r_ρ1.2.1 (by omega) r_ρ1 ?_
  refine y_iret hK rfl dX5_comesTo_16 ?_
  have e16 : ρ1 16 0 = σ 16 0 := funext fun j => g_ρ1 16 0 j (by omega)
  have e15 : ρ1 15 0 = σ 15 0 := funext fun j => g_ρ1 15 0 j (by omega)
  have q := k _ (Gx.gx (Gx.rf) g_ρ1 (by intro c x y h; omega)) (r_ρ1.inF (fun j h0 h1 => by rw [e15]; exact hok 15 0 j (Or.inl trivial)))
  rw [← e16, ← e15] at q
  exact q
theorem x_comesTo {eb : Bool} {d : Nat} {P : Option Vl → Mm → Prop} {σ : Mm} {i f z w : Int} (b_i : 0 ≤ i ∧ i ≤ 6) (b_f : 0 ≤ f ∧ f ≤ 121) (b_z : -2147483648 ≤ z ∧ z ≤ 121) (k : P (some (vI (cm (σ 16 0) (σ 15 0) (σ 7 i 2) (fun j => σ 9 i (f + j)) (z - f).toNat w))) σ) : WT (true, false, eb) (d + 5) 132 [vR 2 0, vR 7 i, vI f, vI z, vI w] σ P := by
  refine WT_loose (true, true, eb) (fun h => h) (fun h => by cases h) (fun c j q => ?_) (fun ρ hL hF hT hO => ?_)
  · rcases q with q | q | q | q
    · exact Or.inl q
    · exact Or.inr (Or.inl q)
    · cases q.1
    · exact Or.inr (Or.inr (Or.inr q))
  · have e16 : ρ 16 0 = σ 16 0 := funext fun j => hT 16 0 j (Or.inl trivial)
    have e15 : ρ 15 0 = σ 15 0 := funext fun j => hT 15 0 j (Or.inl trivial)
    have e9 : ρ 9 i = σ 9 i := funext fun j => hT 9 i j (Or.inl trivial)
    have e7 : ρ 7 i 2 = σ 7 i 2 := hT 7 i 2 (Or.inl (by simp [Tb]))
    refine x_comesTo_S b_i b_f b_z (fun ρ2 g hI => ⟨σ, ?_, fun h => Or.inl h, fun _ => Or.inr hI, fun c x y q => ?_⟩)
    · rw [e16, e15, e9, e7]
      exact k
    · refine (g c x y ?_).trans (hT c x y q)
      rintro (⟨rfl, rfl⟩ | ⟨rfl, rfl, h⟩)
      · rcases q with q | q | q | q
        · exact q
        · exact q.2
        · cases q.1
        · exact q.2
      · rcases q with q | q | q | q
        · exact q
        · exact q.2
        · cases q.1
        · exact q.2
