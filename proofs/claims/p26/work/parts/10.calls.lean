-- B: the TABLE
theorem m_isIn {e : Ev} {d : Nat} {P : Option Vl → Mm → Prop} {σ : Mm} {a lo hi : Int}   (k1 : (lo ≤ a ∧ a ≤ hi) → P (some (vI 1)) σ) (k0 : ¬ (lo ≤ a ∧ a ≤ hi) → P (some (vI 0)) σ) : WT e (d + 1) 136 [vI a, vI lo, vI hi] σ P := by
  refine WT_in fun K hK => ?_
  have hK : StpY e cX6_isIn RX6 (some .boolean) (WT e (d + 0)) P K := hK
  have hM := hK.1
  have hC := hK.1.1
  show K 0 [some (vI a), some (vI lo), some (vI hi)] [] σ
  refine r_rngz hC (fun g0 => ?_)
  have r_a : -2147483648 ≤ a ∧ a ≤ 2147483647 := inR_le (g0 (vI a) (by simp))
  have r_lo : -2147483648 ≤ lo ∧ lo ≤ 2147483647 := inR_le (g0 (vI lo) (by simp))
  have r_hi : -2147483648 ≤ hi ∧ hi ≤ 2147483647 := inR_le (g0 (vI hi) (by simp))
  refine r_iload_n hC dX6_isIn_0 rfl ?_
  refine r_iload_n hC dX6_isIn_1 rfl ?_
  refine r_icmp_lt (tgt := 14) hC dX6_isIn_2 rfl (fun h1 => ?_) (fun h1 => ?_)
  · refine r_iconst hC dX6_isIn_14 rfl ?_
    refine y_zret hK rfl dX6_isIn_15 (by omega) ?_
    exact k0 (by omega)
  · refine r_iload_n hC dX6_isIn_5 rfl ?_
    refine r_iload_n hC dX6_isIn_6 rfl ?_
    refine r_icmp_gt (tgt := 14) hC dX6_isIn_7 rfl (fun h2 => ?_) (fun h2 => ?_)
    · refine r_iconst hC dX6_isIn_14 rfl ?_
      refine y_zret hK rfl dX6_isIn_15 (by omega) ?_
      exact k0 (by omega)
    · refine r_iconst hC dX6_isIn_10 rfl ?_
      refine r_goto (tgt := 15) hC dX6_isIn_11 rfl ?_
      refine y_zret hK rfl dX6_isIn_15 (by omega) ?_
      exact k1 (by omega)
def pr (k : Nat) (σ : Mm) (x y : Int) : Int := σ k 0 (4 * x + y)
def asc (k : Nat) (σ : Mm) (t : Int) : Bool := pr k σ (pr k σ (t / 16) (t / 4 % 4)) (t % 4) == pr k σ (t / 16) (pr k σ (t / 4 % 4) (t % 4))
def cntA (k : Nat) (σ : Mm) : Nat → Int
  | 0 => 0
  | n + 1 => cntA k σ n + (if asc k σ (n : Int) = true then 1 else 0)
def fstA (k : Nat) (σ : Mm) : Nat → Int
  | 0 => -1
  | n + 1 => if fstA k σ n = -1 then (if asc k σ (n : Int) = true then -1 else (n : Int)) else fstA k σ n
theorem asc_yes {k : Nat} {σ : Mm} {t : Int} (h : pr k σ (pr k σ (t / 16) (t / 4 % 4)) (t % 4) = pr k σ (t / 16) (pr k σ (t / 4 % 4) (t % 4))) : asc k σ t = true := by
  unfold asc; rw [h]; exact beq_self_eq_true _
theorem asc_no {k : Nat} {σ : Mm} {t : Int} (h : ¬ pr k σ (pr k σ (t / 16) (t / 4 % 4)) (t % 4) = pr k σ (t / 16) (pr k σ (t / 4 % 4) (t % 4))) : ¬ asc k σ t = true := by
  unfold asc; intro q; exact h (eq_of_beq q)
theorem cntA_yes {k : Nat} {σ : Mm} {t : Int} (h0 : 0 ≤ t) (h : pr k σ (pr k σ (t / 16) (t / 4 % 4)) (t % 4) = pr k σ (t / 16) (pr k σ (t / 4 % 4) (t % 4))) : cntA k σ (t + 1).toNat = cntA k σ t.toNat + 1 := by
  rw [nat_succ h0]
  show cntA k σ t.toNat + (if asc k σ (t.toNat : Int) = true then 1 else 0) = _
  rw [Int.toNat_of_nonneg h0, if_pos (asc_yes h)]
theorem cntA_no {k : Nat} {σ : Mm} {t : Int} (h0 : 0 ≤ t) (h : ¬ pr k σ (pr k σ (t / 16) (t / 4 % 4)) (t % 4) = pr k σ (t / 16) (pr k σ (t / 4 % 4) (t % 4))) : cntA k σ (t + 1).toNat = cntA k σ t.toNat := by
  rw [nat_succ h0]
  show cntA k σ t.toNat + (if asc k σ (t.toNat : Int) = true then 1 else 0) = _
  rw [Int.toNat_of_nonneg h0, if_neg (asc_no h)]
  omega
theorem fstA_yes {k : Nat} {σ : Mm} {t : Int} (h0 : 0 ≤ t) (h : pr k σ (pr k σ (t / 16) (t / 4 % 4)) (t % 4) = pr k σ (t / 16) (pr k σ (t / 4 % 4) (t % 4))) : fstA k σ (t + 1).toNat = fstA k σ t.toNat := by
  rw [nat_succ h0]
  show (if fstA k σ t.toNat = -1 then (if asc k σ (t.toNat : Int) = true then -1 else (t.toNat : Int)) else fstA k σ t.toNat) = _
  rw [Int.toNat_of_nonneg h0, if_pos (asc_yes h)]
  split <;> omega
theorem fstA_new {k : Nat} {σ : Mm} {t : Int} (h0 : 0 ≤ t) (hf : fstA k σ t.toNat = -1) (h : ¬ pr k σ (pr k σ (t / 16) (t / 4 % 4)) (t % 4) = pr k σ (t / 16) (pr k σ (t / 4 % 4) (t % 4))) : fstA k σ (t + 1).toNat = t := by
  rw [nat_succ h0]
  show (if fstA k σ t.toNat = -1 then (if asc k σ (t.toNat : Int) = true then -1 else (t.toNat : Int)) else fstA k σ t.toNat) = _
  rw [Int.toNat_of_nonneg h0, if_pos hf, if_neg (asc_no h)]
theorem fstA_old {k : Nat} {σ : Mm} {t : Int} (h0 : 0 ≤ t) (hf : ¬ fstA k σ t.toNat = -1) : fstA k σ (t + 1).toNat = fstA k σ t.toNat := by
  rw [nat_succ h0]
  show (if fstA k σ t.toNat = -1 then (if asc k σ (t.toNat : Int) = true then -1 else (t.toNat : Int)) else fstA k σ t.toNat) = _
  rw [if_neg hf]
theorem fstA_stay {k : Nat} {σ : Mm} {n m : Nat} {x : Int} (h : fstA k σ n = x) (hx : x ≠ -1) (hm : n ≤ m) : fstA k σ m = x := by
  induction m with
  | zero => rw [show n = 0 from by omega] at h; exact h
  | succ m ih =>
    by_cases e : n = m + 1
    · rw [← e]; exact h
    · have q := ih (by omega)
      show (if fstA k σ m = -1 then _ else fstA k σ m) = x
      rw [if_neg (by omega)]
      exact q
theorem cnt_fst (k : Nat) (σ : Mm) (n : Nat) : cntA k σ n ≤ n ∧ (cntA k σ n = n ↔ fstA k σ n = -1) ∧ -1 ≤ fstA k σ n := by
  induction n with
  | zero => exact ⟨Int.le_refl _, by simp [cntA, fstA], by simp [fstA]⟩
  | succ n ih =>
    obtain ⟨h1, h2, h3⟩ := ih
    have e1 : cntA k σ (n + 1) = cntA k σ n + (if asc k σ (n : Int) = true then 1 else 0) := rfl
    have e2 : fstA k σ (n + 1) = (if fstA k σ n = -1 then (if asc k σ (n : Int) = true then -1 else (n : Int)) else fstA k σ n) := rfl
    rw [e1, e2]
    by_cases ha : asc k σ (n : Int) = true
    · rw [if_pos ha, if_pos ha]
      by_cases hf : fstA k σ n = -1
      · rw [if_pos hf]; have := h2.mpr hf; omega
      · rw [if_neg hf]; have : ¬ cntA k σ n = n := fun q => hf (h2.mp q); omega
    · rw [if_neg ha, if_neg ha]
      by_cases hf : fstA k σ n = -1
      · rw [if_pos hf]; have := h2.mpr hf; omega
      · rw [if_neg hf]; have : ¬ cntA k σ n = n := fun q => hf (h2.mp q); omega
def trpF (k : Nat) (σ : Mm) (w : Int) : Int := if w = 3 then cntA k σ (64 : Int).toNat else if fstA k σ (64 : Int).toNat < 0 ∨ ¬ (0 ≤ w ∧ w ≤ 2) then -1 else if w = 0 then fstA k σ (64 : Int).toNat / 16 else if w = 1 then fstA k σ (64 : Int).toNat / 4 % 4 else fstA k σ (64 : Int).toNat % 4
theorem cntA_eq {k k2 : Nat} {σ ρ : Mm} (h : ∀ j : Int, 0 ≤ j → j < 16 → σ k 0 j = ρ k2 0 j) (hb : ∀ j : Int, 0 ≤ j → j < 16 → 0 ≤ σ k 0 j ∧ σ k 0 j ≤ 3) (t : Int) (h0 : 0 ≤ t) (h1 : t < 64) : asc k σ t = asc k2 ρ t := by
  have e : ∀ x y : Int, 0 ≤ x ∧ x ≤ 3 → 0 ≤ y ∧ y ≤ 3 → pr k σ x y = pr k2 ρ x y ∧ 0 ≤ pr k σ x y ∧ pr k σ x y ≤ 3 := fun x y hx hy => ⟨h _ (by omega) (by omega), hb _ (by omega) (by omega)⟩
  have a := e (t / 16) (t / 4 % 4) (by omega) (by omega)
  have b := e (t / 4 % 4) (t % 4) (by omega) (by omega)
  have c := e (pr k σ (t / 16) (t / 4 % 4)) (t % 4) a.2 (by omega)
  have d := e (t / 16) (pr k σ (t / 4 % 4) (t % 4)) (by omega) b.2
  unfold asc
  rw [c.1, d.1, a.1, b.1]
theorem cnt_eq {k k2 : Nat} {σ ρ : Mm} (h : ∀ j : Int, 0 ≤ j → j < 16 → σ k 0 j = ρ k2 0 j) (hb : ∀ j : Int, 0 ≤ j → j < 16 → 0 ≤ σ k 0 j ∧ σ k 0 j ≤ 3) (n : Nat) (hn : n ≤ 64) : cntA k σ n = cntA k2 ρ n ∧ fstA k σ n = fstA k2 ρ n := by
  induction n with
  | zero => exact ⟨rfl, rfl⟩
  | succ n ih =>
    obtain ⟨i1, i2⟩ := ih (by omega)
    have e := cntA_eq h hb (n : Int) (by omega) (by omega)
    refine ⟨?_, ?_⟩
    · show cntA k σ n + (if asc k σ (n : Int) = true then 1 else 0) = cntA k2 ρ n + (if asc k2 ρ (n : Int) = true then 1 else 0)
      rw [i1, e]
    · show (if fstA k σ n = -1 then (if asc k σ (n : Int) = true then -1 else (n : Int)) else fstA k σ n) = (if fstA k2 ρ n = -1 then (if asc k2 ρ (n : Int) = true then -1 else (n : Int)) else fstA k2 ρ n)
      rw [i2, e]
theorem trp_eq {k k2 : Nat} {σ ρ : Mm} (h : ∀ j : Int, 0 ≤ j → j < 16 → σ k 0 j = ρ k2 0 j) (hb : ∀ j : Int, 0 ≤ j → j < 16 → 0 ≤ σ k 0 j ∧ σ k 0 j ≤ 3) (w : Int) : trpF k σ w = trpF k2 ρ w := by
  have e := cnt_eq h hb (64 : Int).toNat (by decide)
  unfold trpF
  rw [e.1, e.2]
theorem s_productX {e : Ev} {d : Nat} {P : Option Vl → Mm → Prop} {σ : Mm} {x y : Int} (b_x : 0 ≤ x ∧ x ≤ 3) (b_y : 0 ≤ y ∧ y ≤ 3)  (k : 0 ≤ pr 15 σ x y ∧ pr 15 σ x y ≤ 3 → P (some (vI (pr 15 σ x y))) σ) : WT e (d + 1) 51 [vR 2 0, vI x, vI y] σ P := by
  refine WT_in fun K hK => ?_
  have hK : StpY e cX5_product RX5 (some .int) (WT e (d + 0)) P K := hK
  have hM := hK.1
  have hC := hK.1.1
  show K 0 [some (vR 2 0), some (vI x), some (vI y)] [] σ
  refine r_aload_n hC dX5_product_0 rfl ?_
  refine z_getR hM dX5_product_1 fl_RX5_40 rfl rfl (vld_of (n := 1) rfl (by omega) (by omega)) ?_
  refine z_getR hM dX5_product_4 fl_RX5_67 rfl rfl (vld_of (n := 1) rfl (by omega) (by omega)) ?_
  refine r_iconst hC dX5_product_7 rfl ?_
  refine r_iload_n hC dX5_product_8 rfl ?_
  refine r_imulE hC ((4 * x)) dX5_product_9 (by omega) (by unfold inR; omega) ?_
  refine r_iload_n hC dX5_product_10 rfl ?_
  refine r_iaddE hC (((4 * x) + y)) dX5_product_11 (by omega) (by unfold inR; omega) ?_
  refine z_iald hM dX5_product_12 rfl (by omega) (by omega) (fun v1 h_v1 o_v1 t_v1 => ?_)
  have w_v1 := t_v1 (Or.inl trivial)
  subst w_v1
  have q_v1 : 0 ≤ (σ 15 0 ((4 * x) + y)) ∧ (σ 15 0 ((4 * x) + y)) ≤ 3 := o_v1
  refine y_iret hK rfl dX5_product_13 ?_
  exact k (by unfold pr; omega)
theorem m_productX {e : Ev} {d : Nat} {P : Option Vl → Mm → Prop} {σ : Mm} {x y : Int} (b_x : 0 ≤ x ∧ x ≤ 3) (b_y : 0 ≤ y ∧ y ≤ 3)  (k : 0 ≤ pr 35 σ x y ∧ pr 35 σ x y ≤ 3 → P (some (vI (pr 35 σ x y))) σ) : WT e (d + 1) 145 [vR 30 0, vI x, vI y] σ P := by
  refine WT_in fun K hK => ?_
  have hK : StpY e cX6_product RX6 (some .int) (WT e (d + 0)) P K := hK
  have hM := hK.1
  have hC := hK.1.1
  show K 0 [some (vR 30 0), some (vI x), some (vI y)] [] σ
  refine r_aload_n hC dX6_product_0 rfl ?_
  refine z_getR hM dX6_product_1 fl_RX6_22 rfl rfl (vld_of (n := 1) rfl (by omega) (by omega)) ?_
  refine r_iconst hC dX6_product_4 rfl ?_
  refine r_iload_n hC dX6_product_5 rfl ?_
  refine r_imulE hC ((4 * x)) dX6_product_6 (by omega) (by unfold inR; omega) ?_
  refine r_iload_n hC dX6_product_7 rfl ?_
  refine r_iaddE hC (((4 * x) + y)) dX6_product_8 (by omega) (by unfold inR; omega) ?_
  refine z_iald hM dX6_product_9 rfl (by omega) (by omega) (fun v1 h_v1 o_v1 t_v1 => ?_)
  have w_v1 := t_v1 (Or.inl trivial)
  subst w_v1
  have q_v1 : 0 ≤ (σ 35 0 ((4 * x) + y)) ∧ (σ 35 0 ((4 * x) + y)) ≤ 3 := o_v1
  refine y_iret hK rfl dX6_product_10 ?_
  exact k (by unfold pr; omega)
theorem s_associatesX {e : Ev} {d : Nat} {P : Option Vl → Mm → Prop} {σ : Mm} {x y z : Int} (b_x : 0 ≤ x ∧ x ≤ 3) (b_y : 0 ≤ y ∧ y ≤ 3) (b_z : 0 ≤ z ∧ z ≤ 3)  (k1 : (pr 15 σ (pr 15 σ x y) z = pr 15 σ x (pr 15 σ y z)) → P (some (vI 1)) σ) (k0 : ¬ (pr 15 σ (pr 15 σ x y) z = pr 15 σ x (pr 15 σ y z)) → P (some (vI 0)) σ) : WT e (d + 2) 52 [vR 2 0, vI x, vI y, vI z] σ P := by
  refine WT_in fun K hK => ?_
  have hK : StpY e cX5_associates RX5 (some .boolean) (WT e (d + 1)) P K := hK
  have hM := hK.1
  have hC := hK.1.1
  show K 0 [some (vR 2 0), some (vI x), some (vI y), some (vI z)] [] σ
  refine r_aload_n hC dX5_associates_0 rfl ?_
  refine r_aload_n hC dX5_associates_1 rfl ?_
  refine r_iload_n hC dX5_associates_2 rfl ?_
  refine r_iload_n hC dX5_associates_3 rfl ?_
  refine z_inv2 hM dX5_associates_4 vl_RX5_90 rfl rfl rfl (Nat.le_of_ble_eq_true rfl) (Nat.le_of_ble_eq_true rfl) ?_
  refine s_productX (by omega) (by omega) (fun h1 => ?_)
  refine r_iload_n hC dX5_associates_7 rfl ?_
  refine z_inv2 hM dX5_associates_8 vl_RX5_90 rfl rfl rfl (Nat.le_of_ble_eq_true rfl) (Nat.le_of_ble_eq_true rfl) ?_
  refine s_productX (by omega) (by omega) (fun h2 => ?_)
  refine r_aload_n hC dX5_associates_11 rfl ?_
  refine r_iload_n hC dX5_associates_12 rfl ?_
  refine r_aload_n hC dX5_associates_13 rfl ?_
  refine r_iload_n hC dX5_associates_14 rfl ?_
  refine r_iload_n hC dX5_associates_15 rfl ?_
  refine z_inv2 hM dX5_associates_16 vl_RX5_90 rfl rfl rfl (Nat.le_of_ble_eq_true rfl) (Nat.le_of_ble_eq_true rfl) ?_
  refine s_productX (by omega) (by omega) (fun h3 => ?_)
  refine z_inv2 hM dX5_associates_19 vl_RX5_90 rfl rfl rfl (Nat.le_of_ble_eq_true rfl) (Nat.le_of_ble_eq_true rfl) ?_
  refine s_productX (by omega) (by omega) (fun h4 => ?_)
  refine r_icmp_ne (tgt := 29) hC dX5_associates_22 rfl (fun h5 => ?_) (fun h5 => ?_)
  · refine r_iconst hC dX5_associates_29 rfl ?_
    refine y_zret hK rfl dX5_associates_30 (by omega) ?_
    exact k0 (by omega)
  · refine r_iconst hC dX5_associates_25 rfl ?_
    refine r_goto (tgt := 30) hC dX5_associates_26 rfl ?_
    refine y_zret hK rfl dX5_associates_30 (by omega) ?_
    exact k1 (by omega)
theorem m_associatesX {e : Ev} {d : Nat} {P : Option Vl → Mm → Prop} {σ : Mm} {t : Int} (b_t : 0 ≤ t ∧ t ≤ 63)  (k1 : (pr 35 σ (pr 35 σ (t / 16) (t / 4 % 4)) (t % 4) = pr 35 σ (t / 16) (pr 35 σ (t / 4 % 4) (t % 4))) → P (some (vI 1)) σ) (k0 : ¬ (pr 35 σ (pr 35 σ (t / 16) (t / 4 % 4)) (t % 4) = pr 35 σ (t / 16) (pr 35 σ (t / 4 % 4) (t % 4))) → P (some (vI 0)) σ) : WT e (d + 2) 146 [vR 30 0, vI t] σ P := by
  refine WT_in fun K hK => ?_
  have hK : StpY e cX6_associates RX6 (some .boolean) (WT e (d + 1)) P K := hK
  have hM := hK.1
  have hC := hK.1.1
  show K 0 [some (vR 30 0), some (vI t), none, none, none] [] σ
  refine r_iload_n hC dX6_associates_0 rfl ?_
  refine r_bipush hC dX6_associates_1 rfl ?_
  refine r_idivN hC dX6_associates_3 (by omega) (by omega) ?_
  refine r_istore_n hC dX6_associates_4 rfl ?_
  refine r_iload_n hC dX6_associates_5 rfl ?_
  refine r_iconst hC dX6_associates_6 rfl ?_
  refine r_idivN hC dX6_associates_7 (by omega) (by omega) ?_
  refine r_iconst hC dX6_associates_8 rfl ?_
  refine r_iremN hC dX6_associates_9 (by omega) (by omega) ?_
  refine r_istore_n hC dX6_associates_10 rfl ?_
  refine r_iload_n hC dX6_associates_11 rfl ?_
  refine r_iconst hC dX6_associates_12 rfl ?_
  refine r_iremN hC dX6_associates_13 (by omega) (by omega) ?_
  refine r_istore hC dX6_associates_14 rfl ?_
  show K _ [_, _, _, _, _] _ _
  refine r_aload_n hC dX6_associates_16 rfl ?_
  refine r_aload_n hC dX6_associates_17 rfl ?_
  refine r_iload_n hC dX6_associates_18 rfl ?_
  refine r_iload_n hC dX6_associates_19 rfl ?_
  refine z_inv2 hM dX6_associates_20 vl_RX6_88 rfl rfl rfl (Nat.le_of_ble_eq_true rfl) (Nat.le_of_ble_eq_true rfl) ?_
  refine m_productX (by omega) (by omega) (fun h1 => ?_)
  refine r_iload hC dX6_associates_23 rfl ?_
  refine z_inv2 hM dX6_associates_25 vl_RX6_88 rfl rfl rfl (Nat.le_of_ble_eq_true rfl) (Nat.le_of_ble_eq_true rfl) ?_
  refine m_productX (by omega) (by omega) (fun h2 => ?_)
  refine r_aload_n hC dX6_associates_28 rfl ?_
  refine r_iload_n hC dX6_associates_29 rfl ?_
  refine r_aload_n hC dX6_associates_30 rfl ?_
  refine r_iload_n hC dX6_associates_31 rfl ?_
  refine r_iload hC dX6_associates_32 rfl ?_
  refine z_inv2 hM dX6_associates_34 vl_RX6_88 rfl rfl rfl (Nat.le_of_ble_eq_true rfl) (Nat.le_of_ble_eq_true rfl) ?_
  refine m_productX (by omega) (by omega) (fun h3 => ?_)
  refine z_inv2 hM dX6_associates_37 vl_RX6_88 rfl rfl rfl (Nat.le_of_ble_eq_true rfl) (Nat.le_of_ble_eq_true rfl) ?_
  refine m_productX (by omega) (by omega) (fun h4 => ?_)
  refine r_icmp_ne (tgt := 47) hC dX6_associates_40 rfl (fun h5 => ?_) (fun h5 => ?_)
  · refine r_iconst hC dX6_associates_47 rfl ?_
    refine y_zret hK rfl dX6_associates_48 (by omega) ?_
    exact k0 (by omega)
  · refine r_iconst hC dX6_associates_43 rfl ?_
    refine r_goto (tgt := 48) hC dX6_associates_44 rfl ?_
    refine y_zret hK rfl dX6_associates_48 (by omega) ?_
    exact k1 (by omega)
theorem s_tripleX {e : Ev} {d : Nat} {P : Option Vl → Mm → Prop} {σ : Mm} {w : Int}   (k : P (some (vI (trpF 15 σ w))) σ) : WT e (d + 3) 49 [vR 2 0, vI w] σ P := by
  refine WT_in fun K hK => ?_
  have hK : StpY e cX5_triple RX5 (some .int) (WT e (d + 2)) P K := hK
  have hM := hK.1
  have hC := hK.1.1
  show K 0 [some (vR 2 0), some (vI w), none, none, none] [] σ
  refine r_rngz hC (fun g0 => ?_)
  have r_w : -2147483648 ≤ w ∧ w ≤ 2147483647 := inR_le (g0 (vI w) (by simp))
  refine r_iload_n hC dX5_triple_0 rfl ?_
  refine r_iconst hC dX5_triple_1 rfl ?_
  refine r_iconst hC dX5_triple_2 rfl ?_
  refine z_ins3 hM dX5_triple_3 tl_RX5_59 rfl (Nat.le_of_ble_eq_true rfl) (Nat.le_of_ble_eq_true rfl) ?_
  refine s_within (fun h2 => ?_) (fun h2 => ?_)
  · refine r_if_ne (tgt := 11) hC dX5_triple_6 rfl (fun h3 => ?_) (fun h3 => by omega)
    refine r_iconst hC dX5_triple_11 rfl ?_
    refine r_istore_n hC dX5_triple_12 rfl ?_
    refine r_iconst hC dX5_triple_13 rfl ?_
    refine r_istore_n hC dX5_triple_14 rfl ?_
    refine r_iconst hC dX5_triple_15 rfl ?_
    refine r_istore hC dX5_triple_16 rfl ?_
    have L18 : ∀ (n18 : Nat) (w4 w5 w6 : Int), 0 ≤ w4 ∧ w4 ≤ 64 → 0 ≤ w5 ∧ w5 ≤ 64 → -1 ≤ w6 ∧ w6 ≤ 63 → ((w4) = cntA 15 σ ((w5)).toNat) → ((w6) = fstA 15 σ ((w5)).toNat) → ((w4) ≤ (w5)) → 64 - w5 < (n18 : Int) → K 18 [some (vR 2 0), some (vI w), some (vI w6), some (vI w4), some (vI w5)] [] σ := by
      intro n18
      induction n18 with
      | zero => intro w4 w5 w6  f_w4 f_w5 f_w6 i0_18 i1_18 i2_18 hm ; omega
      | succ n18 ih18 =>
        intro w4 w5 w6  f_w4 f_w5 f_w6 i0_18 i1_18 i2_18 hm18 
        refine r_iload hC dX5_triple_18 rfl ?_
        refine r_bipush hC dX5_triple_20 rfl ?_
        refine r_icmp_ge (tgt := 67) hC dX5_triple_22 rfl (fun h7 => ?_) (fun h7 => ?_)
        · refine r_iload_n hC dX5_triple_67 rfl ?_
          refine r_iconst hC dX5_triple_68 rfl ?_
          refine r_icmp_ne (tgt := 74) hC dX5_triple_69 rfl (fun h8 => ?_) (fun h8 => ?_)
          · refine r_iload_n hC dX5_triple_74 rfl ?_
            refine r_iconst hC dX5_triple_75 rfl ?_
            refine r_icmp_ne (tgt := 81) hC dX5_triple_76 rfl (fun h9 => ?_) (fun h9 => ?_)
            · refine r_iload_n hC dX5_triple_81 rfl ?_
              refine r_if_ne (tgt := 92) hC dX5_triple_82 rfl (fun h10 => ?_) (fun h10 => ?_)
              · refine r_iload_n hC dX5_triple_92 rfl ?_
                refine r_iconst hC dX5_triple_93 rfl ?_
                refine r_icmp_ne (tgt := 105) hC dX5_triple_94 rfl (fun h11 => ?_) (fun h11 => ?_)
                · refine r_iload_n hC dX5_triple_105 rfl ?_
                  refine r_iconst hC dX5_triple_106 rfl ?_
                  refine r_iremN hC dX5_triple_107 (by omega) (by omega) ?_
                  refine y_iret hK rfl dX5_triple_108 ?_
                  obtain rfl : w5 = 64 := by omega
                  have e : trpF 15 σ w = (w6 % 4) := by unfold trpF; (repeat' split) <;> omega
                  rw [e] at k
                  exact k
                · refine r_iload_n hC dX5_triple_97 rfl ?_
                  refine r_iconst hC dX5_triple_98 rfl ?_
                  refine r_idivN hC dX5_triple_99 (by omega) (by omega) ?_
                  refine r_iconst hC dX5_triple_100 rfl ?_
                  refine r_iremN hC dX5_triple_101 (by omega) (by omega) ?_
                  refine r_goto (tgt := 108) hC dX5_triple_102 rfl ?_
                  refine y_iret hK rfl dX5_triple_108 ?_
                  obtain rfl : w5 = 64 := by omega
                  have e : trpF 15 σ w = ((w6 / 4) % 4) := by unfold trpF; (repeat' split) <;> omega
                  rw [e] at k
                  exact k
              · refine r_iload_n hC dX5_triple_85 rfl ?_
                refine r_bipush hC dX5_triple_86 rfl ?_
                refine r_idivN hC dX5_triple_88 (by omega) (by omega) ?_
                refine r_goto (tgt := 108) hC dX5_triple_89 rfl ?_
                refine y_iret hK rfl dX5_triple_108 ?_
                obtain rfl : w5 = 64 := by omega
                have e : trpF 15 σ w = (w6 / 16) := by unfold trpF; (repeat' split) <;> omega
                rw [e] at k
                exact k
            · refine r_iconst hC dX5_triple_79 rfl ?_
              refine y_iret hK rfl dX5_triple_80 ?_
              obtain rfl : w5 = 64 := by omega
              have e : trpF 15 σ w = (-1) := by unfold trpF; (repeat' split) <;> omega
              rw [e] at k
              exact k
          · refine r_iload_n hC dX5_triple_72 rfl ?_
            refine y_iret hK rfl dX5_triple_73 ?_
            obtain rfl : w5 = 64 := by omega
            have e : trpF 15 σ w = w4 := by unfold trpF; (repeat' split) <;> omega
            rw [e] at k
            exact k
        · refine r_aload_n hC dX5_triple_25 rfl ?_
          refine r_iload hC dX5_triple_26 rfl ?_
          refine r_bipush hC dX5_triple_28 rfl ?_
          refine r_idivN hC dX5_triple_30 (by omega) (by omega) ?_
          refine r_iload hC dX5_triple_31 rfl ?_
          refine r_iconst hC dX5_triple_33 rfl ?_
          refine r_idivN hC dX5_triple_34 (by omega) (by omega) ?_
          refine r_iconst hC dX5_triple_35 rfl ?_
          refine r_iremN hC dX5_triple_36 (by omega) (by omega) ?_
          refine r_iload hC dX5_triple_37 rfl ?_
          refine r_iconst hC dX5_triple_39 rfl ?_
          refine r_iremN hC dX5_triple_40 (by omega) (by omega) ?_
          refine z_inv3 hM dX5_triple_41 vl_RX5_74 rfl rfl rfl (Nat.le_of_ble_eq_true rfl) (Nat.le_of_ble_eq_true rfl) ?_
          refine s_associatesX (by omega) (by omega) (by omega) (fun h12 => ?_) (fun h12 => ?_)
          · refine r_if_eq (tgt := 53) hC dX5_triple_44 rfl (fun h13 => by omega) (fun h13 => ?_)
            refine r_iincE hC ((w4 + 1)) dX5_triple_47 rfl rfl (by omega) (by unfold inR; omega) ?_
            refine r_goto (tgt := 61) hC dX5_triple_50 rfl ?_
            refine r_iincE hC ((w5 + 1)) dX5_triple_61 rfl rfl (by omega) (by unfold inR; omega) ?_
            refine r_goto (tgt := 18) hC dX5_triple_64 rfl ?_
            exact ih18 ((w4 + 1)) ((w5 + 1)) (w6)  (by omega) (by omega) (by omega) (by first | rfl | (rw [cntA_yes (by omega) (by assumption)]; omega) | (rw [cntA_no (by omega) (by assumption)]; omega)) (by first | rfl | (rw [fstA_yes (by omega) (by assumption)]; omega) | (rw [fstA_new (by omega) (by omega) (by assumption)]) | (rw [fstA_old (by omega) (by omega)]; omega)) (by omega) (by omega) 
          · refine r_if_eq (tgt := 53) hC dX5_triple_44 rfl (fun h14 => ?_) (fun h14 => by omega)
            refine r_iload_n hC dX5_triple_53 rfl ?_
            refine r_iconst hC dX5_triple_54 rfl ?_
            refine r_icmp_ne (tgt := 61) hC dX5_triple_55 rfl (fun h15 => ?_) (fun h15 => ?_)
            · refine r_iincE hC ((w5 + 1)) dX5_triple_61 rfl rfl (by omega) (by unfold inR; omega) ?_
              refine r_goto (tgt := 18) hC dX5_triple_64 rfl ?_
              exact ih18 (w4) ((w5 + 1)) (w6)  (by omega) (by omega) (by omega) (by first | rfl | (rw [cntA_yes (by omega) (by assumption)]; omega) | (rw [cntA_no (by omega) (by assumption)]; omega)) (by first | rfl | (rw [fstA_yes (by omega) (by assumption)]; omega) | (rw [fstA_new (by omega) (by omega) (by assumption)]) | (rw [fstA_old (by omega) (by omega)]; omega)) (by omega) (by omega) 
            · refine r_iload hC dX5_triple_58 rfl ?_
              refine r_istore_n hC dX5_triple_60 rfl ?_
              refine r_iincE hC ((w5 + 1)) dX5_triple_61 rfl rfl (by omega) (by unfold inR; omega) ?_
              refine r_goto (tgt := 18) hC dX5_triple_64 rfl ?_
              exact ih18 (w4) ((w5 + 1)) (w5)  (by omega) (by omega) (by omega) (by first | rfl | (rw [cntA_yes (by omega) (by assumption)]; omega) | (rw [cntA_no (by omega) (by assumption)]; omega)) (by first | rfl | (rw [fstA_yes (by omega) (by assumption)]; omega) | (rw [fstA_new (by omega) (by omega) (by assumption)]) | (rw [fstA_old (by omega) (by omega)]; omega)) (by omega) (by omega) 
    exact L18 66 (0) (0) ((-1))  (by omega) (by omega) (by omega) (by first | rfl | (rw [cntA_yes (by omega) (by assumption)]; omega) | (rw [cntA_no (by omega) (by assumption)]; omega)) (by first | rfl | (rw [fstA_yes (by omega) (by assumption)]; omega) | (rw [fstA_new (by omega) (by omega) (by assumption)]) | (rw [fstA_old (by omega) (by omega)]; omega)) (by omega) (by omega) 
  · refine r_if_ne (tgt := 11) hC dX5_triple_6 rfl (fun h16 => by omega) (fun h16 => ?_)
    refine r_iconst hC dX5_triple_9 rfl ?_
    refine y_iret hK rfl dX5_triple_10 ?_
    have e : trpF 15 σ w = (-1) := by unfold trpF; (repeat' split) <;> omega
    rw [e] at k
    exact k
theorem m_firstThreeX {e : Ev} {d : Nat} {P : Option Vl → Mm → Prop} {σ : Mm}   (k : P (some (vI (fstA 35 σ (64 : Int).toNat))) σ) : WT e (d + 3) 147 [vR 30 0] σ P := by
  refine WT_in fun K hK => ?_
  have hK : StpY e cX6_firstThree RX6 (some .int) (WT e (d + 2)) P K := hK
  have hM := hK.1
  have hC := hK.1.1
  show K 0 [some (vR 30 0), none] [] σ
  refine r_iconst hC dX6_firstThree_0 rfl ?_
  refine r_istore_n hC dX6_firstThree_1 rfl ?_
  have L2 : ∀ (n2 : Nat) (w1 : Int), 0 ≤ w1 ∧ w1 ≤ 64 → (-1 = fstA 35 σ ((w1)).toNat) → 64 - w1 < (n2 : Int) → K 2 [some (vR 30 0), some (vI w1)] [] σ := by
    intro n2
    induction n2 with
    | zero => intro w1  f_w1 i0_2 hm ; omega
    | succ n2 ih2 =>
      intro w1  f_w1 i0_2 hm2 
      refine r_iload_n hC dX6_firstThree_2 rfl ?_
      refine r_bipush hC dX6_firstThree_3 rfl ?_
      refine r_icmp_ge (tgt := 24) hC dX6_firstThree_5 rfl (fun h2 => ?_) (fun h2 => ?_)
      · refine r_iconst hC dX6_firstThree_24 rfl ?_
        refine y_iret hK rfl dX6_firstThree_25 ?_
        obtain rfl : w1 = 64 := by omega
        rw [← i0_2] at k
        exact k
      · refine r_aload_n hC dX6_firstThree_8 rfl ?_
        refine r_iload_n hC dX6_firstThree_9 rfl ?_
        refine z_inv1 hM dX6_firstThree_10 vl_RX6_91 rfl rfl rfl (Nat.le_of_ble_eq_true rfl) (Nat.le_of_ble_eq_true rfl) ?_
        refine m_associatesX (by omega) (fun h3 => ?_) (fun h3 => ?_)
        · refine r_if_ne (tgt := 18) hC dX6_firstThree_13 rfl (fun h4 => ?_) (fun h4 => by omega)
          refine r_iincE hC ((w1 + 1)) dX6_firstThree_18 rfl rfl (by omega) (by unfold inR; omega) ?_
          refine r_goto (tgt := 2) hC dX6_firstThree_21 rfl ?_
          exact ih2 ((w1 + 1))  (by omega) (by first | rfl | (rw [fstA_yes (by omega) (by assumption)]; omega) | (rw [fstA_new (by omega) (by omega) (by assumption)]) | (rw [fstA_old (by omega) (by omega)]; omega)) (by omega) 
        · refine r_if_ne (tgt := 18) hC dX6_firstThree_13 rfl (fun h5 => by omega) (fun h5 => ?_)
          refine r_iload_n hC dX6_firstThree_16 rfl ?_
          refine y_iret hK rfl dX6_firstThree_17 ?_
          have e := fstA_stay (m := (64 : Int).toNat) (fstA_new (k := 35) (σ := σ) (t := w1) (by omega) (by omega) (by assumption)) (by omega) (by omega)
          rw [e] at k
          exact k
  exact L2 66 (0)  (by omega) (by first | rfl | (rw [fstA_yes (by omega) (by assumption)]; omega) | (rw [fstA_new (by omega) (by omega) (by assumption)]) | (rw [fstA_old (by omega) (by omega)]; omega)) (by omega) 
theorem m_countX {e : Ev} {d : Nat} {P : Option Vl → Mm → Prop} {σ : Mm}   (k : P (some (vI (cntA 35 σ (64 : Int).toNat))) σ) : WT e (d + 3) 149 [vR 30 0] σ P := by
  refine WT_in fun K hK => ?_
  have hK : StpY e cX6_countAssociating RX6 (some .int) (WT e (d + 2)) P K := hK
  have hM := hK.1
  have hC := hK.1.1
  show K 0 [some (vR 30 0), none, none] [] σ
  refine r_iconst hC dX6_countAssociating_0 rfl ?_
  refine r_istore_n hC dX6_countAssociating_1 rfl ?_
  refine r_iconst hC dX6_countAssociating_2 rfl ?_
  refine r_istore_n hC dX6_countAssociating_3 rfl ?_
  have L4 : ∀ (n4 : Nat) (w1 w2 : Int), 0 ≤ w1 ∧ w1 ≤ 64 → 0 ≤ w2 ∧ w2 ≤ 64 → ((w1) = cntA 35 σ ((w2)).toNat) → ((w1) ≤ (w2)) → 64 - w2 < (n4 : Int) → K 4 [some (vR 30 0), some (vI w1), some (vI w2)] [] σ := by
    intro n4
    induction n4 with
    | zero => intro w1 w2  f_w1 f_w2 i0_4 i1_4 hm ; omega
    | succ n4 ih4 =>
      intro w1 w2  f_w1 f_w2 i0_4 i1_4 hm4 
      refine r_iload_n hC dX6_countAssociating_4 rfl ?_
      refine r_bipush hC dX6_countAssociating_5 rfl ?_
      refine r_icmp_ge (tgt := 32) hC dX6_countAssociating_7 rfl (fun h3 => ?_) (fun h3 => ?_)
      · refine r_iload_n hC dX6_countAssociating_32 rfl ?_
        refine y_iret hK rfl dX6_countAssociating_33 ?_
        obtain rfl : w2 = 64 := by omega
        rw [← i0_4] at k
        exact k
      · refine r_iload_n hC dX6_countAssociating_10 rfl ?_
        refine r_aload_n hC dX6_countAssociating_11 rfl ?_
        refine r_iload_n hC dX6_countAssociating_12 rfl ?_
        refine z_inv1 hM dX6_countAssociating_13 vl_RX6_91 rfl rfl rfl (Nat.le_of_ble_eq_true rfl) (Nat.le_of_ble_eq_true rfl) ?_
        refine m_associatesX (by omega) (fun h4 => ?_) (fun h4 => ?_)
        · refine r_if_eq (tgt := 23) hC dX6_countAssociating_16 rfl (fun h5 => by omega) (fun h5 => ?_)
          refine r_iconst hC dX6_countAssociating_19 rfl ?_
          refine r_goto (tgt := 24) hC dX6_countAssociating_20 rfl ?_
          refine r_iaddE hC ((w1 + 1)) dX6_countAssociating_24 (by omega) (by unfold inR; omega) ?_
          refine r_istore_n hC dX6_countAssociating_25 rfl ?_
          refine r_iincE hC ((w2 + 1)) dX6_countAssociating_26 rfl rfl (by omega) (by unfold inR; omega) ?_
          refine r_goto (tgt := 4) hC dX6_countAssociating_29 rfl ?_
          exact ih4 ((w1 + 1)) ((w2 + 1))  (by omega) (by omega) (by first | rfl | (rw [cntA_yes (by omega) (by assumption)]; omega) | (rw [cntA_no (by omega) (by assumption)]; omega)) (by omega) (by omega) 
        · refine r_if_eq (tgt := 23) hC dX6_countAssociating_16 rfl (fun h6 => ?_) (fun h6 => by omega)
          refine r_iconst hC dX6_countAssociating_23 rfl ?_
          refine r_iaddE hC (w1) dX6_countAssociating_24 (by omega) (by unfold inR; omega) ?_
          refine r_istore_n hC dX6_countAssociating_25 rfl ?_
          refine r_iincE hC ((w2 + 1)) dX6_countAssociating_26 rfl rfl (by omega) (by unfold inR; omega) ?_
          refine r_goto (tgt := 4) hC dX6_countAssociating_29 rfl ?_
          exact ih4 (w1) ((w2 + 1))  (by omega) (by omega) (by first | rfl | (rw [cntA_yes (by omega) (by assumption)]; omega) | (rw [cntA_no (by omega) (by assumption)]; omega)) (by omega) (by omega) 
  exact L4 66 (0) (0)  (by omega) (by omega) (by first | rfl | (rw [cntA_yes (by omega) (by assumption)]; omega) | (rw [cntA_no (by omega) (by assumption)]; omega)) (by omega) (by omega) 
theorem fst_bd (k : Nat) (σ : Mm) : -1 ≤ fstA k σ (64 : Int).toNat ∧ fstA k σ (64 : Int).toNat ≤ 63 := by
  have h : ∀ n : Nat, -1 ≤ fstA k σ n ∧ (fstA k σ n < n ∨ fstA k σ n = -1) := by
    intro n
    induction n with
    | zero => exact ⟨by simp [fstA], Or.inr rfl⟩
    | succ n ih =>
      show -1 ≤ (if fstA k σ n = -1 then (if asc k σ (n : Int) = true then -1 else (n : Int)) else fstA k σ n) ∧ _
      have e : fstA k σ (n + 1) = (if fstA k σ n = -1 then (if asc k σ (n : Int) = true then -1 else (n : Int)) else fstA k σ n) := rfl
      rw [e]
      split
      · split <;> omega
      · omega
  have := h (64 : Int).toNat
  have e : ((64 : Int).toNat : Int) = 64 := by decide
  omega
theorem m_tripleX {e : Ev} {d : Nat} {P : Option Vl → Mm → Prop} {σ : Mm} {w : Int}   (k : P (some (vI (trpF 35 σ w))) σ) : WT e (d + 4) 148 [vR 30 0, vI w] σ P := by
  refine WT_in fun K hK => ?_
  have hK : StpY e cX6_triple RX6 (some .int) (WT e (d + 3)) P K := hK
  have hM := hK.1
  have hC := hK.1.1
  show K 0 [some (vR 30 0), some (vI w), none] [] σ
  refine r_rngz hC (fun g0 => ?_)
  have r_w : -2147483648 ≤ w ∧ w ≤ 2147483647 := inR_le (g0 (vI w) (by simp))
  refine r_iload_n hC dX6_triple_0 rfl ?_
  refine r_iconst hC dX6_triple_1 rfl ?_
  refine r_icmp_ne (tgt := 10) hC dX6_triple_2 rfl (fun h1 => ?_) (fun h1 => ?_)
  · refine r_aload_n hC dX6_triple_10 rfl ?_
    refine z_inv0 hM dX6_triple_11 vl_RX6_98 rfl rfl rfl (Nat.le_of_ble_eq_true rfl) (Nat.le_of_ble_eq_true rfl) ?_
    refine m_firstThreeX ?_
    have bf := fst_bd 35 σ
    refine r_istore_n hC dX6_triple_14 rfl ?_
    refine r_iload_n hC dX6_triple_15 rfl ?_
    refine r_if_lt (tgt := 28) hC dX6_triple_16 rfl (fun h2 => ?_) (fun h2 => ?_)
    · refine r_iconst hC dX6_triple_28 rfl ?_
      refine y_iret hK rfl dX6_triple_29 ?_
      have e : trpF 35 σ w = (-1) := by unfold trpF; (repeat' split) <;> omega
      rw [e] at k
      exact k
    · refine r_iload_n hC dX6_triple_19 rfl ?_
      refine r_iconst hC dX6_triple_20 rfl ?_
      refine r_iconst hC dX6_triple_21 rfl ?_
      refine z_ins3 hM dX6_triple_22 tl_RX6_76 rfl (Nat.le_of_ble_eq_true rfl) (Nat.le_of_ble_eq_true rfl) ?_
      refine m_isIn (fun h4 => ?_) (fun h4 => ?_)
      · refine r_if_ne (tgt := 30) hC dX6_triple_25 rfl (fun h5 => ?_) (fun h5 => by omega)
        refine r_iload_n hC dX6_triple_30 rfl ?_
        refine r_if_ne (tgt := 41) hC dX6_triple_31 rfl (fun h6 => ?_) (fun h6 => ?_)
        · refine r_iload_n hC dX6_triple_41 rfl ?_
          refine r_iconst hC dX6_triple_42 rfl ?_
          refine r_icmp_ne (tgt := 54) hC dX6_triple_43 rfl (fun h7 => ?_) (fun h7 => ?_)
          · refine r_iload_n hC dX6_triple_54 rfl ?_
            refine r_iconst hC dX6_triple_55 rfl ?_
            refine r_iremN hC dX6_triple_56 (by omega) (by omega) ?_
            refine y_iret hK rfl dX6_triple_57 ?_
            have e : trpF 35 σ w = ((fstA 35 σ (64 : Int).toNat) % 4) := by unfold trpF; (repeat' split) <;> omega
            rw [e] at k
            exact k
          · refine r_iload_n hC dX6_triple_46 rfl ?_
            refine r_iconst hC dX6_triple_47 rfl ?_
            refine r_idivN hC dX6_triple_48 (by omega) (by omega) ?_
            refine r_iconst hC dX6_triple_49 rfl ?_
            refine r_iremN hC dX6_triple_50 (by omega) (by omega) ?_
            refine r_goto (tgt := 57) hC dX6_triple_51 rfl ?_
            refine y_iret hK rfl dX6_triple_57 ?_
            have e : trpF 35 σ w = (((fstA 35 σ (64 : Int).toNat) / 4) % 4) := by unfold trpF; (repeat' split) <;> omega
            rw [e] at k
            exact k
        · refine r_iload_n hC dX6_triple_34 rfl ?_
          refine r_bipush hC dX6_triple_35 rfl ?_
          refine r_idivN hC dX6_triple_37 (by omega) (by omega) ?_
          refine r_goto (tgt := 57) hC dX6_triple_38 rfl ?_
          refine y_iret hK rfl dX6_triple_57 ?_
          have e : trpF 35 σ w = ((fstA 35 σ (64 : Int).toNat) / 16) := by unfold trpF; (repeat' split) <;> omega
          rw [e] at k
          exact k
      · refine r_if_ne (tgt := 30) hC dX6_triple_25 rfl (fun h8 => by omega) (fun h8 => ?_)
        refine r_iconst hC dX6_triple_28 rfl ?_
        refine y_iret hK rfl dX6_triple_29 ?_
        have e : trpF 35 σ w = (-1) := by unfold trpF; (repeat' split) <;> omega
        rw [e] at k
        exact k
  · refine r_aload_n hC dX6_triple_5 rfl ?_
    refine z_inv0 hM dX6_triple_6 vl_RX6_94 rfl rfl rfl (Nat.le_of_ble_eq_true rfl) (Nat.le_of_ble_eq_true rfl) ?_
    refine m_countX ?_
    refine y_iret hK rfl dX6_triple_9 ?_
    have e : trpF 35 σ w = (cntA 35 σ (64 : Int).toNat) := by unfold trpF; (repeat' split) <;> omega
    rw [e] at k
    exact k
-- element, told whole
def cB (p : Int → Bool) : Nat → Int
  | 0 => 0
  | n + 1 => cB p n + (if p (n : Int) = true then 1 else 0)
def fB (p : Int → Bool) : Nat → Int
  | 0 => -1
  | n + 1 => if fB p n = -1 then (if p (n : Int) = true then (n : Int) else -1) else fB p n
theorem cB_y {p : Int → Bool} {t : Int} (h0 : 0 ≤ t) (h : p t = true) : cB p (t + 1).toNat = cB p t.toNat + 1 := by
  rw [nat_succ h0]
  show cB p t.toNat + (if p (t.toNat : Int) = true then 1 else 0) = _
  rw [Int.toNat_of_nonneg h0, if_pos h]
theorem cB_n {p : Int → Bool} {t : Int} (h0 : 0 ≤ t) (h : ¬ p t = true) : cB p (t + 1).toNat = cB p t.toNat := by
  rw [nat_succ h0]
  show cB p t.toNat + (if p (t.toNat : Int) = true then 1 else 0) = _
  rw [Int.toNat_of_nonneg h0, if_neg h]
  omega
theorem cB_at {p : Int → Bool} {k t : Int} (h : k = cB p t.toNat) (ht : t = 4) : k = cB p (4 : Int).toNat := by
  subst ht; exact h
theorem fB_n {p : Int → Bool} {t : Int} (h0 : 0 ≤ t) (h : ¬ p t = true) : fB p (t + 1).toNat = fB p t.toNat := by
  rw [nat_succ h0]
  show (if fB p t.toNat = -1 then (if p (t.toNat : Int) = true then (t.toNat : Int) else -1) else fB p t.toNat) = _
  rw [Int.toNat_of_nonneg h0, if_neg h]
  split <;> omega
theorem fB_new {p : Int → Bool} {t : Int} (h0 : 0 ≤ t) (hf : fB p t.toNat = -1) (h : p t = true) : fB p (t + 1).toNat = t := by
  rw [nat_succ h0]
  show (if fB p t.toNat = -1 then (if p (t.toNat : Int) = true then (t.toNat : Int) else -1) else fB p t.toNat) = _
  rw [Int.toNat_of_nonneg h0, if_pos hf, if_pos h]
theorem fB_stay {p : Int → Bool} {n m : Nat} {x : Int} (h : fB p n = x) (hx : x ≠ -1) (hm : n ≤ m) : fB p m = x := by
  induction m with
  | zero => rw [show n = 0 from by omega] at h; exact h
  | succ m ih =>
    by_cases e : n = m + 1
    · rw [← e]; exact h
    · have q := ih (by omega)
      show (if fB p m = -1 then _ else fB p m) = x
      rw [if_neg (by omega)]
      exact q
theorem cB_all {p : Int → Bool} : ∀ n : Nat, cB p n ≤ n ∧ (cB p n = n → ∀ j : Int, 0 ≤ j → j < n → p j = true)
  | 0 => ⟨Int.le_refl _, fun _ j h0 h1 => by omega⟩
  | n + 1 => by
    obtain ⟨h1, h2⟩ := cB_all (p := p) n
    have e : cB p (n + 1) = cB p n + (if p (n : Int) = true then 1 else 0) := rfl
    by_cases hp : p (n : Int) = true
    · rw [e, if_pos hp]
      refine ⟨by omega, fun h j g0 g1 => ?_⟩
      by_cases hj : j = n
      · rw [hj]; exact hp
      · exact h2 (by omega) j g0 (by omega)
    · rw [e, if_neg hp]
      exact ⟨by omega, fun h => by omega⟩
def its (w e x : Int) : Int := if w = 0 then x else e
def pb (k : Nat) (σ : Mm) (w e x : Int) : Bool := pr k σ e x == its w e x && pr k σ x e == its w e x
def qq (k : Nat) (σ : Mm) (w e : Int) : Bool := decide (cB (pb k σ w e) (4 : Int).toNat = 4)
theorem pb_y {k : Nat} {σ : Mm} {w e x i : Int} (hi : its w e x = i) (h1 : pr k σ e x = i) (h2 : pr k σ x e = i) : pb k σ w e x = true := by
  unfold pb; rw [hi, h1, h2]; simp
theorem pb_n1 {k : Nat} {σ : Mm} {w e x i : Int} (hi : its w e x = i) (h1 : ¬ pr k σ e x = i) : ¬ pb k σ w e x = true := by
  unfold pb; rw [hi]; intro q; simp at q; exact h1 q.1
theorem pb_n2 {k : Nat} {σ : Mm} {w e x i : Int} (hi : its w e x = i) (h1 : ¬ pr k σ x e = i) : ¬ pb k σ w e x = true := by
  unfold pb; rw [hi]; intro q; simp at q; exact h1 q.2
theorem qq_y {k : Nat} {σ : Mm} {w e c : Int} (h : c = cB (pb k σ w e) (4 : Int).toNat) (hc : c = 4) : qq k σ w e = true := by
  unfold qq; rw [← h]; exact decide_eq_true hc
theorem qq_n {k : Nat} {σ : Mm} {w e c : Int} (h : c = cB (pb k σ w e) (4 : Int).toNat) (hc : ¬ c = 4) : ¬ qq k σ w e = true := by
  unfold qq; rw [← h]; intro q; exact hc (of_decide_eq_true q)
theorem qq_no {k : Nat} {σ : Mm} {w e x : Int} (h0 : 0 ≤ x) (h1 : x < 4) (h : ¬ pb k σ w e x = true) : ¬ qq k σ w e = true := by
  unfold qq
  intro q
  have e4 : ((4 : Int).toNat : Int) = 4 := by decide
  exact h ((cB_all (p := pb k σ w e) (4 : Int).toNat).2 ((of_decide_eq_true q).trans (by decide)) x h0 (by omega))
def ip (k : Nat) (σ : Mm) (x : Int) : Bool := pr k σ x x == x
theorem ip_y {k : Nat} {σ : Mm} {x : Int} (h : pr k σ x x = x) : ip k σ x = true := by unfold ip; rw [h]; exact beq_self_eq_true _
theorem ip_n {k : Nat} {σ : Mm} {x : Int} (h : ¬ pr k σ x x = x) : ¬ ip k σ x = true := by unfold ip; intro q; exact h (eq_of_beq q)
def cq (k : Nat) (σ : Mm) (v : Int) : Bool := pr k σ (v / 4) (v % 4) == pr k σ (v % 4) (v / 4)
theorem cq_y {k : Nat} {σ : Mm} {v : Int} (h : pr k σ (v / 4) (v % 4) = pr k σ (v % 4) (v / 4)) : cq k σ v = true := by unfold cq; rw [h]; exact beq_self_eq_true _
theorem cq_n {k : Nat} {σ : Mm} {v : Int} (h : ¬ pr k σ (v / 4) (v % 4) = pr k σ (v % 4) (v / 4)) : ¬ cq k σ v = true := by unfold cq; intro q; exact h (eq_of_beq q)
theorem cq_y2 {k : Nat} {σ : Mm} {x y : Int} (h0 : 0 ≤ y ∧ y < 4) (h : pr k σ x y = pr k σ y x) : cq k σ (4 * x + y) = true := cq_y (by rw [show (4 * x + y) / 4 = x from by omega, show (4 * x + y) % 4 = y from by omega]; exact h)
theorem cq_n2 {k : Nat} {σ : Mm} {x y : Int} (h0 : 0 ≤ y ∧ y < 4) (h : ¬ pr k σ x y = pr k σ y x) : ¬ cq k σ (4 * x + y) = true := cq_n (by rw [show (4 * x + y) / 4 = x from by omega, show (4 * x + y) % 4 = y from by omega]; exact h)
def elF (k : Nat) (σ : Mm) (w : Int) : Int := if w = 0 then fB (qq k σ 0) (4 : Int).toNat else if w = 1 then fB (qq k σ 1) (4 : Int).toNat else if w = 2 then cB (ip k σ) (4 : Int).toNat else if w = 3 then cB (cq k σ) (16 : Int).toNat else -1
theorem cB_eq {p q : Int → Bool} : ∀ n : Nat, (∀ j : Int, 0 ≤ j → j < n → p j = q j) → cB p n = cB q n
  | 0, _ => rfl
  | n + 1, h => by
    show cB p n + (if p (n : Int) = true then 1 else 0) = cB q n + (if q (n : Int) = true then 1 else 0)
    rw [cB_eq n fun j h0 h1 => h j h0 (by omega), h n (by omega) (by omega)]
theorem fB_eq {p q : Int → Bool} : ∀ n : Nat, (∀ j : Int, 0 ≤ j → j < n → p j = q j) → fB p n = fB q n
  | 0, _ => rfl
  | n + 1, h => by
    show (if fB p n = -1 then (if p (n : Int) = true then (n : Int) else -1) else fB p n) = (if fB q n = -1 then (if q (n : Int) = true then (n : Int) else -1) else fB q n)
    rw [fB_eq n fun j h0 h1 => h j h0 (by omega), h n (by omega) (by omega)]
theorem s_firstNeutralX {e : Ev} {d : Nat} {P : Option Vl → Mm → Prop} {σ : Mm}   (k : P (some (vI (fB (qq 15 σ 0) (4 : Int).toNat))) σ) : WT e (d + 2) 53 [vR 2 0] σ P := by
  refine WT_in fun K hK => ?_
  have hK : StpY e cX5_firstNeutral RX5 (some .int) (WT e (d + 1)) P K := hK
  have hM := hK.1
  have hC := hK.1.1
  show K 0 [some (vR 2 0), none, none, none] [] σ
  refine r_iconst hC dX5_firstNeutral_0 rfl ?_
  refine r_istore_n hC dX5_firstNeutral_1 rfl ?_
  have L2 : ∀ (n2 : Nat) (w1 : Int), 0 ≤ w1 ∧ w1 ≤ 4 → (-1 = fB (qq 15 σ 0) ((w1)).toNat) → 4 - w1 < (n2 : Int) → K 2 [some (vR 2 0), some (vI w1), none, none] [] σ := by
    intro n2
    induction n2 with
    | zero => intro w1  f_w1 i0_2 hm  ; omega
    | succ n2 ih2 =>
      intro w1  f_w1 i0_2 hm2  
      refine r_iload_n hC dX5_firstNeutral_2 rfl ?_
      refine r_iconst hC dX5_firstNeutral_3 rfl ?_
      refine r_icmp_ge (tgt := 63) hC dX5_firstNeutral_4 rfl (fun h2 => ?_) (fun h2 => ?_)
      · refine r_iconst hC dX5_firstNeutral_63 rfl ?_
        refine y_iret hK rfl dX5_firstNeutral_64 ?_
        obtain rfl : w1 = 4 := by omega
        rw [← i0_2] at k
        exact k
      · refine r_iconst hC dX5_firstNeutral_7 rfl ?_
        refine r_istore_n hC dX5_firstNeutral_8 rfl ?_
        refine r_iconst hC dX5_firstNeutral_9 rfl ?_
        refine r_istore_n hC dX5_firstNeutral_10 rfl ?_
        have L11 : ∀ (n11 : Nat) (w3 w4 : Int), 0 ≤ w3 ∧ w3 ≤ 4 → 0 ≤ w4 ∧ w4 ≤ 4 → ((w4) = cB (pb 15 σ 0 (w1)) ((w3)).toNat) → ((w4) ≤ (w3)) → 4 - w3 < (n11 : Int) → K 11 [some (vR 2 0), some (vI w1), some (vI w4), some (vI w3)] [] σ := by
          intro n11
          induction n11 with
          | zero => intro w3 w4  f_w3 f_w4 i0_11 i1_11 hm  ; omega
          | succ n11 ih11 =>
            intro w3 w4  f_w3 f_w4 i0_11 i1_11 hm11  
            refine r_iload_n hC dX5_firstNeutral_11 rfl ?_
            refine r_iconst hC dX5_firstNeutral_12 rfl ?_
            refine r_icmp_ge (tgt := 50) hC dX5_firstNeutral_13 rfl (fun h5 => ?_) (fun h5 => ?_)
            · refine r_iload_n hC dX5_firstNeutral_50 rfl ?_
              refine r_iconst hC dX5_firstNeutral_51 rfl ?_
              refine r_icmp_ne (tgt := 57) hC dX5_firstNeutral_52 rfl (fun h6 => ?_) (fun h6 => ?_)
              · refine r_iincE hC ((w1 + 1)) dX5_firstNeutral_57 rfl rfl (by omega) (by unfold inR; omega) ?_
                refine r_goto (tgt := 2) hC dX5_firstNeutral_60 rfl ?_
                refine r_forget hC (ls2 := [some (vR 2 0), some (vI (w1 + 1)), none, none]) (lsub_some (lsub_some (lsub_none (lsub_none lsub_nil)))) ?_
                exact ih2 ((w1 + 1))  (by omega) (by first | rfl | (rw [fB_n (by omega) (qq_n (cB_at i0_11 (by omega)) (by omega))]; exact i0_2)) (by omega)  
              · refine r_iload_n hC dX5_firstNeutral_55 rfl ?_
                refine y_iret hK rfl dX5_firstNeutral_56 ?_
                have e := fB_stay (m := (4 : Int).toNat) (fB_new (by omega) i0_2.symm (qq_y (cB_at i0_11 (by omega)) (by omega))) (by omega) (by omega)
                rw [e] at k
                exact k
            · refine r_iload_n hC dX5_firstNeutral_16 rfl ?_
              refine r_aload_n hC dX5_firstNeutral_17 rfl ?_
              refine r_iload_n hC dX5_firstNeutral_18 rfl ?_
              refine r_iload_n hC dX5_firstNeutral_19 rfl ?_
              refine z_inv2 hM dX5_firstNeutral_20 vl_RX5_90 rfl rfl rfl (Nat.le_of_ble_eq_true rfl) (Nat.le_of_ble_eq_true rfl) ?_
              refine s_productX (by omega) (by omega) (fun h7 => ?_)
              refine r_iload_n hC dX5_firstNeutral_23 rfl ?_
              refine r_icmp_ne (tgt := 41) hC dX5_firstNeutral_24 rfl (fun h8 => ?_) (fun h8 => ?_)
              · refine r_iconst hC dX5_firstNeutral_41 rfl ?_
                refine r_iaddE hC (w4) dX5_firstNeutral_42 (by omega) (by unfold inR; omega) ?_
                refine r_istore_n hC dX5_firstNeutral_43 rfl ?_
                refine r_iincE hC ((w3 + 1)) dX5_firstNeutral_44 rfl rfl (by omega) (by unfold inR; omega) ?_
                refine r_goto (tgt := 11) hC dX5_firstNeutral_47 rfl ?_
                exact ih11 ((w3 + 1)) (w4)  (by omega) (by omega) (by first | rfl | (rw [cB_y (by omega) (pb_y (i := w3) rfl (by assumption) (by assumption))]; omega) | (rw [cB_n (by omega) (pb_n1 (i := w3) rfl (by assumption))]; omega) | (rw [cB_n (by omega) (pb_n2 (i := w3) rfl (by assumption))]; omega)) (by omega) (by omega)  
              · refine r_aload_n hC dX5_firstNeutral_27 rfl ?_
                refine r_iload_n hC dX5_firstNeutral_28 rfl ?_
                refine r_iload_n hC dX5_firstNeutral_29 rfl ?_
                refine z_inv2 hM dX5_firstNeutral_30 vl_RX5_90 rfl rfl rfl (Nat.le_of_ble_eq_true rfl) (Nat.le_of_ble_eq_true rfl) ?_
                refine s_productX (by omega) (by omega) (fun h9 => ?_)
                refine r_iload_n hC dX5_firstNeutral_33 rfl ?_
                refine r_icmp_ne (tgt := 41) hC dX5_firstNeutral_34 rfl (fun h10 => ?_) (fun h10 => ?_)
                · refine r_iconst hC dX5_firstNeutral_41 rfl ?_
                  refine r_iaddE hC (w4) dX5_firstNeutral_42 (by omega) (by unfold inR; omega) ?_
                  refine r_istore_n hC dX5_firstNeutral_43 rfl ?_
                  refine r_iincE hC ((w3 + 1)) dX5_firstNeutral_44 rfl rfl (by omega) (by unfold inR; omega) ?_
                  refine r_goto (tgt := 11) hC dX5_firstNeutral_47 rfl ?_
                  exact ih11 ((w3 + 1)) (w4)  (by omega) (by omega) (by first | rfl | (rw [cB_y (by omega) (pb_y (i := w3) rfl (by assumption) (by assumption))]; omega) | (rw [cB_n (by omega) (pb_n1 (i := w3) rfl (by assumption))]; omega) | (rw [cB_n (by omega) (pb_n2 (i := w3) rfl (by assumption))]; omega)) (by omega) (by omega)  
                · refine r_iconst hC dX5_firstNeutral_37 rfl ?_
                  refine r_goto (tgt := 42) hC dX5_firstNeutral_38 rfl ?_
                  refine r_iaddE hC ((w4 + 1)) dX5_firstNeutral_42 (by omega) (by unfold inR; omega) ?_
                  refine r_istore_n hC dX5_firstNeutral_43 rfl ?_
                  refine r_iincE hC ((w3 + 1)) dX5_firstNeutral_44 rfl rfl (by omega) (by unfold inR; omega) ?_
                  refine r_goto (tgt := 11) hC dX5_firstNeutral_47 rfl ?_
                  exact ih11 ((w3 + 1)) ((w4 + 1))  (by omega) (by omega) (by first | rfl | (rw [cB_y (by omega) (pb_y (i := w3) rfl (by assumption) (by assumption))]; omega) | (rw [cB_n (by omega) (pb_n1 (i := w3) rfl (by assumption))]; omega) | (rw [cB_n (by omega) (pb_n2 (i := w3) rfl (by assumption))]; omega)) (by omega) (by omega)  
        exact L11 6 (0) (0)  (by omega) (by omega) (by first | rfl | (rw [cB_y (by omega) (pb_y (i := w3) rfl (by assumption) (by assumption))]; omega) | (rw [cB_n (by omega) (pb_n1 (i := w3) rfl (by assumption))]; omega) | (rw [cB_n (by omega) (pb_n2 (i := w3) rfl (by assumption))]; omega)) (by omega) (by omega)  
  exact L2 6 (0)  (by omega) (by first | rfl | (rw [fB_n (by omega) (qq_n (cB_at i0_11 (by omega)) (by omega))]; exact i0_2)) (by omega)  
theorem s_firstAbsorbingX {e : Ev} {d : Nat} {P : Option Vl → Mm → Prop} {σ : Mm}   (k : P (some (vI (fB (qq 15 σ 1) (4 : Int).toNat))) σ) : WT e (d + 2) 54 [vR 2 0] σ P := by
  refine WT_in fun K hK => ?_
  have hK : StpY e cX5_firstAbsorbing RX5 (some .int) (WT e (d + 1)) P K := hK
  have hM := hK.1
  have hC := hK.1.1
  show K 0 [some (vR 2 0), none, none, none] [] σ
  refine r_iconst hC dX5_firstAbsorbing_0 rfl ?_
  refine r_istore_n hC dX5_firstAbsorbing_1 rfl ?_
  have L2 : ∀ (n2 : Nat) (w1 : Int), 0 ≤ w1 ∧ w1 ≤ 4 → (-1 = fB (qq 15 σ 1) ((w1)).toNat) → 4 - w1 < (n2 : Int) → K 2 [some (vR 2 0), some (vI w1), none, none] [] σ := by
    intro n2
    induction n2 with
    | zero => intro w1  f_w1 i0_2 hm  ; omega
    | succ n2 ih2 =>
      intro w1  f_w1 i0_2 hm2  
      refine r_iload_n hC dX5_firstAbsorbing_2 rfl ?_
      refine r_iconst hC dX5_firstAbsorbing_3 rfl ?_
      refine r_icmp_ge (tgt := 63) hC dX5_firstAbsorbing_4 rfl (fun h2 => ?_) (fun h2 => ?_)
      · refine r_iconst hC dX5_firstAbsorbing_63 rfl ?_
        refine y_iret hK rfl dX5_firstAbsorbing_64 ?_
        obtain rfl : w1 = 4 := by omega
        rw [← i0_2] at k
        exact k
      · refine r_iconst hC dX5_firstAbsorbing_7 rfl ?_
        refine r_istore_n hC dX5_firstAbsorbing_8 rfl ?_
        refine r_iconst hC dX5_firstAbsorbing_9 rfl ?_
        refine r_istore_n hC dX5_firstAbsorbing_10 rfl ?_
        have L11 : ∀ (n11 : Nat) (w3 w4 : Int), 0 ≤ w3 ∧ w3 ≤ 4 → 0 ≤ w4 ∧ w4 ≤ 4 → ((w4) = cB (pb 15 σ 1 (w1)) ((w3)).toNat) → ((w4) ≤ (w3)) → 4 - w3 < (n11 : Int) → K 11 [some (vR 2 0), some (vI w1), some (vI w4), some (vI w3)] [] σ := by
          intro n11
          induction n11 with
          | zero => intro w3 w4  f_w3 f_w4 i0_11 i1_11 hm  ; omega
          | succ n11 ih11 =>
            intro w3 w4  f_w3 f_w4 i0_11 i1_11 hm11  
            refine r_iload_n hC dX5_firstAbsorbing_11 rfl ?_
            refine r_iconst hC dX5_firstAbsorbing_12 rfl ?_
            refine r_icmp_ge (tgt := 50) hC dX5_firstAbsorbing_13 rfl (fun h5 => ?_) (fun h5 => ?_)
            · refine r_iload_n hC dX5_firstAbsorbing_50 rfl ?_
              refine r_iconst hC dX5_firstAbsorbing_51 rfl ?_
              refine r_icmp_ne (tgt := 57) hC dX5_firstAbsorbing_52 rfl (fun h6 => ?_) (fun h6 => ?_)
              · refine r_iincE hC ((w1 + 1)) dX5_firstAbsorbing_57 rfl rfl (by omega) (by unfold inR; omega) ?_
                refine r_goto (tgt := 2) hC dX5_firstAbsorbing_60 rfl ?_
                refine r_forget hC (ls2 := [some (vR 2 0), some (vI (w1 + 1)), none, none]) (lsub_some (lsub_some (lsub_none (lsub_none lsub_nil)))) ?_
                exact ih2 ((w1 + 1))  (by omega) (by first | rfl | (rw [fB_n (by omega) (qq_n (cB_at i0_11 (by omega)) (by omega))]; exact i0_2)) (by omega)  
              · refine r_iload_n hC dX5_firstAbsorbing_55 rfl ?_
                refine y_iret hK rfl dX5_firstAbsorbing_56 ?_
                have e := fB_stay (m := (4 : Int).toNat) (fB_new (by omega) i0_2.symm (qq_y (cB_at i0_11 (by omega)) (by omega))) (by omega) (by omega)
                rw [e] at k
                exact k
            · refine r_iload_n hC dX5_firstAbsorbing_16 rfl ?_
              refine r_aload_n hC dX5_firstAbsorbing_17 rfl ?_
              refine r_iload_n hC dX5_firstAbsorbing_18 rfl ?_
              refine r_iload_n hC dX5_firstAbsorbing_19 rfl ?_
              refine z_inv2 hM dX5_firstAbsorbing_20 vl_RX5_90 rfl rfl rfl (Nat.le_of_ble_eq_true rfl) (Nat.le_of_ble_eq_true rfl) ?_
              refine s_productX (by omega) (by omega) (fun h7 => ?_)
              refine r_iload_n hC dX5_firstAbsorbing_23 rfl ?_
              refine r_icmp_ne (tgt := 41) hC dX5_firstAbsorbing_24 rfl (fun h8 => ?_) (fun h8 => ?_)
              · refine r_iconst hC dX5_firstAbsorbing_41 rfl ?_
                refine r_iaddE hC (w4) dX5_firstAbsorbing_42 (by omega) (by unfold inR; omega) ?_
                refine r_istore_n hC dX5_firstAbsorbing_43 rfl ?_
                refine r_iincE hC ((w3 + 1)) dX5_firstAbsorbing_44 rfl rfl (by omega) (by unfold inR; omega) ?_
                refine r_goto (tgt := 11) hC dX5_firstAbsorbing_47 rfl ?_
                exact ih11 ((w3 + 1)) (w4)  (by omega) (by omega) (by first | rfl | (rw [cB_y (by omega) (pb_y (i := w1) rfl (by assumption) (by assumption))]; omega) | (rw [cB_n (by omega) (pb_n1 (i := w1) rfl (by assumption))]; omega) | (rw [cB_n (by omega) (pb_n2 (i := w1) rfl (by assumption))]; omega)) (by omega) (by omega)  
              · refine r_aload_n hC dX5_firstAbsorbing_27 rfl ?_
                refine r_iload_n hC dX5_firstAbsorbing_28 rfl ?_
                refine r_iload_n hC dX5_firstAbsorbing_29 rfl ?_
                refine z_inv2 hM dX5_firstAbsorbing_30 vl_RX5_90 rfl rfl rfl (Nat.le_of_ble_eq_true rfl) (Nat.le_of_ble_eq_true rfl) ?_
                refine s_productX (by omega) (by omega) (fun h9 => ?_)
                refine r_iload_n hC dX5_firstAbsorbing_33 rfl ?_
                refine r_icmp_ne (tgt := 41) hC dX5_firstAbsorbing_34 rfl (fun h10 => ?_) (fun h10 => ?_)
                · refine r_iconst hC dX5_firstAbsorbing_41 rfl ?_
                  refine r_iaddE hC (w4) dX5_firstAbsorbing_42 (by omega) (by unfold inR; omega) ?_
                  refine r_istore_n hC dX5_firstAbsorbing_43 rfl ?_
                  refine r_iincE hC ((w3 + 1)) dX5_firstAbsorbing_44 rfl rfl (by omega) (by unfold inR; omega) ?_
                  refine r_goto (tgt := 11) hC dX5_firstAbsorbing_47 rfl ?_
                  exact ih11 ((w3 + 1)) (w4)  (by omega) (by omega) (by first | rfl | (rw [cB_y (by omega) (pb_y (i := w1) rfl (by assumption) (by assumption))]; omega) | (rw [cB_n (by omega) (pb_n1 (i := w1) rfl (by assumption))]; omega) | (rw [cB_n (by omega) (pb_n2 (i := w1) rfl (by assumption))]; omega)) (by omega) (by omega)  
                · refine r_iconst hC dX5_firstAbsorbing_37 rfl ?_
                  refine r_goto (tgt := 42) hC dX5_firstAbsorbing_38 rfl ?_
                  refine r_iaddE hC ((w4 + 1)) dX5_firstAbsorbing_42 (by omega) (by unfold inR; omega) ?_
                  refine r_istore_n hC dX5_firstAbsorbing_43 rfl ?_
                  refine r_iincE hC ((w3 + 1)) dX5_firstAbsorbing_44 rfl rfl (by omega) (by unfold inR; omega) ?_
                  refine r_goto (tgt := 11) hC dX5_firstAbsorbing_47 rfl ?_
                  exact ih11 ((w3 + 1)) ((w4 + 1))  (by omega) (by omega) (by first | rfl | (rw [cB_y (by omega) (pb_y (i := w1) rfl (by assumption) (by assumption))]; omega) | (rw [cB_n (by omega) (pb_n1 (i := w1) rfl (by assumption))]; omega) | (rw [cB_n (by omega) (pb_n2 (i := w1) rfl (by assumption))]; omega)) (by omega) (by omega)  
        exact L11 6 (0) (0)  (by omega) (by omega) (by first | rfl | (rw [cB_y (by omega) (pb_y (i := w1) rfl (by assumption) (by assumption))]; omega) | (rw [cB_n (by omega) (pb_n1 (i := w1) rfl (by assumption))]; omega) | (rw [cB_n (by omega) (pb_n2 (i := w1) rfl (by assumption))]; omega)) (by omega) (by omega)  
  exact L2 6 (0)  (by omega) (by first | rfl | (rw [fB_n (by omega) (qq_n (cB_at i0_11 (by omega)) (by omega))]; exact i0_2)) (by omega)  
theorem s_idempotentsX {e : Ev} {d : Nat} {P : Option Vl → Mm → Prop} {σ : Mm}   (k : P (some (vI (cB (ip 15 σ) (4 : Int).toNat))) σ) : WT e (d + 2) 55 [vR 2 0] σ P := by
  refine WT_in fun K hK => ?_
  have hK : StpY e cX5_idempotents RX5 (some .int) (WT e (d + 1)) P K := hK
  have hM := hK.1
  have hC := hK.1.1
  show K 0 [some (vR 2 0), none, none] [] σ
  refine r_iconst hC dX5_idempotents_0 rfl ?_
  refine r_istore_n hC dX5_idempotents_1 rfl ?_
  refine r_iconst hC dX5_idempotents_2 rfl ?_
  refine r_istore_n hC dX5_idempotents_3 rfl ?_
  have L4 : ∀ (n4 : Nat) (w1 w2 : Int), 0 ≤ w1 ∧ w1 ≤ 4 → 0 ≤ w2 ∧ w2 ≤ 4 → ((w2) = cB (ip 15 σ) ((w1)).toNat) → ((w2) ≤ (w1)) → 4 - w1 < (n4 : Int) → K 4 [some (vR 2 0), some (vI w2), some (vI w1)] [] σ := by
    intro n4
    induction n4 with
    | zero => intro w1 w2  f_w1 f_w2 i0_4 i1_4 hm  ; omega
    | succ n4 ih4 =>
      intro w1 w2  f_w1 f_w2 i0_4 i1_4 hm4  
      refine r_iload_n hC dX5_idempotents_4 rfl ?_
      refine r_iconst hC dX5_idempotents_5 rfl ?_
      refine r_icmp_ge (tgt := 33) hC dX5_idempotents_6 rfl (fun h3 => ?_) (fun h3 => ?_)
      · refine r_iload_n hC dX5_idempotents_33 rfl ?_
        refine y_iret hK rfl dX5_idempotents_34 ?_
        obtain rfl : w1 = 4 := by omega
        rw [← i0_4] at k
        exact k
      · refine r_iload_n hC dX5_idempotents_9 rfl ?_
        refine r_aload_n hC dX5_idempotents_10 rfl ?_
        refine r_iload_n hC dX5_idempotents_11 rfl ?_
        refine r_iload_n hC dX5_idempotents_12 rfl ?_
        refine z_inv2 hM dX5_idempotents_13 vl_RX5_90 rfl rfl rfl (Nat.le_of_ble_eq_true rfl) (Nat.le_of_ble_eq_true rfl) ?_
        refine s_productX (by omega) (by omega) (fun h4 => ?_)
        refine r_iload_n hC dX5_idempotents_16 rfl ?_
        refine r_icmp_ne (tgt := 24) hC dX5_idempotents_17 rfl (fun h5 => ?_) (fun h5 => ?_)
        · refine r_iconst hC dX5_idempotents_24 rfl ?_
          refine r_iaddE hC (w2) dX5_idempotents_25 (by omega) (by unfold inR; omega) ?_
          refine r_istore_n hC dX5_idempotents_26 rfl ?_
          refine r_iincE hC ((w1 + 1)) dX5_idempotents_27 rfl rfl (by omega) (by unfold inR; omega) ?_
          refine r_goto (tgt := 4) hC dX5_idempotents_30 rfl ?_
          exact ih4 ((w1 + 1)) (w2)  (by omega) (by omega) (by first | rfl | (rw [cB_y (by omega) (ip_y (by assumption))]; omega) | (rw [cB_n (by omega) (ip_n (by assumption))]; omega)) (by omega) (by omega)  
        · refine r_iconst hC dX5_idempotents_20 rfl ?_
          refine r_goto (tgt := 25) hC dX5_idempotents_21 rfl ?_
          refine r_iaddE hC ((w2 + 1)) dX5_idempotents_25 (by omega) (by unfold inR; omega) ?_
          refine r_istore_n hC dX5_idempotents_26 rfl ?_
          refine r_iincE hC ((w1 + 1)) dX5_idempotents_27 rfl rfl (by omega) (by unfold inR; omega) ?_
          refine r_goto (tgt := 4) hC dX5_idempotents_30 rfl ?_
          exact ih4 ((w1 + 1)) ((w2 + 1))  (by omega) (by omega) (by first | rfl | (rw [cB_y (by omega) (ip_y (by assumption))]; omega) | (rw [cB_n (by omega) (ip_n (by assumption))]; omega)) (by omega) (by omega)  
  exact L4 6 (0) (0)  (by omega) (by omega) (by first | rfl | (rw [cB_y (by omega) (ip_y (by assumption))]; omega) | (rw [cB_n (by omega) (ip_n (by assumption))]; omega)) (by omega) (by omega)  
theorem s_commutingX {e : Ev} {d : Nat} {P : Option Vl → Mm → Prop} {σ : Mm}   (k : P (some (vI (cB (cq 15 σ) (16 : Int).toNat))) σ) : WT e (d + 2) 56 [vR 2 0] σ P := by
  refine WT_in fun K hK => ?_
  have hK : StpY e cX5_commutingPairs RX5 (some .int) (WT e (d + 1)) P K := hK
  have hM := hK.1
  have hC := hK.1.1
  show K 0 [some (vR 2 0), none, none, none] [] σ
  refine r_iconst hC dX5_commutingPairs_0 rfl ?_
  refine r_istore_n hC dX5_commutingPairs_1 rfl ?_
  refine r_iconst hC dX5_commutingPairs_2 rfl ?_
  refine r_istore_n hC dX5_commutingPairs_3 rfl ?_
  have L4 : ∀ (n4 : Nat) (w1 w2 : Int), 0 ≤ w1 ∧ w1 ≤ 16 → 0 ≤ w2 ∧ w2 ≤ 4 → ((w1) = cB (cq 15 σ) (4 * (w2)).toNat) → ((w1) ≤ 4 * (w2)) → 4 - w2 < (n4 : Int) → K 4 [some (vR 2 0), some (vI w1), some (vI w2), none] [] σ := by
    intro n4
    induction n4 with
    | zero => intro w1 w2  f_w1 f_w2 i0_4 i1_4 hm  ; omega
    | succ n4 ih4 =>
      intro w1 w2  f_w1 f_w2 i0_4 i1_4 hm4  
      refine r_iload_n hC dX5_commutingPairs_4 rfl ?_
      refine r_iconst hC dX5_commutingPairs_5 rfl ?_
      refine r_icmp_ge (tgt := 51) hC dX5_commutingPairs_6 rfl (fun h3 => ?_) (fun h3 => ?_)
      · refine r_iload_n hC dX5_commutingPairs_51 rfl ?_
        refine y_iret hK rfl dX5_commutingPairs_52 ?_
        obtain rfl : w2 = 4 := by omega
        rw [show (4 * (4 : Int)) = 16 from rfl] at i0_4
        rw [← i0_4] at k
        exact k
      · refine r_iconst hC dX5_commutingPairs_9 rfl ?_
        refine r_istore_n hC dX5_commutingPairs_10 rfl ?_
        have L11 : ∀ (n11 : Nat) (w4 w5 : Int), 0 ≤ w4 ∧ w4 ≤ 4 → 0 ≤ w5 ∧ w5 ≤ 16 → ((w5) = cB (cq 15 σ) (4 * (w2) + (w4)).toNat) → ((w5) ≤ 4 * (w2) + (w4)) → 4 - w4 < (n11 : Int) → K 11 [some (vR 2 0), some (vI w5), some (vI w2), some (vI w4)] [] σ := by
          intro n11
          induction n11 with
          | zero => intro w4 w5  f_w4 f_w5 i0_11 i1_11 hm  ; omega
          | succ n11 ih11 =>
            intro w4 w5  f_w4 f_w5 i0_11 i1_11 hm11  
            refine r_iload_n hC dX5_commutingPairs_11 rfl ?_
            refine r_iconst hC dX5_commutingPairs_12 rfl ?_
            refine r_icmp_ge (tgt := 45) hC dX5_commutingPairs_13 rfl (fun h6 => ?_) (fun h6 => ?_)
            · refine r_iincE hC ((w2 + 1)) dX5_commutingPairs_45 rfl rfl (by omega) (by unfold inR; omega) ?_
              refine r_goto (tgt := 4) hC dX5_commutingPairs_48 rfl ?_
              refine r_forget hC (ls2 := [some (vR 2 0), some (vI w5), some (vI (w2 + 1)), none]) (lsub_some (lsub_some (lsub_some (lsub_none lsub_nil)))) ?_
              exact ih4 (w5) ((w2 + 1))  (by omega) (by omega) (by first | rfl | exact i0_11.trans (congrArg (fun z : Int => cB (cq 15 σ) z.toNat) (by omega))) (by omega) (by omega)  
            · refine r_iload_n hC dX5_commutingPairs_16 rfl ?_
              refine r_aload_n hC dX5_commutingPairs_17 rfl ?_
              refine r_iload_n hC dX5_commutingPairs_18 rfl ?_
              refine r_iload_n hC dX5_commutingPairs_19 rfl ?_
              refine z_inv2 hM dX5_commutingPairs_20 vl_RX5_90 rfl rfl rfl (Nat.le_of_ble_eq_true rfl) (Nat.le_of_ble_eq_true rfl) ?_
              refine s_productX (by omega) (by omega) (fun h7 => ?_)
              refine r_aload_n hC dX5_commutingPairs_23 rfl ?_
              refine r_iload_n hC dX5_commutingPairs_24 rfl ?_
              refine r_iload_n hC dX5_commutingPairs_25 rfl ?_
              refine z_inv2 hM dX5_commutingPairs_26 vl_RX5_90 rfl rfl rfl (Nat.le_of_ble_eq_true rfl) (Nat.le_of_ble_eq_true rfl) ?_
              refine s_productX (by omega) (by omega) (fun h8 => ?_)
              refine r_icmp_ne (tgt := 36) hC dX5_commutingPairs_29 rfl (fun h9 => ?_) (fun h9 => ?_)
              · refine r_iconst hC dX5_commutingPairs_36 rfl ?_
                refine r_iaddE hC (w5) dX5_commutingPairs_37 (by omega) (by unfold inR; omega) ?_
                refine r_istore_n hC dX5_commutingPairs_38 rfl ?_
                refine r_iincE hC ((w4 + 1)) dX5_commutingPairs_39 rfl rfl (by omega) (by unfold inR; omega) ?_
                refine r_goto (tgt := 11) hC dX5_commutingPairs_42 rfl ?_
                exact ih11 ((w4 + 1)) (w5)  (by omega) (by omega) (by first | (rw [Int.add_zero]; exact i0_4) | (rw [show 4 * w2 + (w4 + 1) = 4 * w2 + w4 + 1 from by omega, cB_y (by omega) (cq_y2 (by omega) (by assumption))]; omega) | (rw [show 4 * w2 + (w4 + 1) = 4 * w2 + w4 + 1 from by omega, cB_n (by omega) (cq_n2 (by omega) (by assumption))]; omega)) (by omega) (by omega)  
              · refine r_iconst hC dX5_commutingPairs_32 rfl ?_
                refine r_goto (tgt := 37) hC dX5_commutingPairs_33 rfl ?_
                refine r_iaddE hC ((w5 + 1)) dX5_commutingPairs_37 (by omega) (by unfold inR; omega) ?_
                refine r_istore_n hC dX5_commutingPairs_38 rfl ?_
                refine r_iincE hC ((w4 + 1)) dX5_commutingPairs_39 rfl rfl (by omega) (by unfold inR; omega) ?_
                refine r_goto (tgt := 11) hC dX5_commutingPairs_42 rfl ?_
                exact ih11 ((w4 + 1)) ((w5 + 1))  (by omega) (by omega) (by first | (rw [Int.add_zero]; exact i0_4) | (rw [show 4 * w2 + (w4 + 1) = 4 * w2 + w4 + 1 from by omega, cB_y (by omega) (cq_y2 (by omega) (by assumption))]; omega) | (rw [show 4 * w2 + (w4 + 1) = 4 * w2 + w4 + 1 from by omega, cB_n (by omega) (cq_n2 (by omega) (by assumption))]; omega)) (by omega) (by omega)  
        exact L11 6 (0) (w1)  (by omega) (by omega) (by first | (rw [Int.add_zero]; exact i0_4) | (rw [show 4 * w2 + (w4 + 1) = 4 * w2 + w4 + 1 from by omega, cB_y (by omega) (cq_y2 (by omega) (by assumption))]; omega) | (rw [show 4 * w2 + (w4 + 1) = 4 * w2 + w4 + 1 from by omega, cB_n (by omega) (cq_n2 (by omega) (by assumption))]; omega)) (by omega) (by omega)  
  exact L4 6 (0) (0)  (by omega) (by omega) (by first | rfl | exact i0_11.trans (congrArg (fun z : Int => cB (cq 15 σ) z.toNat) (by omega))) (by omega) (by omega)  
theorem s_elementX {e : Ev} {d : Nat} {P : Option Vl → Mm → Prop} {σ : Mm} {w : Int}   (k : P (some (vI (elF 15 σ w))) σ) : WT e (d + 3) 50 [vR 2 0, vI w] σ P := by
  refine WT_in fun K hK => ?_
  have hK : StpY e cX5_element RX5 (some .int) (WT e (d + 2)) P K := hK
  have hM := hK.1
  have hC := hK.1.1
  show K 0 [some (vR 2 0), some (vI w)] [] σ
  refine r_rngz hC (fun g0 => ?_)
  have r_w : -2147483648 ≤ w ∧ w ≤ 2147483647 := inR_le (g0 (vI w) (by simp))
  refine r_iload_n hC dX5_element_0 rfl ?_
  rcases (by omega : (w < 0 ∨ 3 < w) ∨ w = 0 ∨ w = 1 ∨ w = 2 ∨ w = 3) with h1 | h1 | h1 | h1 | h1
  · refine r_tableOut (tgt := 52) hC dX5_element_1 h1 rfl ?_
    refine r_iconst hC dX5_element_52 rfl ?_
    refine y_iret hK rfl dX5_element_53 ?_
    have e : elF 15 σ w = (-1) := by unfold elF; (repeat' split) <;> first | rfl | omega
    rw [e] at k
    exact k
  · refine r_tableIn (tgt := 32) (off := 31) hC dX5_element_1 (by omega) (by omega) (by rw [h1]; rfl) rfl ?_
    refine r_aload_n hC dX5_element_32 rfl ?_
    refine z_inv0 hM dX5_element_33 vl_RX5_77 rfl rfl rfl (Nat.le_of_ble_eq_true rfl) (Nat.le_of_ble_eq_true rfl) ?_
    refine s_firstNeutralX ?_
    refine y_iret hK rfl dX5_element_36 ?_
    have e : elF 15 σ w = (fB (qq 15 σ 0) (4 : Int).toNat) := by unfold elF; (repeat' split) <;> first | rfl | omega
    rw [e] at k
    exact k
  · refine r_tableIn (tgt := 37) (off := 36) hC dX5_element_1 (by omega) (by omega) (by rw [h1]; rfl) rfl ?_
    refine r_aload_n hC dX5_element_37 rfl ?_
    refine z_inv0 hM dX5_element_38 vl_RX5_81 rfl rfl rfl (Nat.le_of_ble_eq_true rfl) (Nat.le_of_ble_eq_true rfl) ?_
    refine s_firstAbsorbingX ?_
    refine y_iret hK rfl dX5_element_41 ?_
    have e : elF 15 σ w = (fB (qq 15 σ 1) (4 : Int).toNat) := by unfold elF; (repeat' split) <;> first | rfl | omega
    rw [e] at k
    exact k
  · refine r_tableIn (tgt := 42) (off := 41) hC dX5_element_1 (by omega) (by omega) (by rw [h1]; rfl) rfl ?_
    refine r_aload_n hC dX5_element_42 rfl ?_
    refine z_inv0 hM dX5_element_43 vl_RX5_84 rfl rfl rfl (Nat.le_of_ble_eq_true rfl) (Nat.le_of_ble_eq_true rfl) ?_
    refine s_idempotentsX ?_
    refine y_iret hK rfl dX5_element_46 ?_
    have e : elF 15 σ w = (cB (ip 15 σ) (4 : Int).toNat) := by unfold elF; (repeat' split) <;> first | rfl | omega
    rw [e] at k
    exact k
  · refine r_tableIn (tgt := 47) (off := 46) hC dX5_element_1 (by omega) (by omega) (by rw [h1]; rfl) rfl ?_
    refine r_aload_n hC dX5_element_47 rfl ?_
    refine z_inv0 hM dX5_element_48 vl_RX5_87 rfl rfl rfl (Nat.le_of_ble_eq_true rfl) (Nat.le_of_ble_eq_true rfl) ?_
    refine s_commutingX ?_
    refine y_iret hK rfl dX5_element_51 ?_
    have e : elF 15 σ w = (cB (cq 15 σ) (16 : Int).toNat) := by unfold elF; (repeat' split) <;> first | rfl | omega
    rw [e] at k
    exact k
theorem m_isSuchX {e : Ev} {d : Nat} {P : Option Vl → Mm → Prop} {σ : Mm} {e_ w : Int} (b_e_ : 0 ≤ e_ ∧ e_ ≤ 3) (b_w : 0 ≤ w ∧ w ≤ 1)  (k1 : qq 35 σ w e_ = true → P (some (vI 1)) σ) (k0 : ¬ qq 35 σ w e_ = true → P (some (vI 0)) σ) : WT e (d + 2) 150 [vR 30 0, vI e_, vI w] σ P := by
  refine WT_in fun K hK => ?_
  have hK : StpY e cX6_isSuch RX6 (some .boolean) (WT e (d + 1)) P K := hK
  have hM := hK.1
  have hC := hK.1.1
  show K 0 [some (vR 30 0), some (vI e_), some (vI w), none, none] [] σ
  refine r_iconst hC dX6_isSuch_0 rfl ?_
  refine r_istore_n hC dX6_isSuch_1 rfl ?_
  have L2 : ∀ (n2 : Nat) (w1 : Int), 0 ≤ w1 ∧ w1 ≤ 4 → ((w1) = cB (pb 35 σ w e_) ((w1)).toNat) → 4 - w1 < (n2 : Int) → K 2 [some (vR 30 0), some (vI e_), some (vI w), some (vI w1), none] [] σ := by
    intro n2
    induction n2 with
    | zero => intro w1  f_w1 i0_2 hm  ; omega
    | succ n2 ih2 =>
      intro w1  f_w1 i0_2 hm2  
      refine r_iload_n hC dX6_isSuch_2 rfl ?_
      refine r_iconst hC dX6_isSuch_3 rfl ?_
      refine r_icmp_ge (tgt := 48) hC dX6_isSuch_4 rfl (fun h2 => ?_) (fun h2 => ?_)
      · refine r_iconst hC dX6_isSuch_48 rfl ?_
        refine y_zret hK rfl dX6_isSuch_49 (by omega) ?_
        exact k1 (qq_y (cB_at i0_2 (by omega)) (by omega))
      · refine r_iload_n hC dX6_isSuch_7 rfl ?_
        refine r_if_ne (tgt := 15) hC dX6_isSuch_8 rfl (fun h3 => ?_) (fun h3 => ?_)
        · refine r_iload_n hC dX6_isSuch_15 rfl ?_
          refine r_istore hC dX6_isSuch_16 rfl ?_
          refine r_aload_n hC dX6_isSuch_18 rfl ?_
          refine r_iload_n hC dX6_isSuch_19 rfl ?_
          refine r_iload_n hC dX6_isSuch_20 rfl ?_
          refine z_inv2 hM dX6_isSuch_21 vl_RX6_88 rfl rfl rfl (Nat.le_of_ble_eq_true rfl) (Nat.le_of_ble_eq_true rfl) ?_
          refine m_productX (by omega) (by omega) (fun h4 => ?_)
          refine r_iload hC dX6_isSuch_24 rfl ?_
          refine r_icmp_ne (tgt := 40) hC dX6_isSuch_26 rfl (fun h5 => ?_) (fun h5 => ?_)
          · refine r_iconst hC dX6_isSuch_40 rfl ?_
            refine y_zret hK rfl dX6_isSuch_41 (by omega) ?_
            first | exact k0 (qq_no (x := w1) (by omega) (by omega) (pb_n1 (i := e_) (by unfold its; first | exact if_pos (by omega) | exact if_neg (by omega)) (by omega))) | exact k0 (qq_no (x := w1) (by omega) (by omega) (pb_n2 (i := e_) (by unfold its; first | exact if_pos (by omega) | exact if_neg (by omega)) (by omega)))
          · refine r_aload_n hC dX6_isSuch_29 rfl ?_
            refine r_iload_n hC dX6_isSuch_30 rfl ?_
            refine r_iload_n hC dX6_isSuch_31 rfl ?_
            refine z_inv2 hM dX6_isSuch_32 vl_RX6_88 rfl rfl rfl (Nat.le_of_ble_eq_true rfl) (Nat.le_of_ble_eq_true rfl) ?_
            refine m_productX (by omega) (by omega) (fun h6 => ?_)
            refine r_iload hC dX6_isSuch_35 rfl ?_
            refine r_icmp_eq (tgt := 42) hC dX6_isSuch_37 rfl (fun h7 => ?_) (fun h7 => ?_)
            · refine r_iincE hC ((w1 + 1)) dX6_isSuch_42 rfl rfl (by omega) (by unfold inR; omega) ?_
              refine r_goto (tgt := 2) hC dX6_isSuch_45 rfl ?_
              refine r_forget hC (ls2 := [some (vR 30 0), some (vI e_), some (vI w), some (vI (w1 + 1)), none]) (lsub_some (lsub_some (lsub_some (lsub_some (lsub_none lsub_nil))))) ?_
              exact ih2 ((w1 + 1))  (by omega) (by first | rfl | (rw [cB_y (by omega) (pb_y (i := w1) (by unfold its; first | exact if_pos (by omega) | exact if_neg (by omega)) (by omega) (by omega))]; omega) | (rw [cB_y (by omega) (pb_y (i := e_) (by unfold its; first | exact if_pos (by omega) | exact if_neg (by omega)) (by omega) (by omega))]; omega)) (by omega)  
            · refine r_iconst hC dX6_isSuch_40 rfl ?_
              refine y_zret hK rfl dX6_isSuch_41 (by omega) ?_
              first | exact k0 (qq_no (x := w1) (by omega) (by omega) (pb_n1 (i := e_) (by unfold its; first | exact if_pos (by omega) | exact if_neg (by omega)) (by omega))) | exact k0 (qq_no (x := w1) (by omega) (by omega) (pb_n2 (i := e_) (by unfold its; first | exact if_pos (by omega) | exact if_neg (by omega)) (by omega)))
        · refine r_iload_n hC dX6_isSuch_11 rfl ?_
          refine r_goto (tgt := 16) hC dX6_isSuch_12 rfl ?_
          refine r_istore hC dX6_isSuch_16 rfl ?_
          refine r_aload_n hC dX6_isSuch_18 rfl ?_
          refine r_iload_n hC dX6_isSuch_19 rfl ?_
          refine r_iload_n hC dX6_isSuch_20 rfl ?_
          refine z_inv2 hM dX6_isSuch_21 vl_RX6_88 rfl rfl rfl (Nat.le_of_ble_eq_true rfl) (Nat.le_of_ble_eq_true rfl) ?_
          refine m_productX (by omega) (by omega) (fun h8 => ?_)
          refine r_iload hC dX6_isSuch_24 rfl ?_
          refine r_icmp_ne (tgt := 40) hC dX6_isSuch_26 rfl (fun h9 => ?_) (fun h9 => ?_)
          · refine r_iconst hC dX6_isSuch_40 rfl ?_
            refine y_zret hK rfl dX6_isSuch_41 (by omega) ?_
            first | exact k0 (qq_no (x := w1) (by omega) (by omega) (pb_n1 (i := w1) (by unfold its; first | exact if_pos (by omega) | exact if_neg (by omega)) (by omega))) | exact k0 (qq_no (x := w1) (by omega) (by omega) (pb_n2 (i := w1) (by unfold its; first | exact if_pos (by omega) | exact if_neg (by omega)) (by omega)))
          · refine r_aload_n hC dX6_isSuch_29 rfl ?_
            refine r_iload_n hC dX6_isSuch_30 rfl ?_
            refine r_iload_n hC dX6_isSuch_31 rfl ?_
            refine z_inv2 hM dX6_isSuch_32 vl_RX6_88 rfl rfl rfl (Nat.le_of_ble_eq_true rfl) (Nat.le_of_ble_eq_true rfl) ?_
            refine m_productX (by omega) (by omega) (fun h10 => ?_)
            refine r_iload hC dX6_isSuch_35 rfl ?_
            refine r_icmp_eq (tgt := 42) hC dX6_isSuch_37 rfl (fun h11 => ?_) (fun h11 => ?_)
            · refine r_iincE hC ((w1 + 1)) dX6_isSuch_42 rfl rfl (by omega) (by unfold inR; omega) ?_
              refine r_goto (tgt := 2) hC dX6_isSuch_45 rfl ?_
              refine r_forget hC (ls2 := [some (vR 30 0), some (vI e_), some (vI w), some (vI (w1 + 1)), none]) (lsub_some (lsub_some (lsub_some (lsub_some (lsub_none lsub_nil))))) ?_
              exact ih2 ((w1 + 1))  (by omega) (by first | rfl | (rw [cB_y (by omega) (pb_y (i := w1) (by unfold its; first | exact if_pos (by omega) | exact if_neg (by omega)) (by omega) (by omega))]; omega) | (rw [cB_y (by omega) (pb_y (i := e_) (by unfold its; first | exact if_pos (by omega) | exact if_neg (by omega)) (by omega) (by omega))]; omega)) (by omega)  
            · refine r_iconst hC dX6_isSuch_40 rfl ?_
              refine y_zret hK rfl dX6_isSuch_41 (by omega) ?_
              first | exact k0 (qq_no (x := w1) (by omega) (by omega) (pb_n1 (i := w1) (by unfold its; first | exact if_pos (by omega) | exact if_neg (by omega)) (by omega))) | exact k0 (qq_no (x := w1) (by omega) (by omega) (pb_n2 (i := w1) (by unfold its; first | exact if_pos (by omega) | exact if_neg (by omega)) (by omega)))
  exact L2 6 (0)  (by omega) (by first | rfl | (rw [cB_y (by omega) (pb_y (i := w1) (by unfold its; first | exact if_pos (by omega) | exact if_neg (by omega)) (by omega) (by omega))]; omega) | (rw [cB_y (by omega) (pb_y (i := e_) (by unfold its; first | exact if_pos (by omega) | exact if_neg (by omega)) (by omega) (by omega))]; omega)) (by omega)  
theorem m_elementX {e : Ev} {d : Nat} {P : Option Vl → Mm → Prop} {σ : Mm} {w : Int}   (k : P (some (vI (elF 35 σ w))) σ) : WT e (d + 3) 151 [vR 30 0, vI w] σ P := by
  refine WT_in fun K hK => ?_
  have hK : StpY e cX6_element RX6 (some .int) (WT e (d + 2)) P K := hK
  have hM := hK.1
  have hC := hK.1.1
  show K 0 [some (vR 30 0), some (vI w), none, none] [] σ
  refine r_rngz hC (fun g0 => ?_)
  have r_w : -2147483648 ≤ w ∧ w ≤ 2147483647 := inR_le (g0 (vI w) (by simp))
  refine r_iload_n hC dX6_element_0 rfl ?_
  refine r_iconst hC dX6_element_1 rfl ?_
  refine r_iconst hC dX6_element_2 rfl ?_
  refine z_ins3 hM dX6_element_3 tl_RX6_76 rfl (Nat.le_of_ble_eq_true rfl) (Nat.le_of_ble_eq_true rfl) ?_
  refine m_isIn (fun h2 => ?_) (fun h2 => ?_)
  · refine r_if_eq (tgt := 35) hC dX6_element_6 rfl (fun h3 => by omega) (fun h3 => ?_)
    refine r_iconst hC dX6_element_9 rfl ?_
    refine r_istore_n hC dX6_element_10 rfl ?_
    have L11 : ∀ (n11 : Nat) (w4 : Int), 0 ≤ w4 ∧ w4 ≤ 4 → (-1 = fB (qq 35 σ w) ((w4)).toNat) → 4 - w4 < (n11 : Int) → K 11 [some (vR 30 0), some (vI w), some (vI w4), none] [] σ := by
      intro n11
      induction n11 with
      | zero => intro w4  f_w4 i0_11 hm  ; omega
      | succ n11 ih11 =>
        intro w4  f_w4 i0_11 hm11  
        refine r_iload_n hC dX6_element_11 rfl ?_
        refine r_iconst hC dX6_element_12 rfl ?_
        refine r_icmp_ge (tgt := 33) hC dX6_element_13 rfl (fun h5 => ?_) (fun h5 => ?_)
        · refine r_iconst hC dX6_element_33 rfl ?_
          refine y_iret hK rfl dX6_element_34 ?_
          obtain rfl : w4 = 4 := by omega
          have e2 : elF 35 σ w = -1 := by
            unfold elF
            rcases (by omega : w = 0 ∨ w = 1) with rfl | rfl
            · exact i0_11.symm
            · exact i0_11.symm
          rw [e2] at k
          exact k
        · refine r_aload_n hC dX6_element_16 rfl ?_
          refine r_iload_n hC dX6_element_17 rfl ?_
          refine r_iload_n hC dX6_element_18 rfl ?_
          refine z_inv2 hM dX6_element_19 vl_RX6_101 rfl rfl rfl (Nat.le_of_ble_eq_true rfl) (Nat.le_of_ble_eq_true rfl) ?_
          refine m_isSuchX (by omega) (by omega) (fun h6 => ?_) (fun h6 => ?_)
          · refine r_if_eq (tgt := 27) hC dX6_element_22 rfl (fun h7 => by omega) (fun h7 => ?_)
            refine r_iload_n hC dX6_element_25 rfl ?_
            refine y_iret hK rfl dX6_element_26 ?_
            have e := fB_stay (m := (4 : Int).toNat) (fB_new (by omega) i0_11.symm (by assumption)) (by omega) (by omega)
            have e2 : elF 35 σ w = w4 := by
              unfold elF
              rcases (by omega : w = 0 ∨ w = 1) with rfl | rfl
              · exact e
              · exact e
            rw [e2] at k
            exact k
          · refine r_if_eq (tgt := 27) hC dX6_element_22 rfl (fun h8 => ?_) (fun h8 => by omega)
            refine r_iincE hC ((w4 + 1)) dX6_element_27 rfl rfl (by omega) (by unfold inR; omega) ?_
            refine r_goto (tgt := 11) hC dX6_element_30 rfl ?_
            exact ih11 ((w4 + 1))  (by omega) (by first | rfl | (rw [fB_n (by omega) (by assumption)]; exact i0_11)) (by omega)  
    exact L11 6 (0)  (by omega) (by first | rfl | (rw [fB_n (by omega) (by assumption)]; exact i0_11)) (by omega)  
  · refine r_if_eq (tgt := 35) hC dX6_element_6 rfl (fun h9 => ?_) (fun h9 => by omega)
    refine r_iconst hC dX6_element_35 rfl ?_
    refine r_istore_n hC dX6_element_36 rfl ?_
    refine r_iload_n hC dX6_element_37 rfl ?_
    refine r_iconst hC dX6_element_38 rfl ?_
    refine r_icmp_ne (tgt := 75) hC dX6_element_39 rfl (fun h10 => ?_) (fun h10 => ?_)
    · refine r_iload_n hC dX6_element_75 rfl ?_
      refine r_iconst hC dX6_element_76 rfl ?_
      refine r_icmp_eq (tgt := 82) hC dX6_element_77 rfl (fun h11 => ?_) (fun h11 => ?_)
      · refine r_iconst hC dX6_element_82 rfl ?_
        refine r_istore_n hC dX6_element_83 rfl ?_
        have L84 : ∀ (n84 : Nat) (w12 w13 : Int), 0 ≤ w12 ∧ w12 ≤ 16 → 0 ≤ w13 ∧ w13 ≤ 16 → ((w13) = cB (cq 35 σ) ((w12)).toNat) → ((w13) ≤ (w12)) → 16 - w12 < (n84 : Int) → K 84 [some (vR 30 0), some (vI w), some (vI w13), some (vI w12)] [] σ := by
          intro n84
          induction n84 with
          | zero => intro w12 w13  f_w12 f_w13 i0_84 i1_84 hm  ; omega
          | succ n84 ih84 =>
            intro w12 w13  f_w12 f_w13 i0_84 i1_84 hm84  
            refine r_iload_n hC dX6_element_84 rfl ?_
            refine r_bipush hC dX6_element_85 rfl ?_
            refine r_icmp_ge (tgt := 127) hC dX6_element_87 rfl (fun h14 => ?_) (fun h14 => ?_)
            · refine r_iload_n hC dX6_element_127 rfl ?_
              refine y_iret hK rfl dX6_element_128 ?_
              obtain rfl : w12 = 16 := by omega
              obtain rfl : w = 3 := by omega
              have e2 : elF 35 σ 3 = w13 := i0_84.symm
              rw [e2] at k
              exact k
            · refine r_iload_n hC dX6_element_90 rfl ?_
              refine r_aload_n hC dX6_element_91 rfl ?_
              refine r_iload_n hC dX6_element_92 rfl ?_
              refine r_iconst hC dX6_element_93 rfl ?_
              refine r_idivN hC dX6_element_94 (by omega) (by omega) ?_
              refine r_iload_n hC dX6_element_95 rfl ?_
              refine r_iconst hC dX6_element_96 rfl ?_
              refine r_iremN hC dX6_element_97 (by omega) (by omega) ?_
              refine z_inv2 hM dX6_element_98 vl_RX6_88 rfl rfl rfl (Nat.le_of_ble_eq_true rfl) (Nat.le_of_ble_eq_true rfl) ?_
              refine m_productX (by omega) (by omega) (fun h15 => ?_)
              refine r_aload_n hC dX6_element_101 rfl ?_
              refine r_iload_n hC dX6_element_102 rfl ?_
              refine r_iconst hC dX6_element_103 rfl ?_
              refine r_iremN hC dX6_element_104 (by omega) (by omega) ?_
              refine r_iload_n hC dX6_element_105 rfl ?_
              refine r_iconst hC dX6_element_106 rfl ?_
              refine r_idivN hC dX6_element_107 (by omega) (by omega) ?_
              refine z_inv2 hM dX6_element_108 vl_RX6_88 rfl rfl rfl (Nat.le_of_ble_eq_true rfl) (Nat.le_of_ble_eq_true rfl) ?_
              refine m_productX (by omega) (by omega) (fun h16 => ?_)
              refine r_icmp_ne (tgt := 118) hC dX6_element_111 rfl (fun h17 => ?_) (fun h17 => ?_)
              · refine r_iconst hC dX6_element_118 rfl ?_
                refine r_iaddE hC (w13) dX6_element_119 (by omega) (by unfold inR; omega) ?_
                refine r_istore_n hC dX6_element_120 rfl ?_
                refine r_iincE hC ((w12 + 1)) dX6_element_121 rfl rfl (by omega) (by unfold inR; omega) ?_
                refine r_goto (tgt := 84) hC dX6_element_124 rfl ?_
                exact ih84 ((w12 + 1)) (w13)  (by omega) (by omega) (by first | rfl | (rw [cB_y (by omega) (cq_y (by assumption))]; omega) | (rw [cB_n (by omega) (cq_n (by assumption))]; omega)) (by omega) (by omega)  
              · refine r_iconst hC dX6_element_114 rfl ?_
                refine r_goto (tgt := 119) hC dX6_element_115 rfl ?_
                refine r_iaddE hC ((w13 + 1)) dX6_element_119 (by omega) (by unfold inR; omega) ?_
                refine r_istore_n hC dX6_element_120 rfl ?_
                refine r_iincE hC ((w12 + 1)) dX6_element_121 rfl rfl (by omega) (by unfold inR; omega) ?_
                refine r_goto (tgt := 84) hC dX6_element_124 rfl ?_
                exact ih84 ((w12 + 1)) ((w13 + 1))  (by omega) (by omega) (by first | rfl | (rw [cB_y (by omega) (cq_y (by assumption))]; omega) | (rw [cB_n (by omega) (cq_n (by assumption))]; omega)) (by omega) (by omega)  
        exact L84 18 (0) (0)  (by omega) (by omega) (by first | rfl | (rw [cB_y (by omega) (cq_y (by assumption))]; omega) | (rw [cB_n (by omega) (cq_n (by assumption))]; omega)) (by omega) (by omega)  
      · refine r_iconst hC dX6_element_80 rfl ?_
        refine y_iret hK rfl dX6_element_81 ?_
        have e : elF 35 σ w = (-1) := by unfold elF; (repeat' split) <;> first | rfl | omega
        rw [e] at k
        exact k
    · refine r_iconst hC dX6_element_42 rfl ?_
      refine r_istore_n hC dX6_element_43 rfl ?_
      have L44 : ∀ (n44 : Nat) (w18 w19 : Int), 0 ≤ w18 ∧ w18 ≤ 4 → 0 ≤ w19 ∧ w19 ≤ 4 → ((w19) = cB (ip 35 σ) ((w18)).toNat) → ((w19) ≤ (w18)) → 4 - w18 < (n44 : Int) → K 44 [some (vR 30 0), some (vI w), some (vI w19), some (vI w18)] [] σ := by
        intro n44
        induction n44 with
        | zero => intro w18 w19  f_w18 f_w19 i0_44 i1_44 hm  ; omega
        | succ n44 ih44 =>
          intro w18 w19  f_w18 f_w19 i0_44 i1_44 hm44  
          refine r_iload_n hC dX6_element_44 rfl ?_
          refine r_iconst hC dX6_element_45 rfl ?_
          refine r_icmp_ge (tgt := 73) hC dX6_element_46 rfl (fun h20 => ?_) (fun h20 => ?_)
          · refine r_iload_n hC dX6_element_73 rfl ?_
            refine y_iret hK rfl dX6_element_74 ?_
            obtain rfl : w18 = 4 := by omega
            obtain rfl : w = 2 := by omega
            have e2 : elF 35 σ 2 = w19 := i0_44.symm
            rw [e2] at k
            exact k
          · refine r_iload_n hC dX6_element_49 rfl ?_
            refine r_aload_n hC dX6_element_50 rfl ?_
            refine r_iload_n hC dX6_element_51 rfl ?_
            refine r_iload_n hC dX6_element_52 rfl ?_
            refine z_inv2 hM dX6_element_53 vl_RX6_88 rfl rfl rfl (Nat.le_of_ble_eq_true rfl) (Nat.le_of_ble_eq_true rfl) ?_
            refine m_productX (by omega) (by omega) (fun h21 => ?_)
            refine r_iload_n hC dX6_element_56 rfl ?_
            refine r_icmp_ne (tgt := 64) hC dX6_element_57 rfl (fun h22 => ?_) (fun h22 => ?_)
            · refine r_iconst hC dX6_element_64 rfl ?_
              refine r_iaddE hC (w19) dX6_element_65 (by omega) (by unfold inR; omega) ?_
              refine r_istore_n hC dX6_element_66 rfl ?_
              refine r_iincE hC ((w18 + 1)) dX6_element_67 rfl rfl (by omega) (by unfold inR; omega) ?_
              refine r_goto (tgt := 44) hC dX6_element_70 rfl ?_
              exact ih44 ((w18 + 1)) (w19)  (by omega) (by omega) (by first | rfl | (rw [cB_y (by omega) (ip_y (by assumption))]; omega) | (rw [cB_n (by omega) (ip_n (by assumption))]; omega)) (by omega) (by omega)  
            · refine r_iconst hC dX6_element_60 rfl ?_
              refine r_goto (tgt := 65) hC dX6_element_61 rfl ?_
              refine r_iaddE hC ((w19 + 1)) dX6_element_65 (by omega) (by unfold inR; omega) ?_
              refine r_istore_n hC dX6_element_66 rfl ?_
              refine r_iincE hC ((w18 + 1)) dX6_element_67 rfl rfl (by omega) (by unfold inR; omega) ?_
              refine r_goto (tgt := 44) hC dX6_element_70 rfl ?_
              exact ih44 ((w18 + 1)) ((w19 + 1))  (by omega) (by omega) (by first | rfl | (rw [cB_y (by omega) (ip_y (by assumption))]; omega) | (rw [cB_n (by omega) (ip_n (by assumption))]; omega)) (by omega) (by omega)  
      exact L44 6 (0) (0)  (by omega) (by omega) (by first | rfl | (rw [cB_y (by omega) (ip_y (by assumption))]; omega) | (rw [cB_n (by omega) (ip_n (by assumption))]; omega)) (by omega) (by omega)  
-- B: opening, shutting, what is kept and gone back to; WATCHES and LINKS
def etA (V : Mm) (l n : Int) : Mm := fun c x y => if c = 12 ∧ (0 ≤ x ∧ x < n) ∧ y = 0 ∧ V 12 x 0 = l then -1 else V c x y
def etB (V : Mm) (l n : Int) : Mm := fun c x y => if c = 13 ∧ (0 ≤ x ∧ x < n) ∧ y = 0 ∧ (x = l ∨ V 13 x 0 = l) then -1 else V c x y
def etM (V : Mm) (l : Int) : Mm := etB (etA V l 8) l 4
theorem etA_0 {V : Mm} {l : Int} : etA V l 0 = V := by
  funext c x y
  exact if_neg (by omega)
theorem etB_0 {V : Mm} {l : Int} : etB V l 0 = V := by
  funext c x y
  exact if_neg (by omega)
theorem etA_up {V : Mm} {l n x y : Int} (h : n ≤ x) : etA V l n 12 x y = V 12 x y := if_neg (by omega)
theorem etB_up {V : Mm} {l n x y : Int} (h : n ≤ x) : etB V l n 13 x y = V 13 x y := if_neg (by omega)
theorem etA_no {V : Mm} {l n : Int} (h : V 12 n 0 ≠ l) : etA V l (n + 1) = etA V l n := by
  funext c x y
  unfold etA
  by_cases hx : n = x
  · subst hx
    rw [if_neg (fun q => h q.2.2.2), if_neg (fun q => h q.2.2.2)]
  · by_cases hq : c = 12 ∧ (0 ≤ x ∧ x < n) ∧ y = 0 ∧ V 12 x 0 = l
    · rw [if_pos hq, if_pos ⟨hq.1, ⟨hq.2.1.1, by omega⟩, hq.2.2⟩]
    · rw [if_neg hq, if_neg (fun q => hq ⟨q.1, ⟨q.2.1.1, by omega⟩, q.2.2⟩)]
theorem etA_yes {V : Mm} {l n : Int} (h0 : 0 ≤ n) (h : V 12 n 0 = l) : mu (etA V l n) 12 n 0 (-1) = etA V l (n + 1) := by
  funext c x y
  by_cases hx : c = 12 ∧ x = n ∧ y = 0
  · obtain ⟨rfl, rfl, rfl⟩ := hx
    rw [mu_self]
    exact (if_pos ⟨rfl, ⟨h0, by omega⟩, rfl, h⟩).symm
  · rw [mu_ne hx]
    unfold etA
    by_cases hq : c = 12 ∧ (0 ≤ x ∧ x < n) ∧ y = 0 ∧ V 12 x 0 = l
    · rw [if_pos hq, if_pos ⟨hq.1, ⟨hq.2.1.1, by omega⟩, hq.2.2⟩]
    · rw [if_neg hq, if_neg (fun q => hq ⟨q.1, ⟨q.2.1.1, by omega⟩, q.2.2⟩)]
theorem etB_no {V : Mm} {l n : Int} (h : ¬ (n = l ∨ V 13 n 0 = l)) : etB V l (n + 1) = etB V l n := by
  funext c x y
  unfold etB
  by_cases hx : n = x
  · subst hx
    rw [if_neg (fun q => h q.2.2.2), if_neg (fun q => h q.2.2.2)]
  · by_cases hq : c = 13 ∧ (0 ≤ x ∧ x < n) ∧ y = 0 ∧ (x = l ∨ V 13 x 0 = l)
    · rw [if_pos hq, if_pos ⟨hq.1, ⟨hq.2.1.1, by omega⟩, hq.2.2⟩]
    · rw [if_neg hq, if_neg (fun q => hq ⟨q.1, ⟨q.2.1.1, by omega⟩, q.2.2⟩)]
theorem etB_yes {V : Mm} {l n : Int} (h0 : 0 ≤ n) (h : n = l ∨ V 13 n 0 = l) : mu (etB V l n) 13 n 0 (-1) = etB V l (n + 1) := by
  funext c x y
  by_cases hx : c = 13 ∧ x = n ∧ y = 0
  · obtain ⟨rfl, rfl, rfl⟩ := hx
    rw [mu_self]
    exact (if_pos ⟨rfl, ⟨h0, by omega⟩, rfl, h⟩).symm
  · rw [mu_ne hx]
    unfold etB
    by_cases hq : c = 13 ∧ (0 ≤ x ∧ x < n) ∧ y = 0 ∧ (x = l ∨ V 13 x 0 = l)
    · rw [if_pos hq, if_pos ⟨hq.1, ⟨hq.2.1.1, by omega⟩, hq.2.2⟩]
    · rw [if_neg hq, if_neg (fun q => hq ⟨q.1, ⟨q.2.1.1, by omega⟩, q.2.2⟩)]
theorem etM_ne {V : Mm} {l x y : Int} {c : Nat} (h : ¬ ((c = 12 ∨ c = 13) ∧ y = 0)) : etM V l c x y = V c x y := by
  unfold etM
  exact (if_neg (by omega) : etB (etA V l 8) l 4 c x y = _).trans (if_neg (by omega))
def bgR (o b z y : Int) (f : Int → Int) : Int → Int := fun t => if t = 1 then 1 else if t = 2 then o else if t = 3 then b else if t = 4 then z else if t = 5 then y else if t = 10 then -1 else if t = 6 ∨ (12 ≤ t ∧ t ≤ 15) then 0 else f t
def bgM (V : Mm) (l o b z y : Int) : Mm := fun c x t => if x = l then (if c = 7 then bgR o b z y (V 7 l) t else if c = 11 then zrR (V 11 l) t else V c x t) else V c x t
abbrev cpS (y : Int) : Prop := (0 ≤ y ∧ y ≤ 6) ∨ y = 10 ∨ (12 ≤ y ∧ y ≤ 15)
/-- LANE or BOX b becomes as a is -/
def cpM (V : Mm) (a b : Int) : Mm := fun c x y => if x = b then (if c = 7 then (if cpS y then V 7 a y else V 7 b y) else if c = 8 ∨ c = 9 ∨ c = 10 then (if 0 ≤ y ∧ y < V 7 a 6 then V c a y else V c b y) else if c = 11 then (if 0 ≤ y ∧ y ≤ 6 then V 11 a y else V 11 b y) else V c x y) else V c x y
def cntO (V : Mm) : Int := V 7 0 1 + V 7 1 1 + V 7 2 1 + V 7 3 1
abbrev ocC (V : Mm) (l o b z y : Int) : Prop := (0 ≤ l ∧ l ≤ 3) ∧ (0 ≤ o ∧ o ≤ 9) ∧ (0 ≤ y ∧ y ≤ 10000) ∧ (b = 0 ∨ (b = 1 ∧ 1 ≤ z ∧ z ≤ 120) ∨ (b = 2 ∧ 1 ≤ z ∧ z ≤ 10000)) ∧ (o = 9 → trpF 15 V 3 = 64)
def onM (V : Mm) (l o b z y : Int) : Mm := if ocC V l o b z y then etM (bgM V l o b (if b = 0 then 0 else z) y) l else V
def onR (V : Mm) (l o b z y : Int) : Int := if ocC V l o b z y then cntO (onM V l o b z y) else -1
def shM (V : Mm) (l : Int) : Mm := if opV V l then etM (mu V 7 l 1 0) l else V
def shR (V : Mm) (l : Int) : Int := if opV V l then 1 else 0
abbrev lkC (V : Mm) (l o z w : Int) : Prop := (opV V l ∧ 0 ≤ w ∧ w < numF (V 7 l 2)) ∧ opV V o ∧ l ≠ o ∧ (0 ≤ z ∧ z ≤ 100000) ∧ V 13 o 0 = -1 ∧ ∀ j : Int, 0 ≤ j → j < 4 → V 13 j 0 ≠ l
def lkM (V : Mm) (l o z w : Int) : Mm := mu (mu (mu (mu V 13 l 0 o) 13 l 1 z) 13 l 2 w) 13 l 3 0
abbrev ulC (V : Mm) (l : Int) : Prop := (0 ≤ l ∧ l ≤ 3) ∧ V 13 l 0 ≠ -1
def ulM (V : Mm) (l : Int) : Mm := if ulC V l then mu V 13 l 0 (-1) else V
def ulR (V : Mm) (l : Int) : Int := if ulC V l then 1 else 0
abbrev kpC (V : Mm) (l x : Int) : Prop := opV V l ∧ 0 ≤ x ∧ x ≤ 2
def kpM (V : Mm) (l x : Int) : Mm := if kpC V l x then cpM V l (x + 4) else V
def kpR (V : Mm) (l x : Int) : Int := if kpC V l x then V 7 l 6 else -1
abbrev bkC (V : Mm) (x : Int) : Prop := (0 ≤ x ∧ x ≤ 2) ∧ V 7 (x + 4) 1 = 1
def bkM (V : Mm) (x : Int) : Mm := if bkC V x then etM (cpM V (x + 4) (V 7 (x + 4) 0)) (V 7 (x + 4) 0) else V
def bkR (V : Mm) (x : Int) : Int := if bkC V x then V 7 (x + 4) 6 else -1
abbrev usV (V : Mm) (o : Int) : Prop := ∃ j : Int, (0 ≤ j ∧ j < 7) ∧ V 7 j 1 = 1 ∧ V 7 j 2 = o
-- B: the class: opening, shutting
theorem x_wend {e : Ev} {d : Nat} {P : Option Vl → Mm → Prop} {σ : Mm} {i : Int} (b_i : 0 ≤ i ∧ i ≤ 7)  (k : P none (mu σ 12 i 0 (-1))) : WT e (d + 1) 45 [vR 12 i] σ P := by
  refine WT_in fun K hK => ?_
  have hK : StpY e cX4_end RX4 (none) (WT e (d + 0)) P K := hK
  have hM := hK.1
  have hC := hK.1.1
  show K 0 [some (vR 12 i)] [] σ
  refine r_aload_n hC dX4_end_0 rfl ?_
  refine r_iconst hC dX4_end_1 rfl ?_
  refine z_putIT (jz := 0) hM dX4_end_2 fw_RX4_9 rfl rfl rfl ⟨Or.inr (by simp [DL]), Or.inr (by simp [DF])⟩ (by first | trivial | (simp only [Okv]; omega) | (simp [Okv]; try omega)) ?_
  refine y_vret hK rfl dX4_end_5 ?_
  exact k
theorem x_lend {e : Ev} {d : Nat} {P : Option Vl → Mm → Prop} {σ : Mm} {i : Int} (b_i : 0 ≤ i ∧ i ≤ 3)  (k : P none (mu σ 13 i 0 (-1))) : WT e (d + 1) 40 [vR 13 i] σ P := by
  refine WT_in fun K hK => ?_
  have hK : StpY e cX3_end RX3 (none) (WT e (d + 0)) P K := hK
  have hM := hK.1
  have hC := hK.1.1
  show K 0 [some (vR 13 i)] [] σ
  refine r_aload_n hC dX3_end_0 rfl ?_
  refine r_iconst hC dX3_end_1 rfl ?_
  refine z_putIT (jz := 0) hM dX3_end_2 fw_RX3_9 rfl rfl rfl ⟨Or.inr (by simp [DL]), Or.inr (by simp [DF])⟩ (by first | trivial | (simp only [Okv]; omega) | (simp [Okv]; try omega)) ?_
  refine y_vret hK rfl dX3_end_5 ?_
  exact k
theorem x_endTies {e : Ev} {d : Nat} {P : Option Vl → Mm → Prop} {σ : Mm} {l : Int} (b_l : 0 ≤ l ∧ l ≤ 3)  (k : P none (etM σ l)) : WT e (d + 2) 108 [vR 2 0, vI l] σ P := by
  refine WT_in fun K hK => ?_
  have hK : StpY e cX5_endTies RX5 (none) (WT e (d + 1)) P K := hK
  have hM := hK.1
  have hC := hK.1.1
  show K 0 [some (vR 2 0), some (vI l), none] [] σ
  refine r_iconst hC dX5_endTies_0 rfl ?_
  refine r_istore_n hC dX5_endTies_1 rfl ?_
  have L2 : ∀ (n2 : Nat) (w1 : Int) (ρ2 : Mm), 0 ≤ w1 ∧ w1 ≤ 8 → 8 - w1 < (n2 : Int) → (ρ2 = etA σ l (w1)) → K 2 [some (vR 2 0), some (vI l), some (vI w1)] [] ρ2 := by
    intro n2
    induction n2 with
    | zero => intro w1 ρ2 f_w1  hm  m0_2; omega
    | succ n2 ih2 =>
      intro w1 ρ2 f_w1  hm2  m0_2
      refine r_iload_n hC dX5_endTies_2 rfl ?_
      refine r_bipush hC dX5_endTies_3 rfl ?_
      refine r_icmp_ge (tgt := 36) hC dX5_endTies_5 rfl (fun h3 => ?_) (fun h3 => ?_)
      · refine r_iconst hC dX5_endTies_36 rfl ?_
        refine r_istore_n hC dX5_endTies_37 rfl ?_
        have L38 : ∀ (n38 : Nat) (w4 : Int) (ρ5 : Mm), 0 ≤ w4 ∧ w4 ≤ 4 → 4 - w4 < (n38 : Int) → (ρ5 = etB (etA σ l 8) l (w4)) → K 38 [some (vR 2 0), some (vI l), some (vI w4)] [] ρ5 := by
          intro n38
          induction n38 with
          | zero => intro w4 ρ5 f_w4  hm  m0_38; omega
          | succ n38 ih38 =>
            intro w4 ρ5 f_w4  hm38  m0_38
            refine r_iload_n hC dX5_endTies_38 rfl ?_
            refine r_iconst hC dX5_endTies_39 rfl ?_
            refine r_icmp_ge (tgt := 76) hC dX5_endTies_40 rfl (fun h6 => ?_) (fun h6 => ?_)
            · refine y_vret hK rfl dX5_endTies_76 ?_
              have hm : etM σ l = ρ5 := by rw [m0_38, show w4 = (4 : Int) from by omega]; rfl
              rw [hm] at k
              exact k
            · have e13 : ρ5 13 w4 0 = (etA σ l 8) 13 w4 0 := by rw [m0_38]; exact etB_up (by omega)
              refine r_iload_n hC dX5_endTies_43 rfl ?_
              refine r_iload_n hC dX5_endTies_44 rfl ?_
              refine r_icmp_eq (tgt := 61) hC dX5_endTies_45 rfl (fun h7 => ?_) (fun h7 => ?_)
              · refine r_aload_n hC dX5_endTies_61 rfl ?_
                refine z_getR hM dX5_endTies_62 fl_RX5_19 rfl rfl (vld_of (n := 1) rfl (by omega) (by omega)) ?_
                refine r_iload_n hC dX5_endTies_65 rfl ?_
                refine z_aald hM dX5_endTies_66 rfl (by decide) (by omega) (by omega) (vld_of (n := 4) rfl (by omega) (by omega)) ?_
                refine z_inv0 hM dX5_endTies_67 vl_RX5_340 rfl rfl rfl (Nat.le_of_ble_eq_true rfl) (Nat.le_of_ble_eq_true rfl) ?_
                refine x_lend (by omega) ?_
                refine r_iincE hC ((w4 + 1)) dX5_endTies_70 rfl rfl (by omega) (by unfold inR; omega) ?_
                refine r_goto (tgt := 38) hC dX5_endTies_73 rfl ?_
                exact ih38 ((w4 + 1)) (mu ρ5 13 w4 0 (-1)) (by omega)  (by omega)  (by rw [m0_38]; exact etB_yes (by omega) (by omega))
              · refine r_aload_n hC dX5_endTies_48 rfl ?_
                refine z_getR hM dX5_endTies_49 fl_RX5_19 rfl rfl (vld_of (n := 1) rfl (by omega) (by omega)) ?_
                refine r_iload_n hC dX5_endTies_52 rfl ?_
                refine z_aald hM dX5_endTies_53 rfl (by decide) (by omega) (by omega) (vld_of (n := 4) rfl (by omega) (by omega)) ?_
                refine z_getI (jz := 0) hM dX5_endTies_54 fl_RX5_215 rfl rfl rfl (fun v8 h_v8 o_v8 t_v8 => ?_)
                have w_v8 := ((t_v8 (Or.inl (by simp [Tb]))).trans (rfl)).symm
                subst w_v8
                refine r_iload_n hC dX5_endTies_57 rfl ?_
                refine r_icmp_ne (tgt := 70) hC dX5_endTies_58 rfl (fun h9 => ?_) (fun h9 => ?_)
                · refine r_iincE hC ((w4 + 1)) dX5_endTies_70 rfl rfl (by omega) (by unfold inR; omega) ?_
                  refine r_goto (tgt := 38) hC dX5_endTies_73 rfl ?_
                  exact ih38 ((w4 + 1)) ρ5 (by omega)  (by omega)  (by rw [m0_38]; exact (etB_no (by omega)).symm)
                · refine r_aload_n hC dX5_endTies_61 rfl ?_
                  refine z_getR hM dX5_endTies_62 fl_RX5_19 rfl rfl (vld_of (n := 1) rfl (by omega) (by omega)) ?_
                  refine r_iload_n hC dX5_endTies_65 rfl ?_
                  refine z_aald hM dX5_endTies_66 rfl (by decide) (by omega) (by omega) (vld_of (n := 4) rfl (by omega) (by omega)) ?_
                  refine z_inv0 hM dX5_endTies_67 vl_RX5_340 rfl rfl rfl (Nat.le_of_ble_eq_true rfl) (Nat.le_of_ble_eq_true rfl) ?_
                  refine x_lend (by omega) ?_
                  refine r_iincE hC ((w4 + 1)) dX5_endTies_70 rfl rfl (by omega) (by unfold inR; omega) ?_
                  refine r_goto (tgt := 38) hC dX5_endTies_73 rfl ?_
                  exact ih38 ((w4 + 1)) (mu ρ5 13 w4 0 (-1)) (by omega)  (by omega)  (by rw [m0_38]; exact etB_yes (by omega) (by omega))
        exact L38 6 (0) ρ2 (by omega)  (by omega)  (by rw [etB_0, m0_2, show w1 = (8 : Int) from by omega])
      · have e12 : ρ2 12 w1 0 = σ 12 w1 0 := by rw [m0_2]; exact etA_up (by omega)
        refine r_aload_n hC dX5_endTies_8 rfl ?_
        refine z_getR hM dX5_endTies_9 fl_RX5_32 rfl rfl (vld_of (n := 1) rfl (by omega) (by omega)) ?_
        refine r_iload_n hC dX5_endTies_12 rfl ?_
        refine z_aald hM dX5_endTies_13 rfl (by decide) (by omega) (by omega) (vld_of (n := 8) rfl (by omega) (by omega)) ?_
        refine z_getI (jz := 0) hM dX5_endTies_14 fl_RX5_321 rfl rfl rfl (fun v10 h_v10 o_v10 t_v10 => ?_)
        have w_v10 := ((t_v10 (Or.inl (by simp [Tb]))).trans (rfl)).symm
        subst w_v10
        refine r_iload_n hC dX5_endTies_17 rfl ?_
        refine r_icmp_ne (tgt := 30) hC dX5_endTies_18 rfl (fun h11 => ?_) (fun h11 => ?_)
        · refine r_iincE hC ((w1 + 1)) dX5_endTies_30 rfl rfl (by omega) (by unfold inR; omega) ?_
          refine r_goto (tgt := 2) hC dX5_endTies_33 rfl ?_
          exact ih2 ((w1 + 1)) ρ2 (by omega)  (by omega)  (by rw [m0_2]; exact (etA_no (by omega)).symm)
        · refine r_aload_n hC dX5_endTies_21 rfl ?_
          refine z_getR hM dX5_endTies_22 fl_RX5_32 rfl rfl (vld_of (n := 1) rfl (by omega) (by omega)) ?_
          refine r_iload_n hC dX5_endTies_25 rfl ?_
          refine z_aald hM dX5_endTies_26 rfl (by decide) (by omega) (by omega) (vld_of (n := 8) rfl (by omega) (by omega)) ?_
          refine z_inv0 hM dX5_endTies_27 vl_RX5_344 rfl rfl rfl (Nat.le_of_ble_eq_true rfl) (Nat.le_of_ble_eq_true rfl) ?_
          refine x_wend (by omega) ?_
          refine r_iincE hC ((w1 + 1)) dX5_endTies_30 rfl rfl (by omega) (by unfold inR; omega) ?_
          refine r_goto (tgt := 2) hC dX5_endTies_33 rfl ?_
          exact ih2 ((w1 + 1)) (mu ρ2 12 w1 0 (-1)) (by omega)  (by omega)  (by rw [m0_2]; exact etA_yes (by omega) (by omega))
  exact L2 10 (0) σ (by omega)  (by omega)  (etA_0.symm)
theorem bgM_eq {V : Mm} {l o b z y : Int} : bgM V l o b z y = (su (mu (mu (mu (mu (mu (mu (mu (mu (mu (mu (mu V 7 l 1 1) 7 l 2 o) 7 l 3 b) 7 l 4 z) 7 l 5 y) 7 l 6 0) 7 l 10 (-1)) 7 l 12 0) 7 l 13 0) 7 l 14 0) 7 l 15 0) 11 l (zrR ((mu (mu (mu (mu (mu (mu (mu (mu (mu (mu (mu V 7 l 1 1) 7 l 2 o) 7 l 3 b) 7 l 4 z) 7 l 5 y) 7 l 6 0) 7 l 10 (-1)) 7 l 12 0) 7 l 13 0) 7 l 14 0) 7 l 15 0) 11 l))) := by
  funext c x t
  by_cases hx : l = x
  · subst hx
    unfold bgM
    rw [if_pos rfl]
    by_cases c7 : c = 7
    · subst c7
      rw [if_pos rfl]
      by_cases t1 : t = 1
      · subst t1
        rw [su_ne (by omega), mu_ne (by omega), mu_ne (by omega), mu_ne (by omega), mu_ne (by omega), mu_ne (by omega), mu_ne (by omega), mu_ne (by omega), mu_ne (by omega), mu_ne (by omega), mu_ne (by omega), mu_self]
        first | rfl | (simp [bgR])
      by_cases t2 : t = 2
      · subst t2
        rw [su_ne (by omega), mu_ne (by omega), mu_ne (by omega), mu_ne (by omega), mu_ne (by omega), mu_ne (by omega), mu_ne (by omega), mu_ne (by omega), mu_ne (by omega), mu_ne (by omega), mu_self]
        first | rfl | (simp [bgR])
      by_cases t3 : t = 3
      · subst t3
        rw [su_ne (by omega), mu_ne (by omega), mu_ne (by omega), mu_ne (by omega), mu_ne (by omega), mu_ne (by omega), mu_ne (by omega), mu_ne (by omega), mu_ne (by omega), mu_self]
        first | rfl | (simp [bgR])
      by_cases t4 : t = 4
      · subst t4
        rw [su_ne (by omega), mu_ne (by omega), mu_ne (by omega), mu_ne (by omega), mu_ne (by omega), mu_ne (by omega), mu_ne (by omega), mu_ne (by omega), mu_self]
        first | rfl | (simp [bgR])
      by_cases t5 : t = 5
      · subst t5
        rw [su_ne (by omega), mu_ne (by omega), mu_ne (by omega), mu_ne (by omega), mu_ne (by omega), mu_ne (by omega), mu_ne (by omega), mu_self]
        first | rfl | (simp [bgR])
      by_cases t6 : t = 6
      · subst t6
        rw [su_ne (by omega), mu_ne (by omega), mu_ne (by omega), mu_ne (by omega), mu_ne (by omega), mu_ne (by omega), mu_self]
        first | rfl | (simp [bgR])
      by_cases t10 : t = 10
      · subst t10
        rw [su_ne (by omega), mu_ne (by omega), mu_ne (by omega), mu_ne (by omega), mu_ne (by omega), mu_self]
        first | rfl | (simp [bgR])
      by_cases t12 : t = 12
      · subst t12
        rw [su_ne (by omega), mu_ne (by omega), mu_ne (by omega), mu_ne (by omega), mu_self]
        first | rfl | (simp [bgR])
      by_cases t13 : t = 13
      · subst t13
        rw [su_ne (by omega), mu_ne (by omega), mu_ne (by omega), mu_self]
        first | rfl | (simp [bgR])
      by_cases t14 : t = 14
      · subst t14
        rw [su_ne (by omega), mu_ne (by omega), mu_self]
        first | rfl | (simp [bgR])
      by_cases t15 : t = 15
      · subst t15
        rw [su_ne (by omega), mu_self]
        first | rfl | (simp [bgR])
      rw [su_ne (by omega), mu_ne (by omega), mu_ne (by omega), mu_ne (by omega), mu_ne (by omega), mu_ne (by omega), mu_ne (by omega), mu_ne (by omega), mu_ne (by omega), mu_ne (by omega), mu_ne (by omega), mu_ne (by omega)]
      unfold bgR
      rw [if_neg t1, if_neg t2, if_neg t3, if_neg t4, if_neg t5, if_neg t10, if_neg (by omega)]
    rw [if_neg c7]
    by_cases c11 : c = 11
    · subst c11
      rw [if_pos rfl, su_at]
      rw [show (mu (mu (mu (mu (mu (mu (mu (mu (mu (mu (mu V 7 l 1 1) 7 l 2 o) 7 l 3 b) 7 l 4 z) 7 l 5 y) 7 l 6 0) 7 l 10 (-1)) 7 l 12 0) 7 l 13 0) 7 l 14 0) 7 l 15 0) 11 l = V 11 l from funext fun y => by rw [mu_ne (by omega), mu_ne (by omega), mu_ne (by omega), mu_ne (by omega), mu_ne (by omega), mu_ne (by omega), mu_ne (by omega), mu_ne (by omega), mu_ne (by omega), mu_ne (by omega), mu_ne (by omega)]]
    rw [if_neg c11]
    rw [su_ne (by omega), mu_ne (by omega), mu_ne (by omega), mu_ne (by omega), mu_ne (by omega), mu_ne (by omega), mu_ne (by omega), mu_ne (by omega), mu_ne (by omega), mu_ne (by omega), mu_ne (by omega), mu_ne (by omega)]
  · unfold bgM
    rw [if_neg (fun q => hx q.symm)]
    rw [su_ne (by omega), mu_ne (by omega), mu_ne (by omega), mu_ne (by omega), mu_ne (by omega), mu_ne (by omega), mu_ne (by omega), mu_ne (by omega), mu_ne (by omega), mu_ne (by omega), mu_ne (by omega), mu_ne (by omega)]
theorem x_begin_L {eb ec : Bool} {d : Nat} {P : Option Vl → Mm → Prop} {σ : Mm} {l o b z y : Int} (b_l : 0 ≤ l ∧ l ≤ 6) (b_o : 0 ≤ o ∧ o ≤ 9)  (k : P none (bgM σ l o b z y)) : WT (true, eb, ec) (d + 2) 26 [vR 7 l, vI o, vI b, vI z, vI y] σ P := by
  refine WT_in fun K hK => ?_
  have hK : StpY (true, eb, ec) cX2_begin RX2 (none) (WT (true, eb, ec) (d + 1)) P K := hK
  have hM := hK.1
  have hC := hK.1.1
  show K 0 [some (vR 7 l), some (vI o), some (vI b), some (vI z), some (vI y)] [] σ
  refine r_rngz hC (fun g0 => ?_)
  have r_b : -2147483648 ≤ b ∧ b ≤ 2147483647 := inR_le (g0 (vI b) (by simp))
  have r_z : -2147483648 ≤ z ∧ z ≤ 2147483647 := inR_le (g0 (vI z) (by simp))
  have r_y : -2147483648 ≤ y ∧ y ≤ 2147483647 := inR_le (g0 (vI y) (by simp))
  refine r_aload_n hC dX2_begin_0 rfl ?_
  refine r_iconst hC dX2_begin_1 rfl ?_
  refine z_putZT (jz := 1) hM dX2_begin_2 fw_RX2_32 rfl rfl rfl (by omega) ⟨Or.inr (by simp [DL]), Or.inr (by simp [DF])⟩ (by first | trivial | (simp only [Okv]; omega) | (simp [Okv]; try omega)) ?_
  refine r_aload_n hC dX2_begin_5 rfl ?_
  refine r_iload_n hC dX2_begin_6 rfl ?_
  refine z_putIT (jz := 2) hM dX2_begin_7 fw_RX2_36 rfl rfl rfl ⟨Or.inr (by simp [DL]), Or.inr (by simp [DF])⟩ (by first | trivial | (simp only [Okv]; omega) | (simp [Okv]; try omega)) ?_
  refine r_aload_n hC dX2_begin_10 rfl ?_
  refine r_iload_n hC dX2_begin_11 rfl ?_
  refine z_putIT (jz := 3) hM dX2_begin_12 fw_RX2_39 rfl rfl rfl ⟨Or.inl rfl, Or.inr (by simp [DF])⟩ (by first | trivial | (simp only [Okv]; omega) | (simp [Okv]; try omega)) ?_
  refine r_aload_n hC dX2_begin_15 rfl ?_
  refine r_iload_n hC dX2_begin_16 rfl ?_
  refine z_putIT (jz := 4) hM dX2_begin_17 fw_RX2_42 rfl rfl rfl ⟨Or.inl rfl, Or.inr (by simp [DF])⟩ (by first | trivial | (simp only [Okv]; omega) | (simp [Okv]; try omega)) ?_
  refine r_aload_n hC dX2_begin_20 rfl ?_
  refine r_iload hC dX2_begin_21 rfl ?_
  refine z_putIT (jz := 5) hM dX2_begin_23 fw_RX2_45 rfl rfl rfl ⟨Or.inr (by simp [DL]), Or.inr (by simp [DF])⟩ (by first | trivial | (simp only [Okv]; omega) | (simp [Okv]; try omega)) ?_
  refine r_aload_n hC dX2_begin_26 rfl ?_
  refine r_iconst hC dX2_begin_27 rfl ?_
  refine z_putIT (jz := 6) hM dX2_begin_28 fw_RX2_48 rfl rfl rfl ⟨Or.inl rfl, Or.inr (by simp [DF])⟩ (by first | trivial | (simp only [Okv]; omega) | (simp [Okv]; try omega)) ?_
  refine r_aload_n hC dX2_begin_31 rfl ?_
  refine r_iconst hC dX2_begin_32 rfl ?_
  refine z_putIT (jz := 10) hM dX2_begin_33 fw_RX2_51 rfl rfl rfl ⟨Or.inr (by simp [DL]), Or.inr (by simp [DF])⟩ (by first | trivial | (simp only [Okv]; omega) | (simp [Okv]; try omega)) ?_
  refine r_aload_n hC dX2_begin_36 rfl ?_
  refine r_iconst hC dX2_begin_37 rfl ?_
  refine z_putIU (jz := 11) hM dX2_begin_38 fw_RX2_54 rfl rfl rfl (by simp [Un, Tb, DL, DF, DR, DX]) (by simp [Okv]) ?_
  refine r_aload_n hC dX2_begin_41 rfl ?_
  refine r_iconst hC dX2_begin_42 rfl ?_
  refine z_putIT (jz := 12) hM dX2_begin_43 fw_RX2_57 rfl rfl rfl ⟨Or.inr (by simp [DL]), Or.inr (by simp [DF])⟩ (by first | trivial | (simp only [Okv]; omega) | (simp [Okv]; try omega)) ?_
  refine r_aload_n hC dX2_begin_46 rfl ?_
  refine r_iconst hC dX2_begin_47 rfl ?_
  refine z_putIT (jz := 13) hM dX2_begin_48 fw_RX2_60 rfl rfl rfl ⟨Or.inr (by simp [DL]), Or.inr (by simp [DF])⟩ (by first | trivial | (simp only [Okv]; omega) | (simp [Okv]; try omega)) ?_
  refine r_aload_n hC dX2_begin_51 rfl ?_
  refine r_iconst hC dX2_begin_52 rfl ?_
  refine z_putIT (jz := 14) hM dX2_begin_53 fw_RX2_63 rfl rfl rfl ⟨Or.inr (by simp [DL]), Or.inr (by simp [DF])⟩ (by first | trivial | (simp only [Okv]; omega) | (simp [Okv]; try omega)) ?_
  refine r_aload_n hC dX2_begin_56 rfl ?_
  refine r_iconst hC dX2_begin_57 rfl ?_
  refine z_putIT (jz := 15) hM dX2_begin_58 fw_RX2_66 rfl rfl rfl ⟨Or.inr (by simp [DL]), Or.inr (by simp [DF])⟩ (by first | trivial | (simp only [Okv]; omega) | (simp [Okv]; try omega)) ?_
  refine r_aload_n hC dX2_begin_61 rfl ?_
  refine z_getR hM dX2_begin_62 fl_RX2_28 rfl rfl (vld_of (n := 8) rfl (by omega) (by omega)) ?_
  refine z_inv0 hM dX2_begin_65 vl_RX2_69 rfl rfl rfl (Nat.le_of_ble_eq_true rfl) (Nat.le_of_ble_eq_true rfl) ?_
  refine x_clear (by omega) ?_
  refine y_vret hK rfl dX2_begin_68 ?_
  have hm : bgM σ l o b z y = (su (mu (mu (mu (mu (mu (mu (mu (mu (mu (mu (mu σ 7 l 1 1) 7 l 2 o) 7 l 3 b) 7 l 4 z) 7 l 5 y) 7 l 6 0) 7 l 10 (-1)) 7 l 12 0) 7 l 13 0) 7 l 14 0) 7 l 15 0) 11 l (zrR ((mu (mu (mu (mu (mu (mu (mu (mu (mu (mu (mu σ 7 l 1 1) 7 l 2 o) 7 l 3 b) 7 l 4 z) 7 l 5 y) 7 l 6 0) 7 l 10 (-1)) 7 l 12 0) 7 l 13 0) 7 l 14 0) 7 l 15 0) 11 l))) := bgM_eq
  rw [hm] at k
  exact k
theorem x_openLanes {e : Ev} {d : Nat} {P : Option Vl → Mm → Prop} {σ : Mm}   (k : P (some (vI (cntO σ))) σ) : WT e (d + 1) 117 [vR 2 0] σ P := by
  refine WT_in fun K hK => ?_
  have hK : StpY e cX5_openLanes RX5 (some .int) (WT e (d + 0)) P K := hK
  have hM := hK.1
  have hC := hK.1.1
  show K 0 [some (vR 2 0), none, none] [] σ
  refine r_iconst hC dX5_openLanes_0 rfl ?_
  refine r_istore_n hC dX5_openLanes_1 rfl ?_
  refine r_iconst hC dX5_openLanes_2 rfl ?_
  refine r_istore_n hC dX5_openLanes_3 rfl ?_
  refine r_iload_n hC dX5_openLanes_4 rfl ?_
  refine r_iconst hC dX5_openLanes_5 rfl ?_
  refine r_icmp_ge (tgt := 35) hC dX5_openLanes_6 rfl (fun h1 => by omega) (fun h1 => ?_)
  refine r_iload_n hC dX5_openLanes_9 rfl ?_
  refine r_aload_n hC dX5_openLanes_10 rfl ?_
  refine z_getR hM dX5_openLanes_11 fl_RX5_13 rfl rfl (vld_of (n := 1) rfl (by omega) (by omega)) ?_
  refine r_iload_n hC dX5_openLanes_14 rfl ?_
  refine z_aald hM dX5_openLanes_15 rfl (by decide) (by omega) (by omega) (vld_of (n := 7) rfl (by omega) (by omega)) ?_
  refine z_getI (jz := 1) hM dX5_openLanes_16 fl_RX5_94 rfl rfl rfl (fun v2 h_v2 o_v2 t_v2 => ?_)
  have w_v2 := ((t_v2 (Or.inl (by simp [Tb]))).trans (rfl)).symm
  subst w_v2
  have q_v2 : 0 ≤ (σ 7 0 1) ∧ (σ 7 0 1) ≤ 1 := by have := o_v2.2.1 rfl; omega
  refine r_if_eq (tgt := 26) hC dX5_openLanes_19 rfl (fun h3 => ?_) (fun h3 => ?_)
  · refine r_iconst hC dX5_openLanes_26 rfl ?_
    refine r_iaddE hC (0) dX5_openLanes_27 (by omega) (by unfold inR; omega) ?_
    refine r_istore_n hC dX5_openLanes_28 rfl ?_
    refine r_iincE hC (1) dX5_openLanes_29 rfl rfl (by omega) (by unfold inR; omega) ?_
    refine r_goto (tgt := 4) hC dX5_openLanes_32 rfl ?_
    refine r_iload_n hC dX5_openLanes_4 rfl ?_
    refine r_iconst hC dX5_openLanes_5 rfl ?_
    refine r_icmp_ge (tgt := 35) hC dX5_openLanes_6 rfl (fun h4 => by omega) (fun h4 => ?_)
    refine r_iload_n hC dX5_openLanes_9 rfl ?_
    refine r_aload_n hC dX5_openLanes_10 rfl ?_
    refine z_getR hM dX5_openLanes_11 fl_RX5_13 rfl rfl (vld_of (n := 1) rfl (by omega) (by omega)) ?_
    refine r_iload_n hC dX5_openLanes_14 rfl ?_
    refine z_aald hM dX5_openLanes_15 rfl (by decide) (by omega) (by omega) (vld_of (n := 7) rfl (by omega) (by omega)) ?_
    refine z_getI (jz := 1) hM dX5_openLanes_16 fl_RX5_94 rfl rfl rfl (fun v5 h_v5 o_v5 t_v5 => ?_)
    have w_v5 := ((t_v5 (Or.inl (by simp [Tb]))).trans (rfl)).symm
    subst w_v5
    have q_v5 : 0 ≤ (σ 7 1 1) ∧ (σ 7 1 1) ≤ 1 := by have := o_v5.2.1 rfl; omega
    refine r_if_eq (tgt := 26) hC dX5_openLanes_19 rfl (fun h6 => ?_) (fun h6 => ?_)
    · refine r_iconst hC dX5_openLanes_26 rfl ?_
      refine r_iaddE hC (0) dX5_openLanes_27 (by omega) (by unfold inR; omega) ?_
      refine r_istore_n hC dX5_openLanes_28 rfl ?_
      refine r_iincE hC (2) dX5_openLanes_29 rfl rfl (by omega) (by unfold inR; omega) ?_
      refine r_goto (tgt := 4) hC dX5_openLanes_32 rfl ?_
      refine r_iload_n hC dX5_openLanes_4 rfl ?_
      refine r_iconst hC dX5_openLanes_5 rfl ?_
      refine r_icmp_ge (tgt := 35) hC dX5_openLanes_6 rfl (fun h7 => by omega) (fun h7 => ?_)
      refine r_iload_n hC dX5_openLanes_9 rfl ?_
      refine r_aload_n hC dX5_openLanes_10 rfl ?_
      refine z_getR hM dX5_openLanes_11 fl_RX5_13 rfl rfl (vld_of (n := 1) rfl (by omega) (by omega)) ?_
      refine r_iload_n hC dX5_openLanes_14 rfl ?_
      refine z_aald hM dX5_openLanes_15 rfl (by decide) (by omega) (by omega) (vld_of (n := 7) rfl (by omega) (by omega)) ?_
      refine z_getI (jz := 1) hM dX5_openLanes_16 fl_RX5_94 rfl rfl rfl (fun v8 h_v8 o_v8 t_v8 => ?_)
      have w_v8 := ((t_v8 (Or.inl (by simp [Tb]))).trans (rfl)).symm
      subst w_v8
      have q_v8 : 0 ≤ (σ 7 2 1) ∧ (σ 7 2 1) ≤ 1 := by have := o_v8.2.1 rfl; omega
      refine r_if_eq (tgt := 26) hC dX5_openLanes_19 rfl (fun h9 => ?_) (fun h9 => ?_)
      · refine r_iconst hC dX5_openLanes_26 rfl ?_
        refine r_iaddE hC (0) dX5_openLanes_27 (by omega) (by unfold inR; omega) ?_
        refine r_istore_n hC dX5_openLanes_28 rfl ?_
        refine r_iincE hC (3) dX5_openLanes_29 rfl rfl (by omega) (by unfold inR; omega) ?_
        refine r_goto (tgt := 4) hC dX5_openLanes_32 rfl ?_
        refine r_iload_n hC dX5_openLanes_4 rfl ?_
        refine r_iconst hC dX5_openLanes_5 rfl ?_
        refine r_icmp_ge (tgt := 35) hC dX5_openLanes_6 rfl (fun h10 => by omega) (fun h10 => ?_)
        refine r_iload_n hC dX5_openLanes_9 rfl ?_
        refine r_aload_n hC dX5_openLanes_10 rfl ?_
        refine z_getR hM dX5_openLanes_11 fl_RX5_13 rfl rfl (vld_of (n := 1) rfl (by omega) (by omega)) ?_
        refine r_iload_n hC dX5_openLanes_14 rfl ?_
        refine z_aald hM dX5_openLanes_15 rfl (by decide) (by omega) (by omega) (vld_of (n := 7) rfl (by omega) (by omega)) ?_
        refine z_getI (jz := 1) hM dX5_openLanes_16 fl_RX5_94 rfl rfl rfl (fun v11 h_v11 o_v11 t_v11 => ?_)
        have w_v11 := ((t_v11 (Or.inl (by simp [Tb]))).trans (rfl)).symm
        subst w_v11
        have q_v11 : 0 ≤ (σ 7 3 1) ∧ (σ 7 3 1) ≤ 1 := by have := o_v11.2.1 rfl; omega
        refine r_if_eq (tgt := 26) hC dX5_openLanes_19 rfl (fun h12 => ?_) (fun h12 => ?_)
        · refine r_iconst hC dX5_openLanes_26 rfl ?_
          refine r_iaddE hC (0) dX5_openLanes_27 (by omega) (by unfold inR; omega) ?_
          refine r_istore_n hC dX5_openLanes_28 rfl ?_
          refine r_iincE hC (4) dX5_openLanes_29 rfl rfl (by omega) (by unfold inR; omega) ?_
          refine r_goto (tgt := 4) hC dX5_openLanes_32 rfl ?_
          refine r_iload_n hC dX5_openLanes_4 rfl ?_
          refine r_iconst hC dX5_openLanes_5 rfl ?_
          refine r_icmp_ge (tgt := 35) hC dX5_openLanes_6 rfl (fun h13 => ?_) (fun h13 => by omega)
          refine r_iload_n hC dX5_openLanes_35 rfl ?_
          refine y_iret hK rfl dX5_openLanes_36 ?_
          have e : cntO σ = 0 := by unfold cntO; omega
          rw [e] at k
          exact k
        · refine r_iconst hC dX5_openLanes_22 rfl ?_
          refine r_goto (tgt := 27) hC dX5_openLanes_23 rfl ?_
          refine r_iaddE hC (1) dX5_openLanes_27 (by omega) (by unfold inR; omega) ?_
          refine r_istore_n hC dX5_openLanes_28 rfl ?_
          refine r_iincE hC (4) dX5_openLanes_29 rfl rfl (by omega) (by unfold inR; omega) ?_
          refine r_goto (tgt := 4) hC dX5_openLanes_32 rfl ?_
          refine r_iload_n hC dX5_openLanes_4 rfl ?_
          refine r_iconst hC dX5_openLanes_5 rfl ?_
          refine r_icmp_ge (tgt := 35) hC dX5_openLanes_6 rfl (fun h14 => ?_) (fun h14 => by omega)
          refine r_iload_n hC dX5_openLanes_35 rfl ?_
          refine y_iret hK rfl dX5_openLanes_36 ?_
          have e : cntO σ = 1 := by unfold cntO; omega
          rw [e] at k
          exact k
      · refine r_iconst hC dX5_openLanes_22 rfl ?_
        refine r_goto (tgt := 27) hC dX5_openLanes_23 rfl ?_
        refine r_iaddE hC (1) dX5_openLanes_27 (by omega) (by unfold inR; omega) ?_
        refine r_istore_n hC dX5_openLanes_28 rfl ?_
        refine r_iincE hC (3) dX5_openLanes_29 rfl rfl (by omega) (by unfold inR; omega) ?_
        refine r_goto (tgt := 4) hC dX5_openLanes_32 rfl ?_
        refine r_iload_n hC dX5_openLanes_4 rfl ?_
        refine r_iconst hC dX5_openLanes_5 rfl ?_
        refine r_icmp_ge (tgt := 35) hC dX5_openLanes_6 rfl (fun h15 => by omega) (fun h15 => ?_)
        refine r_iload_n hC dX5_openLanes_9 rfl ?_
        refine r_aload_n hC dX5_openLanes_10 rfl ?_
        refine z_getR hM dX5_openLanes_11 fl_RX5_13 rfl rfl (vld_of (n := 1) rfl (by omega) (by omega)) ?_
        refine r_iload_n hC dX5_openLanes_14 rfl ?_
        refine z_aald hM dX5_openLanes_15 rfl (by decide) (by omega) (by omega) (vld_of (n := 7) rfl (by omega) (by omega)) ?_
        refine z_getI (jz := 1) hM dX5_openLanes_16 fl_RX5_94 rfl rfl rfl (fun v16 h_v16 o_v16 t_v16 => ?_)
        have w_v16 := ((t_v16 (Or.inl (by simp [Tb]))).trans (rfl)).symm
        subst w_v16
        have q_v16 : 0 ≤ (σ 7 3 1) ∧ (σ 7 3 1) ≤ 1 := by have := o_v16.2.1 rfl; omega
        refine r_if_eq (tgt := 26) hC dX5_openLanes_19 rfl (fun h17 => ?_) (fun h17 => ?_)
        · refine r_iconst hC dX5_openLanes_26 rfl ?_
          refine r_iaddE hC (1) dX5_openLanes_27 (by omega) (by unfold inR; omega) ?_
          refine r_istore_n hC dX5_openLanes_28 rfl ?_
          refine r_iincE hC (4) dX5_openLanes_29 rfl rfl (by omega) (by unfold inR; omega) ?_
          refine r_goto (tgt := 4) hC dX5_openLanes_32 rfl ?_
          refine r_iload_n hC dX5_openLanes_4 rfl ?_
          refine r_iconst hC dX5_openLanes_5 rfl ?_
          refine r_icmp_ge (tgt := 35) hC dX5_openLanes_6 rfl (fun h18 => ?_) (fun h18 => by omega)
          refine r_iload_n hC dX5_openLanes_35 rfl ?_
          refine y_iret hK rfl dX5_openLanes_36 ?_
          have e : cntO σ = 1 := by unfold cntO; omega
          rw [e] at k
          exact k
        · refine r_iconst hC dX5_openLanes_22 rfl ?_
          refine r_goto (tgt := 27) hC dX5_openLanes_23 rfl ?_
          refine r_iaddE hC (2) dX5_openLanes_27 (by omega) (by unfold inR; omega) ?_
          refine r_istore_n hC dX5_openLanes_28 rfl ?_
          refine r_iincE hC (4) dX5_openLanes_29 rfl rfl (by omega) (by unfold inR; omega) ?_
          refine r_goto (tgt := 4) hC dX5_openLanes_32 rfl ?_
          refine r_iload_n hC dX5_openLanes_4 rfl ?_
          refine r_iconst hC dX5_openLanes_5 rfl ?_
          refine r_icmp_ge (tgt := 35) hC dX5_openLanes_6 rfl (fun h19 => ?_) (fun h19 => by omega)
          refine r_iload_n hC dX5_openLanes_35 rfl ?_
          refine y_iret hK rfl dX5_openLanes_36 ?_
          have e : cntO σ = 2 := by unfold cntO; omega
          rw [e] at k
          exact k
    · refine r_iconst hC dX5_openLanes_22 rfl ?_
      refine r_goto (tgt := 27) hC dX5_openLanes_23 rfl ?_
      refine r_iaddE hC (1) dX5_openLanes_27 (by omega) (by unfold inR; omega) ?_
      refine r_istore_n hC dX5_openLanes_28 rfl ?_
      refine r_iincE hC (2) dX5_openLanes_29 rfl rfl (by omega) (by unfold inR; omega) ?_
      refine r_goto (tgt := 4) hC dX5_openLanes_32 rfl ?_
      refine r_iload_n hC dX5_openLanes_4 rfl ?_
      refine r_iconst hC dX5_openLanes_5 rfl ?_
      refine r_icmp_ge (tgt := 35) hC dX5_openLanes_6 rfl (fun h20 => by omega) (fun h20 => ?_)
      refine r_iload_n hC dX5_openLanes_9 rfl ?_
      refine r_aload_n hC dX5_openLanes_10 rfl ?_
      refine z_getR hM dX5_openLanes_11 fl_RX5_13 rfl rfl (vld_of (n := 1) rfl (by omega) (by omega)) ?_
      refine r_iload_n hC dX5_openLanes_14 rfl ?_
      refine z_aald hM dX5_openLanes_15 rfl (by decide) (by omega) (by omega) (vld_of (n := 7) rfl (by omega) (by omega)) ?_
      refine z_getI (jz := 1) hM dX5_openLanes_16 fl_RX5_94 rfl rfl rfl (fun v21 h_v21 o_v21 t_v21 => ?_)
      have w_v21 := ((t_v21 (Or.inl (by simp [Tb]))).trans (rfl)).symm
      subst w_v21
      have q_v21 : 0 ≤ (σ 7 2 1) ∧ (σ 7 2 1) ≤ 1 := by have := o_v21.2.1 rfl; omega
      refine r_if_eq (tgt := 26) hC dX5_openLanes_19 rfl (fun h22 => ?_) (fun h22 => ?_)
      · refine r_iconst hC dX5_openLanes_26 rfl ?_
        refine r_iaddE hC (1) dX5_openLanes_27 (by omega) (by unfold inR; omega) ?_
        refine r_istore_n hC dX5_openLanes_28 rfl ?_
        refine r_iincE hC (3) dX5_openLanes_29 rfl rfl (by omega) (by unfold inR; omega) ?_
        refine r_goto (tgt := 4) hC dX5_openLanes_32 rfl ?_
        refine r_iload_n hC dX5_openLanes_4 rfl ?_
        refine r_iconst hC dX5_openLanes_5 rfl ?_
        refine r_icmp_ge (tgt := 35) hC dX5_openLanes_6 rfl (fun h23 => by omega) (fun h23 => ?_)
        refine r_iload_n hC dX5_openLanes_9 rfl ?_
        refine r_aload_n hC dX5_openLanes_10 rfl ?_
        refine z_getR hM dX5_openLanes_11 fl_RX5_13 rfl rfl (vld_of (n := 1) rfl (by omega) (by omega)) ?_
        refine r_iload_n hC dX5_openLanes_14 rfl ?_
        refine z_aald hM dX5_openLanes_15 rfl (by decide) (by omega) (by omega) (vld_of (n := 7) rfl (by omega) (by omega)) ?_
        refine z_getI (jz := 1) hM dX5_openLanes_16 fl_RX5_94 rfl rfl rfl (fun v24 h_v24 o_v24 t_v24 => ?_)
        have w_v24 := ((t_v24 (Or.inl (by simp [Tb]))).trans (rfl)).symm
        subst w_v24
        have q_v24 : 0 ≤ (σ 7 3 1) ∧ (σ 7 3 1) ≤ 1 := by have := o_v24.2.1 rfl; omega
        refine r_if_eq (tgt := 26) hC dX5_openLanes_19 rfl (fun h25 => ?_) (fun h25 => ?_)
        · refine r_iconst hC dX5_openLanes_26 rfl ?_
          refine r_iaddE hC (1) dX5_openLanes_27 (by omega) (by unfold inR; omega) ?_
          refine r_istore_n hC dX5_openLanes_28 rfl ?_
          refine r_iincE hC (4) dX5_openLanes_29 rfl rfl (by omega) (by unfold inR; omega) ?_
          refine r_goto (tgt := 4) hC dX5_openLanes_32 rfl ?_
          refine r_iload_n hC dX5_openLanes_4 rfl ?_
          refine r_iconst hC dX5_openLanes_5 rfl ?_
          refine r_icmp_ge (tgt := 35) hC dX5_openLanes_6 rfl (fun h26 => ?_) (fun h26 => by omega)
          refine r_iload_n hC dX5_openLanes_35 rfl ?_
          refine y_iret hK rfl dX5_openLanes_36 ?_
          have e : cntO σ = 1 := by unfold cntO; omega
          rw [e] at k
          exact k
        · refine r_iconst hC dX5_openLanes_22 rfl ?_
          refine r_goto (tgt := 27) hC dX5_openLanes_23 rfl ?_
          refine r_iaddE hC (2) dX5_openLanes_27 (by omega) (by unfold inR; omega) ?_
          refine r_istore_n hC dX5_openLanes_28 rfl ?_
          refine r_iincE hC (4) dX5_openLanes_29 rfl rfl (by omega) (by unfold inR; omega) ?_
          refine r_goto (tgt := 4) hC dX5_openLanes_32 rfl ?_
          refine r_iload_n hC dX5_openLanes_4 rfl ?_
          refine r_iconst hC dX5_openLanes_5 rfl ?_
          refine r_icmp_ge (tgt := 35) hC dX5_openLanes_6 rfl (fun h27 => ?_) (fun h27 => by omega)
          refine r_iload_n hC dX5_openLanes_35 rfl ?_
          refine y_iret hK rfl dX5_openLanes_36 ?_
          have e : cntO σ = 2 := by unfold cntO; omega
          rw [e] at k
          exact k
      · refine r_iconst hC dX5_openLanes_22 rfl ?_
        refine r_goto (tgt := 27) hC dX5_openLanes_23 rfl ?_
        refine r_iaddE hC (2) dX5_openLanes_27 (by omega) (by unfold inR; omega) ?_
        refine r_istore_n hC dX5_openLanes_28 rfl ?_
        refine r_iincE hC (3) dX5_openLanes_29 rfl rfl (by omega) (by unfold inR; omega) ?_
        refine r_goto (tgt := 4) hC dX5_openLanes_32 rfl ?_
        refine r_iload_n hC dX5_openLanes_4 rfl ?_
        refine r_iconst hC dX5_openLanes_5 rfl ?_
        refine r_icmp_ge (tgt := 35) hC dX5_openLanes_6 rfl (fun h28 => by omega) (fun h28 => ?_)
        refine r_iload_n hC dX5_openLanes_9 rfl ?_
        refine r_aload_n hC dX5_openLanes_10 rfl ?_
        refine z_getR hM dX5_openLanes_11 fl_RX5_13 rfl rfl (vld_of (n := 1) rfl (by omega) (by omega)) ?_
        refine r_iload_n hC dX5_openLanes_14 rfl ?_
        refine z_aald hM dX5_openLanes_15 rfl (by decide) (by omega) (by omega) (vld_of (n := 7) rfl (by omega) (by omega)) ?_
        refine z_getI (jz := 1) hM dX5_openLanes_16 fl_RX5_94 rfl rfl rfl (fun v29 h_v29 o_v29 t_v29 => ?_)
        have w_v29 := ((t_v29 (Or.inl (by simp [Tb]))).trans (rfl)).symm
        subst w_v29
        have q_v29 : 0 ≤ (σ 7 3 1) ∧ (σ 7 3 1) ≤ 1 := by have := o_v29.2.1 rfl; omega
        refine r_if_eq (tgt := 26) hC dX5_openLanes_19 rfl (fun h30 => ?_) (fun h30 => ?_)
        · refine r_iconst hC dX5_openLanes_26 rfl ?_
          refine r_iaddE hC (2) dX5_openLanes_27 (by omega) (by unfold inR; omega) ?_
          refine r_istore_n hC dX5_openLanes_28 rfl ?_
          refine r_iincE hC (4) dX5_openLanes_29 rfl rfl (by omega) (by unfold inR; omega) ?_
          refine r_goto (tgt := 4) hC dX5_openLanes_32 rfl ?_
          refine r_iload_n hC dX5_openLanes_4 rfl ?_
          refine r_iconst hC dX5_openLanes_5 rfl ?_
          refine r_icmp_ge (tgt := 35) hC dX5_openLanes_6 rfl (fun h31 => ?_) (fun h31 => by omega)
          refine r_iload_n hC dX5_openLanes_35 rfl ?_
          refine y_iret hK rfl dX5_openLanes_36 ?_
          have e : cntO σ = 2 := by unfold cntO; omega
          rw [e] at k
          exact k
        · refine r_iconst hC dX5_openLanes_22 rfl ?_
          refine r_goto (tgt := 27) hC dX5_openLanes_23 rfl ?_
          refine r_iaddE hC (3) dX5_openLanes_27 (by omega) (by unfold inR; omega) ?_
          refine r_istore_n hC dX5_openLanes_28 rfl ?_
          refine r_iincE hC (4) dX5_openLanes_29 rfl rfl (by omega) (by unfold inR; omega) ?_
          refine r_goto (tgt := 4) hC dX5_openLanes_32 rfl ?_
          refine r_iload_n hC dX5_openLanes_4 rfl ?_
          refine r_iconst hC dX5_openLanes_5 rfl ?_
          refine r_icmp_ge (tgt := 35) hC dX5_openLanes_6 rfl (fun h32 => ?_) (fun h32 => by omega)
          refine r_iload_n hC dX5_openLanes_35 rfl ?_
          refine y_iret hK rfl dX5_openLanes_36 ?_
          have e : cntO σ = 3 := by unfold cntO; omega
          rw [e] at k
          exact k
  · refine r_iconst hC dX5_openLanes_22 rfl ?_
    refine r_goto (tgt := 27) hC dX5_openLanes_23 rfl ?_
    refine r_iaddE hC (1) dX5_openLanes_27 (by omega) (by unfold inR; omega) ?_
    refine r_istore_n hC dX5_openLanes_28 rfl ?_
    refine r_iincE hC (1) dX5_openLanes_29 rfl rfl (by omega) (by unfold inR; omega) ?_
    refine r_goto (tgt := 4) hC dX5_openLanes_32 rfl ?_
    refine r_iload_n hC dX5_openLanes_4 rfl ?_
    refine r_iconst hC dX5_openLanes_5 rfl ?_
    refine r_icmp_ge (tgt := 35) hC dX5_openLanes_6 rfl (fun h33 => by omega) (fun h33 => ?_)
    refine r_iload_n hC dX5_openLanes_9 rfl ?_
    refine r_aload_n hC dX5_openLanes_10 rfl ?_
    refine z_getR hM dX5_openLanes_11 fl_RX5_13 rfl rfl (vld_of (n := 1) rfl (by omega) (by omega)) ?_
    refine r_iload_n hC dX5_openLanes_14 rfl ?_
    refine z_aald hM dX5_openLanes_15 rfl (by decide) (by omega) (by omega) (vld_of (n := 7) rfl (by omega) (by omega)) ?_
    refine z_getI (jz := 1) hM dX5_openLanes_16 fl_RX5_94 rfl rfl rfl (fun v34 h_v34 o_v34 t_v34 => ?_)
    have w_v34 := ((t_v34 (Or.inl (by simp [Tb]))).trans (rfl)).symm
    subst w_v34
    have q_v34 : 0 ≤ (σ 7 1 1) ∧ (σ 7 1 1) ≤ 1 := by have := o_v34.2.1 rfl; omega
    refine r_if_eq (tgt := 26) hC dX5_openLanes_19 rfl (fun h35 => ?_) (fun h35 => ?_)
    · refine r_iconst hC dX5_openLanes_26 rfl ?_
      refine r_iaddE hC (1) dX5_openLanes_27 (by omega) (by unfold inR; omega) ?_
      refine r_istore_n hC dX5_openLanes_28 rfl ?_
      refine r_iincE hC (2) dX5_openLanes_29 rfl rfl (by omega) (by unfold inR; omega) ?_
      refine r_goto (tgt := 4) hC dX5_openLanes_32 rfl ?_
      refine r_iload_n hC dX5_openLanes_4 rfl ?_
      refine r_iconst hC dX5_openLanes_5 rfl ?_
      refine r_icmp_ge (tgt := 35) hC dX5_openLanes_6 rfl (fun h36 => by omega) (fun h36 => ?_)
      refine r_iload_n hC dX5_openLanes_9 rfl ?_
      refine r_aload_n hC dX5_openLanes_10 rfl ?_
      refine z_getR hM dX5_openLanes_11 fl_RX5_13 rfl rfl (vld_of (n := 1) rfl (by omega) (by omega)) ?_
      refine r_iload_n hC dX5_openLanes_14 rfl ?_
      refine z_aald hM dX5_openLanes_15 rfl (by decide) (by omega) (by omega) (vld_of (n := 7) rfl (by omega) (by omega)) ?_
      refine z_getI (jz := 1) hM dX5_openLanes_16 fl_RX5_94 rfl rfl rfl (fun v37 h_v37 o_v37 t_v37 => ?_)
      have w_v37 := ((t_v37 (Or.inl (by simp [Tb]))).trans (rfl)).symm
      subst w_v37
      have q_v37 : 0 ≤ (σ 7 2 1) ∧ (σ 7 2 1) ≤ 1 := by have := o_v37.2.1 rfl; omega
      refine r_if_eq (tgt := 26) hC dX5_openLanes_19 rfl (fun h38 => ?_) (fun h38 => ?_)
      · refine r_iconst hC dX5_openLanes_26 rfl ?_
        refine r_iaddE hC (1) dX5_openLanes_27 (by omega) (by unfold inR; omega) ?_
        refine r_istore_n hC dX5_openLanes_28 rfl ?_
        refine r_iincE hC (3) dX5_openLanes_29 rfl rfl (by omega) (by unfold inR; omega) ?_
        refine r_goto (tgt := 4) hC dX5_openLanes_32 rfl ?_
        refine r_iload_n hC dX5_openLanes_4 rfl ?_
        refine r_iconst hC dX5_openLanes_5 rfl ?_
        refine r_icmp_ge (tgt := 35) hC dX5_openLanes_6 rfl (fun h39 => by omega) (fun h39 => ?_)
        refine r_iload_n hC dX5_openLanes_9 rfl ?_
        refine r_aload_n hC dX5_openLanes_10 rfl ?_
        refine z_getR hM dX5_openLanes_11 fl_RX5_13 rfl rfl (vld_of (n := 1) rfl (by omega) (by omega)) ?_
        refine r_iload_n hC dX5_openLanes_14 rfl ?_
        refine z_aald hM dX5_openLanes_15 rfl (by decide) (by omega) (by omega) (vld_of (n := 7) rfl (by omega) (by omega)) ?_
        refine z_getI (jz := 1) hM dX5_openLanes_16 fl_RX5_94 rfl rfl rfl (fun v40 h_v40 o_v40 t_v40 => ?_)
        have w_v40 := ((t_v40 (Or.inl (by simp [Tb]))).trans (rfl)).symm
        subst w_v40
        have q_v40 : 0 ≤ (σ 7 3 1) ∧ (σ 7 3 1) ≤ 1 := by have := o_v40.2.1 rfl; omega
        refine r_if_eq (tgt := 26) hC dX5_openLanes_19 rfl (fun h41 => ?_) (fun h41 => ?_)
        · refine r_iconst hC dX5_openLanes_26 rfl ?_
          refine r_iaddE hC (1) dX5_openLanes_27 (by omega) (by unfold inR; omega) ?_
          refine r_istore_n hC dX5_openLanes_28 rfl ?_
          refine r_iincE hC (4) dX5_openLanes_29 rfl rfl (by omega) (by unfold inR; omega) ?_
          refine r_goto (tgt := 4) hC dX5_openLanes_32 rfl ?_
          refine r_iload_n hC dX5_openLanes_4 rfl ?_
          refine r_iconst hC dX5_openLanes_5 rfl ?_
          refine r_icmp_ge (tgt := 35) hC dX5_openLanes_6 rfl (fun h42 => ?_) (fun h42 => by omega)
          refine r_iload_n hC dX5_openLanes_35 rfl ?_
          refine y_iret hK rfl dX5_openLanes_36 ?_
          have e : cntO σ = 1 := by unfold cntO; omega
          rw [e] at k
          exact k
        · refine r_iconst hC dX5_openLanes_22 rfl ?_
          refine r_goto (tgt := 27) hC dX5_openLanes_23 rfl ?_
          refine r_iaddE hC (2) dX5_openLanes_27 (by omega) (by unfold inR; omega) ?_
          refine r_istore_n hC dX5_openLanes_28 rfl ?_
          refine r_iincE hC (4) dX5_openLanes_29 rfl rfl (by omega) (by unfold inR; omega) ?_
          refine r_goto (tgt := 4) hC dX5_openLanes_32 rfl ?_
          refine r_iload_n hC dX5_openLanes_4 rfl ?_
          refine r_iconst hC dX5_openLanes_5 rfl ?_
          refine r_icmp_ge (tgt := 35) hC dX5_openLanes_6 rfl (fun h43 => ?_) (fun h43 => by omega)
          refine r_iload_n hC dX5_openLanes_35 rfl ?_
          refine y_iret hK rfl dX5_openLanes_36 ?_
          have e : cntO σ = 2 := by unfold cntO; omega
          rw [e] at k
          exact k
      · refine r_iconst hC dX5_openLanes_22 rfl ?_
        refine r_goto (tgt := 27) hC dX5_openLanes_23 rfl ?_
        refine r_iaddE hC (2) dX5_openLanes_27 (by omega) (by unfold inR; omega) ?_
        refine r_istore_n hC dX5_openLanes_28 rfl ?_
        refine r_iincE hC (3) dX5_openLanes_29 rfl rfl (by omega) (by unfold inR; omega) ?_
        refine r_goto (tgt := 4) hC dX5_openLanes_32 rfl ?_
        refine r_iload_n hC dX5_openLanes_4 rfl ?_
        refine r_iconst hC dX5_openLanes_5 rfl ?_
        refine r_icmp_ge (tgt := 35) hC dX5_openLanes_6 rfl (fun h44 => by omega) (fun h44 => ?_)
        refine r_iload_n hC dX5_openLanes_9 rfl ?_
        refine r_aload_n hC dX5_openLanes_10 rfl ?_
        refine z_getR hM dX5_openLanes_11 fl_RX5_13 rfl rfl (vld_of (n := 1) rfl (by omega) (by omega)) ?_
        refine r_iload_n hC dX5_openLanes_14 rfl ?_
        refine z_aald hM dX5_openLanes_15 rfl (by decide) (by omega) (by omega) (vld_of (n := 7) rfl (by omega) (by omega)) ?_
        refine z_getI (jz := 1) hM dX5_openLanes_16 fl_RX5_94 rfl rfl rfl (fun v45 h_v45 o_v45 t_v45 => ?_)
        have w_v45 := ((t_v45 (Or.inl (by simp [Tb]))).trans (rfl)).symm
        subst w_v45
        have q_v45 : 0 ≤ (σ 7 3 1) ∧ (σ 7 3 1) ≤ 1 := by have := o_v45.2.1 rfl; omega
        refine r_if_eq (tgt := 26) hC dX5_openLanes_19 rfl (fun h46 => ?_) (fun h46 => ?_)
        · refine r_iconst hC dX5_openLanes_26 rfl ?_
          refine r_iaddE hC (2) dX5_openLanes_27 (by omega) (by unfold inR; omega) ?_
          refine r_istore_n hC dX5_openLanes_28 rfl ?_
          refine r_iincE hC (4) dX5_openLanes_29 rfl rfl (by omega) (by unfold inR; omega) ?_
          refine r_goto (tgt := 4) hC dX5_openLanes_32 rfl ?_
          refine r_iload_n hC dX5_openLanes_4 rfl ?_
          refine r_iconst hC dX5_openLanes_5 rfl ?_
          refine r_icmp_ge (tgt := 35) hC dX5_openLanes_6 rfl (fun h47 => ?_) (fun h47 => by omega)
          refine r_iload_n hC dX5_openLanes_35 rfl ?_
          refine y_iret hK rfl dX5_openLanes_36 ?_
          have e : cntO σ = 2 := by unfold cntO; omega
          rw [e] at k
          exact k
        · refine r_iconst hC dX5_openLanes_22 rfl ?_
          refine r_goto (tgt := 27) hC dX5_openLanes_23 rfl ?_
          refine r_iaddE hC (3) dX5_openLanes_27 (by omega) (by unfold inR; omega) ?_
          refine r_istore_n hC dX5_openLanes_28 rfl ?_
          refine r_iincE hC (4) dX5_openLanes_29 rfl rfl (by omega) (by unfold inR; omega) ?_
          refine r_goto (tgt := 4) hC dX5_openLanes_32 rfl ?_
          refine r_iload_n hC dX5_openLanes_4 rfl ?_
          refine r_iconst hC dX5_openLanes_5 rfl ?_
          refine r_icmp_ge (tgt := 35) hC dX5_openLanes_6 rfl (fun h48 => ?_) (fun h48 => by omega)
          refine r_iload_n hC dX5_openLanes_35 rfl ?_
          refine y_iret hK rfl dX5_openLanes_36 ?_
          have e : cntO σ = 3 := by unfold cntO; omega
          rw [e] at k
          exact k
    · refine r_iconst hC dX5_openLanes_22 rfl ?_
      refine r_goto (tgt := 27) hC dX5_openLanes_23 rfl ?_
      refine r_iaddE hC (2) dX5_openLanes_27 (by omega) (by unfold inR; omega) ?_
      refine r_istore_n hC dX5_openLanes_28 rfl ?_
      refine r_iincE hC (2) dX5_openLanes_29 rfl rfl (by omega) (by unfold inR; omega) ?_
      refine r_goto (tgt := 4) hC dX5_openLanes_32 rfl ?_
      refine r_iload_n hC dX5_openLanes_4 rfl ?_
      refine r_iconst hC dX5_openLanes_5 rfl ?_
      refine r_icmp_ge (tgt := 35) hC dX5_openLanes_6 rfl (fun h49 => by omega) (fun h49 => ?_)
      refine r_iload_n hC dX5_openLanes_9 rfl ?_
      refine r_aload_n hC dX5_openLanes_10 rfl ?_
      refine z_getR hM dX5_openLanes_11 fl_RX5_13 rfl rfl (vld_of (n := 1) rfl (by omega) (by omega)) ?_
      refine r_iload_n hC dX5_openLanes_14 rfl ?_
      refine z_aald hM dX5_openLanes_15 rfl (by decide) (by omega) (by omega) (vld_of (n := 7) rfl (by omega) (by omega)) ?_
      refine z_getI (jz := 1) hM dX5_openLanes_16 fl_RX5_94 rfl rfl rfl (fun v50 h_v50 o_v50 t_v50 => ?_)
      have w_v50 := ((t_v50 (Or.inl (by simp [Tb]))).trans (rfl)).symm
      subst w_v50
      have q_v50 : 0 ≤ (σ 7 2 1) ∧ (σ 7 2 1) ≤ 1 := by have := o_v50.2.1 rfl; omega
      refine r_if_eq (tgt := 26) hC dX5_openLanes_19 rfl (fun h51 => ?_) (fun h51 => ?_)
      · refine r_iconst hC dX5_openLanes_26 rfl ?_
        refine r_iaddE hC (2) dX5_openLanes_27 (by omega) (by unfold inR; omega) ?_
        refine r_istore_n hC dX5_openLanes_28 rfl ?_
        refine r_iincE hC (3) dX5_openLanes_29 rfl rfl (by omega) (by unfold inR; omega) ?_
        refine r_goto (tgt := 4) hC dX5_openLanes_32 rfl ?_
        refine r_iload_n hC dX5_openLanes_4 rfl ?_
        refine r_iconst hC dX5_openLanes_5 rfl ?_
        refine r_icmp_ge (tgt := 35) hC dX5_openLanes_6 rfl (fun h52 => by omega) (fun h52 => ?_)
        refine r_iload_n hC dX5_openLanes_9 rfl ?_
        refine r_aload_n hC dX5_openLanes_10 rfl ?_
        refine z_getR hM dX5_openLanes_11 fl_RX5_13 rfl rfl (vld_of (n := 1) rfl (by omega) (by omega)) ?_
        refine r_iload_n hC dX5_openLanes_14 rfl ?_
        refine z_aald hM dX5_openLanes_15 rfl (by decide) (by omega) (by omega) (vld_of (n := 7) rfl (by omega) (by omega)) ?_
        refine z_getI (jz := 1) hM dX5_openLanes_16 fl_RX5_94 rfl rfl rfl (fun v53 h_v53 o_v53 t_v53 => ?_)
        have w_v53 := ((t_v53 (Or.inl (by simp [Tb]))).trans (rfl)).symm
        subst w_v53
        have q_v53 : 0 ≤ (σ 7 3 1) ∧ (σ 7 3 1) ≤ 1 := by have := o_v53.2.1 rfl; omega
        refine r_if_eq (tgt := 26) hC dX5_openLanes_19 rfl (fun h54 => ?_) (fun h54 => ?_)
        · refine r_iconst hC dX5_openLanes_26 rfl ?_
          refine r_iaddE hC (2) dX5_openLanes_27 (by omega) (by unfold inR; omega) ?_
          refine r_istore_n hC dX5_openLanes_28 rfl ?_
          refine r_iincE hC (4) dX5_openLanes_29 rfl rfl (by omega) (by unfold inR; omega) ?_
          refine r_goto (tgt := 4) hC dX5_openLanes_32 rfl ?_
          refine r_iload_n hC dX5_openLanes_4 rfl ?_
          refine r_iconst hC dX5_openLanes_5 rfl ?_
          refine r_icmp_ge (tgt := 35) hC dX5_openLanes_6 rfl (fun h55 => ?_) (fun h55 => by omega)
          refine r_iload_n hC dX5_openLanes_35 rfl ?_
          refine y_iret hK rfl dX5_openLanes_36 ?_
          have e : cntO σ = 2 := by unfold cntO; omega
          rw [e] at k
          exact k
        · refine r_iconst hC dX5_openLanes_22 rfl ?_
          refine r_goto (tgt := 27) hC dX5_openLanes_23 rfl ?_
          refine r_iaddE hC (3) dX5_openLanes_27 (by omega) (by unfold inR; omega) ?_
          refine r_istore_n hC dX5_openLanes_28 rfl ?_
          refine r_iincE hC (4) dX5_openLanes_29 rfl rfl (by omega) (by unfold inR; omega) ?_
          refine r_goto (tgt := 4) hC dX5_openLanes_32 rfl ?_
          refine r_iload_n hC dX5_openLanes_4 rfl ?_
          refine r_iconst hC dX5_openLanes_5 rfl ?_
          refine r_icmp_ge (tgt := 35) hC dX5_openLanes_6 rfl (fun h56 => ?_) (fun h56 => by omega)
          refine r_iload_n hC dX5_openLanes_35 rfl ?_
          refine y_iret hK rfl dX5_openLanes_36 ?_
          have e : cntO σ = 3 := by unfold cntO; omega
          rw [e] at k
          exact k
      · refine r_iconst hC dX5_openLanes_22 rfl ?_
        refine r_goto (tgt := 27) hC dX5_openLanes_23 rfl ?_
        refine r_iaddE hC (3) dX5_openLanes_27 (by omega) (by unfold inR; omega) ?_
        refine r_istore_n hC dX5_openLanes_28 rfl ?_
        refine r_iincE hC (3) dX5_openLanes_29 rfl rfl (by omega) (by unfold inR; omega) ?_
        refine r_goto (tgt := 4) hC dX5_openLanes_32 rfl ?_
        refine r_iload_n hC dX5_openLanes_4 rfl ?_
        refine r_iconst hC dX5_openLanes_5 rfl ?_
        refine r_icmp_ge (tgt := 35) hC dX5_openLanes_6 rfl (fun h57 => by omega) (fun h57 => ?_)
        refine r_iload_n hC dX5_openLanes_9 rfl ?_
        refine r_aload_n hC dX5_openLanes_10 rfl ?_
        refine z_getR hM dX5_openLanes_11 fl_RX5_13 rfl rfl (vld_of (n := 1) rfl (by omega) (by omega)) ?_
        refine r_iload_n hC dX5_openLanes_14 rfl ?_
        refine z_aald hM dX5_openLanes_15 rfl (by decide) (by omega) (by omega) (vld_of (n := 7) rfl (by omega) (by omega)) ?_
        refine z_getI (jz := 1) hM dX5_openLanes_16 fl_RX5_94 rfl rfl rfl (fun v58 h_v58 o_v58 t_v58 => ?_)
        have w_v58 := ((t_v58 (Or.inl (by simp [Tb]))).trans (rfl)).symm
        subst w_v58
        have q_v58 : 0 ≤ (σ 7 3 1) ∧ (σ 7 3 1) ≤ 1 := by have := o_v58.2.1 rfl; omega
        refine r_if_eq (tgt := 26) hC dX5_openLanes_19 rfl (fun h59 => ?_) (fun h59 => ?_)
        · refine r_iconst hC dX5_openLanes_26 rfl ?_
          refine r_iaddE hC (3) dX5_openLanes_27 (by omega) (by unfold inR; omega) ?_
          refine r_istore_n hC dX5_openLanes_28 rfl ?_
          refine r_iincE hC (4) dX5_openLanes_29 rfl rfl (by omega) (by unfold inR; omega) ?_
          refine r_goto (tgt := 4) hC dX5_openLanes_32 rfl ?_
          refine r_iload_n hC dX5_openLanes_4 rfl ?_
          refine r_iconst hC dX5_openLanes_5 rfl ?_
          refine r_icmp_ge (tgt := 35) hC dX5_openLanes_6 rfl (fun h60 => ?_) (fun h60 => by omega)
          refine r_iload_n hC dX5_openLanes_35 rfl ?_
          refine y_iret hK rfl dX5_openLanes_36 ?_
          have e : cntO σ = 3 := by unfold cntO; omega
          rw [e] at k
          exact k
        · refine r_iconst hC dX5_openLanes_22 rfl ?_
          refine r_goto (tgt := 27) hC dX5_openLanes_23 rfl ?_
          refine r_iaddE hC (4) dX5_openLanes_27 (by omega) (by unfold inR; omega) ?_
          refine r_istore_n hC dX5_openLanes_28 rfl ?_
          refine r_iincE hC (4) dX5_openLanes_29 rfl rfl (by omega) (by unfold inR; omega) ?_
          refine r_goto (tgt := 4) hC dX5_openLanes_32 rfl ?_
          refine r_iload_n hC dX5_openLanes_4 rfl ?_
          refine r_iconst hC dX5_openLanes_5 rfl ?_
          refine r_icmp_ge (tgt := 35) hC dX5_openLanes_6 rfl (fun h61 => ?_) (fun h61 => by omega)
          refine r_iload_n hC dX5_openLanes_35 rfl ?_
          refine y_iret hK rfl dX5_openLanes_36 ?_
          have e : cntO σ = 4 := by unfold cntO; omega
          rw [e] at k
          exact k
theorem x_isSize {e : Ev} {d : Nat} {P : Option Vl → Mm → Prop} {σ : Mm} {b z : Int}   (k1 : (b = 0 ∨ (b = 1 ∧ 1 ≤ z ∧ z ≤ 120) ∨ (b = 2 ∧ 1 ≤ z ∧ z ≤ 10000)) → P (some (vI 1)) σ) (k0 : ¬ (b = 0 ∨ (b = 1 ∧ 1 ≤ z ∧ z ≤ 120) ∨ (b = 2 ∧ 1 ≤ z ∧ z ≤ 10000)) → P (some (vI 0)) σ) : WT e (d + 2) 59 [vI b, vI z] σ P := by
  refine WT_in fun K hK => ?_
  have hK : StpY e cX5_isSize RX5 (some .boolean) (WT e (d + 1)) P K := hK
  have hM := hK.1
  have hC := hK.1.1
  show K 0 [some (vI b), some (vI z)] [] σ
  refine r_rngz hC (fun g0 => ?_)
  have r_b : -2147483648 ≤ b ∧ b ≤ 2147483647 := inR_le (g0 (vI b) (by simp))
  have r_z : -2147483648 ≤ z ∧ z ≤ 2147483647 := inR_le (g0 (vI z) (by simp))
  refine r_iload_n hC dX5_isSize_0 rfl ?_
  rcases (by omega : (b < 0 ∨ 2 < b) ∨ b = 0 ∨ b = 1 ∨ b = 2) with h1 | h1 | h1 | h1
  · refine r_tableOut (tgt := 47) hC dX5_isSize_1 h1 rfl ?_
    refine r_iconst hC dX5_isSize_47 rfl ?_
    refine y_zret hK rfl dX5_isSize_48 (by omega) ?_
    exact k0 (by omega)
  · refine r_tableIn (tgt := 28) (off := 27) hC dX5_isSize_1 (by omega) (by omega) (by rw [h1]; rfl) rfl ?_
    refine r_iconst hC dX5_isSize_28 rfl ?_
    refine y_zret hK rfl dX5_isSize_29 (by omega) ?_
    exact k1 (by omega)
  · refine r_tableIn (tgt := 30) (off := 29) hC dX5_isSize_1 (by omega) (by omega) (by rw [h1]; rfl) rfl ?_
    refine r_iload_n hC dX5_isSize_30 rfl ?_
    refine r_iconst hC dX5_isSize_31 rfl ?_
    refine r_bipush hC dX5_isSize_32 rfl ?_
    refine z_ins3 hM dX5_isSize_34 tl_RX5_59 rfl (Nat.le_of_ble_eq_true rfl) (Nat.le_of_ble_eq_true rfl) ?_
    refine s_within (fun h3 => ?_) (fun h3 => ?_)
    · refine y_zret hK rfl dX5_isSize_37 (by omega) ?_
      exact k1 (by omega)
    · refine y_zret hK rfl dX5_isSize_37 (by omega) ?_
      exact k0 (by omega)
  · refine r_tableIn (tgt := 38) (off := 37) hC dX5_isSize_1 (by omega) (by omega) (by rw [h1]; rfl) rfl ?_
    refine r_iload_n hC dX5_isSize_38 rfl ?_
    refine r_iconst hC dX5_isSize_39 rfl ?_
    refine r_sipush hC dX5_isSize_40 rfl ?_
    refine z_ins3 hM dX5_isSize_43 tl_RX5_59 rfl (Nat.le_of_ble_eq_true rfl) (Nat.le_of_ble_eq_true rfl) ?_
    refine s_within (fun h5 => ?_) (fun h5 => ?_)
    · refine y_zret hK rfl dX5_isSize_46 (by omega) ?_
      exact k1 (by omega)
    · refine y_zret hK rfl dX5_isSize_46 (by omega) ?_
      exact k0 (by omega)
theorem x_open {ec : Bool} {d : Nat} {P : Option Vl → Mm → Prop} {σ : Mm} {l o b z y : Int}   (k : P (some (vI (onR σ l o b z y))) (onM σ l o b z y)) : WT (true, false, ec) (d + 4) 58 [vR 2 0, vI l, vI o, vI b, vI z, vI y] σ P := by
  refine WT_in fun K hK => ?_
  have hK : StpY (true, false, ec) cX5_open RX5 (some .int) (WT (true, false, ec) (d + 3)) P K := hK
  have hM := hK.1
  have hC := hK.1.1
  show K 0 [some (vR 2 0), some (vI l), some (vI o), some (vI b), some (vI z), some (vI y)] [] σ
  refine r_rngz hC (fun g0 => ?_)
  have r_l : -2147483648 ≤ l ∧ l ≤ 2147483647 := inR_le (g0 (vI l) (by simp))
  have r_o : -2147483648 ≤ o ∧ o ≤ 2147483647 := inR_le (g0 (vI o) (by simp))
  have r_b : -2147483648 ≤ b ∧ b ≤ 2147483647 := inR_le (g0 (vI b) (by simp))
  have r_z : -2147483648 ≤ z ∧ z ≤ 2147483647 := inR_le (g0 (vI z) (by simp))
  have r_y : -2147483648 ≤ y ∧ y ≤ 2147483647 := inR_le (g0 (vI y) (by simp))
  refine r_iload_n hC dX5_open_0 rfl ?_
  refine z_ins1 hM dX5_open_1 tl_RX5_102 rfl (Nat.le_of_ble_eq_true rfl) (Nat.le_of_ble_eq_true rfl) ?_
  refine s_isLane (fun h2 => ?_) (fun h2 => ?_)
  · refine r_if_eq (tgt := 38) hC dX5_open_4 rfl (fun h3 => by omega) (fun h3 => ?_)
    refine r_iload_n hC dX5_open_7 rfl ?_
    refine r_iconst hC dX5_open_8 rfl ?_
    refine r_bipush hC dX5_open_9 rfl ?_
    refine z_ins3 hM dX5_open_11 tl_RX5_59 rfl (Nat.le_of_ble_eq_true rfl) (Nat.le_of_ble_eq_true rfl) ?_
    refine s_within (fun h5 => ?_) (fun h5 => ?_)
    · refine r_if_eq (tgt := 38) hC dX5_open_14 rfl (fun h6 => by omega) (fun h6 => ?_)
      refine r_iload hC dX5_open_17 rfl ?_
      refine r_iconst hC dX5_open_19 rfl ?_
      refine r_sipush hC dX5_open_20 rfl ?_
      refine z_ins3 hM dX5_open_23 tl_RX5_59 rfl (Nat.le_of_ble_eq_true rfl) (Nat.le_of_ble_eq_true rfl) ?_
      refine s_within (fun h8 => ?_) (fun h8 => ?_)
      · refine r_if_eq (tgt := 38) hC dX5_open_26 rfl (fun h9 => by omega) (fun h9 => ?_)
        refine r_iload_n hC dX5_open_29 rfl ?_
        refine r_iload hC dX5_open_30 rfl ?_
        refine z_ins2 hM dX5_open_32 tl_RX5_105 rfl (Nat.le_of_ble_eq_true rfl) (Nat.le_of_ble_eq_true rfl) ?_
        refine x_isSize (fun h10 => ?_) (fun h10 => ?_)
        · refine r_if_ne (tgt := 40) hC dX5_open_35 rfl (fun h11 => ?_) (fun h11 => by omega)
          refine r_iload_n hC dX5_open_40 rfl ?_
          refine r_bipush hC dX5_open_41 rfl ?_
          refine r_icmp_ne (tgt := 58) hC dX5_open_43 rfl (fun h12 => ?_) (fun h12 => ?_)
          · refine r_aload_n hC dX5_open_58 rfl ?_
            refine z_getR hM dX5_open_59 fl_RX5_13 rfl rfl (vld_of (n := 1) rfl (by omega) (by omega)) ?_
            refine r_iload_n hC dX5_open_62 rfl ?_
            refine z_aald hM dX5_open_63 rfl (by decide) (by omega) (by omega) (vld_of (n := 7) rfl (by omega) (by omega)) ?_
            refine r_iload_n hC dX5_open_64 rfl ?_
            refine r_iload_n hC dX5_open_65 rfl ?_
            refine r_iload_n hC dX5_open_66 rfl ?_
            refine r_if_ne (tgt := 74) hC dX5_open_67 rfl (fun h13 => ?_) (fun h13 => ?_)
            · refine r_iload hC dX5_open_74 rfl ?_
              refine r_iload hC dX5_open_76 rfl ?_
              refine z_inv4 hM dX5_open_78 vl_RX5_113 rfl rfl rfl (Nat.le_of_ble_eq_true rfl) (Nat.le_of_ble_eq_true rfl) ?_
              refine x_begin_L (by omega) (by omega) ?_
              refine r_aload_n hC dX5_open_81 rfl ?_
              refine r_iload_n hC dX5_open_82 rfl ?_
              refine z_inv1 hM dX5_open_83 vl_RX5_117 rfl rfl rfl (Nat.le_of_ble_eq_true rfl) (Nat.le_of_ble_eq_true rfl) ?_
              refine x_endTies (by omega) ?_
              refine r_aload_n hC dX5_open_86 rfl ?_
              refine z_inv0 hM dX5_open_87 vl_RX5_120 rfl rfl rfl (Nat.le_of_ble_eq_true rfl) (Nat.le_of_ble_eq_true rfl) ?_
              refine x_openLanes ?_
              refine y_iret hK rfl dX5_open_90 ?_
              have hM : onM σ l o b z y = (etM (bgM σ l o b z y) l) := by
                unfold onM
                first | (rw [if_pos (by omega), if_pos (by omega)]; done) | (rw [if_pos (by omega), if_neg (by omega)]; done)
              rw [hM] at k
              have hR : onR σ l o b z y = (cntO (etM (bgM σ l o b z y) l)) := by
                unfold onR
                rw [if_pos (by omega), hM]
              rw [hR] at k
              exact k
            · refine r_iconst hC dX5_open_70 rfl ?_
              refine r_goto (tgt := 76) hC dX5_open_71 rfl ?_
              refine r_iload hC dX5_open_76 rfl ?_
              refine z_inv4 hM dX5_open_78 vl_RX5_113 rfl rfl rfl (Nat.le_of_ble_eq_true rfl) (Nat.le_of_ble_eq_true rfl) ?_
              refine x_begin_L (by omega) (by omega) ?_
              refine r_aload_n hC dX5_open_81 rfl ?_
              refine r_iload_n hC dX5_open_82 rfl ?_
              refine z_inv1 hM dX5_open_83 vl_RX5_117 rfl rfl rfl (Nat.le_of_ble_eq_true rfl) (Nat.le_of_ble_eq_true rfl) ?_
              refine x_endTies (by omega) ?_
              refine r_aload_n hC dX5_open_86 rfl ?_
              refine z_inv0 hM dX5_open_87 vl_RX5_120 rfl rfl rfl (Nat.le_of_ble_eq_true rfl) (Nat.le_of_ble_eq_true rfl) ?_
              refine x_openLanes ?_
              refine y_iret hK rfl dX5_open_90 ?_
              have hM : onM σ l o b z y = (etM (bgM σ l o b 0 y) l) := by
                unfold onM
                first | (rw [if_pos (by omega), if_pos (by omega)]; done) | (rw [if_pos (by omega), if_neg (by omega)]; done)
              rw [hM] at k
              have hR : onR σ l o b z y = (cntO (etM (bgM σ l o b 0 y) l)) := by
                unfold onR
                rw [if_pos (by omega), hM]
              rw [hR] at k
              exact k
          · refine r_aload_n hC dX5_open_46 rfl ?_
            refine r_iconst hC dX5_open_47 rfl ?_
            refine z_inv1 hM dX5_open_48 vl_RX5_109 rfl rfl rfl (Nat.le_of_ble_eq_true rfl) (Nat.le_of_ble_eq_true rfl) ?_
            refine s_tripleX ?_
            refine r_bipush hC dX5_open_51 rfl ?_
            refine r_icmp_eq (tgt := 58) hC dX5_open_53 rfl (fun h14 => ?_) (fun h14 => ?_)
            · refine r_aload_n hC dX5_open_58 rfl ?_
              refine z_getR hM dX5_open_59 fl_RX5_13 rfl rfl (vld_of (n := 1) rfl (by omega) (by omega)) ?_
              refine r_iload_n hC dX5_open_62 rfl ?_
              refine z_aald hM dX5_open_63 rfl (by decide) (by omega) (by omega) (vld_of (n := 7) rfl (by omega) (by omega)) ?_
              refine r_iload_n hC dX5_open_64 rfl ?_
              refine r_iload_n hC dX5_open_65 rfl ?_
              refine r_iload_n hC dX5_open_66 rfl ?_
              refine r_if_ne (tgt := 74) hC dX5_open_67 rfl (fun h15 => ?_) (fun h15 => ?_)
              · refine r_iload hC dX5_open_74 rfl ?_
                refine r_iload hC dX5_open_76 rfl ?_
                refine z_inv4 hM dX5_open_78 vl_RX5_113 rfl rfl rfl (Nat.le_of_ble_eq_true rfl) (Nat.le_of_ble_eq_true rfl) ?_
                refine x_begin_L (by omega) (by omega) ?_
                refine r_aload_n hC dX5_open_81 rfl ?_
                refine r_iload_n hC dX5_open_82 rfl ?_
                refine z_inv1 hM dX5_open_83 vl_RX5_117 rfl rfl rfl (Nat.le_of_ble_eq_true rfl) (Nat.le_of_ble_eq_true rfl) ?_
                refine x_endTies (by omega) ?_
                refine r_aload_n hC dX5_open_86 rfl ?_
                refine z_inv0 hM dX5_open_87 vl_RX5_120 rfl rfl rfl (Nat.le_of_ble_eq_true rfl) (Nat.le_of_ble_eq_true rfl) ?_
                refine x_openLanes ?_
                refine y_iret hK rfl dX5_open_90 ?_
                have hM : onM σ l o b z y = (etM (bgM σ l o b z y) l) := by
                  unfold onM
                  first | (rw [if_pos (by omega), if_pos (by omega)]; done) | (rw [if_pos (by omega), if_neg (by omega)]; done)
                rw [hM] at k
                have hR : onR σ l o b z y = (cntO (etM (bgM σ l o b z y) l)) := by
                  unfold onR
                  rw [if_pos (by omega), hM]
                rw [hR] at k
                exact k
              · refine r_iconst hC dX5_open_70 rfl ?_
                refine r_goto (tgt := 76) hC dX5_open_71 rfl ?_
                refine r_iload hC dX5_open_76 rfl ?_
                refine z_inv4 hM dX5_open_78 vl_RX5_113 rfl rfl rfl (Nat.le_of_ble_eq_true rfl) (Nat.le_of_ble_eq_true rfl) ?_
                refine x_begin_L (by omega) (by omega) ?_
                refine r_aload_n hC dX5_open_81 rfl ?_
                refine r_iload_n hC dX5_open_82 rfl ?_
                refine z_inv1 hM dX5_open_83 vl_RX5_117 rfl rfl rfl (Nat.le_of_ble_eq_true rfl) (Nat.le_of_ble_eq_true rfl) ?_
                refine x_endTies (by omega) ?_
                refine r_aload_n hC dX5_open_86 rfl ?_
                refine z_inv0 hM dX5_open_87 vl_RX5_120 rfl rfl rfl (Nat.le_of_ble_eq_true rfl) (Nat.le_of_ble_eq_true rfl) ?_
                refine x_openLanes ?_
                refine y_iret hK rfl dX5_open_90 ?_
                have hM : onM σ l o b z y = (etM (bgM σ l o b 0 y) l) := by
                  unfold onM
                  first | (rw [if_pos (by omega), if_pos (by omega)]; done) | (rw [if_pos (by omega), if_neg (by omega)]; done)
                rw [hM] at k
                have hR : onR σ l o b z y = (cntO (etM (bgM σ l o b 0 y) l)) := by
                  unfold onR
                  rw [if_pos (by omega), hM]
                rw [hR] at k
                exact k
            · refine r_iconst hC dX5_open_56 rfl ?_
              refine y_iret hK rfl dX5_open_57 ?_
              have hM : onM σ l o b z y = σ := by
                exact if_neg (by omega)
              rw [hM] at k
              have hR : onR σ l o b z y = (-1) := by
                exact if_neg (by omega)
              rw [hR] at k
              exact k
        · refine r_if_ne (tgt := 40) hC dX5_open_35 rfl (fun h16 => by omega) (fun h16 => ?_)
          refine r_iconst hC dX5_open_38 rfl ?_
          refine y_iret hK rfl dX5_open_39 ?_
          have hM : onM σ l o b z y = σ := by
            exact if_neg (by omega)
          rw [hM] at k
          have hR : onR σ l o b z y = (-1) := by
            exact if_neg (by omega)
          rw [hR] at k
          exact k
      · refine r_if_eq (tgt := 38) hC dX5_open_26 rfl (fun h17 => ?_) (fun h17 => by omega)
        refine r_iconst hC dX5_open_38 rfl ?_
        refine y_iret hK rfl dX5_open_39 ?_
        have hM : onM σ l o b z y = σ := by
          exact if_neg (by omega)
        rw [hM] at k
        have hR : onR σ l o b z y = (-1) := by
          exact if_neg (by omega)
        rw [hR] at k
        exact k
    · refine r_if_eq (tgt := 38) hC dX5_open_14 rfl (fun h18 => ?_) (fun h18 => by omega)
      refine r_iconst hC dX5_open_38 rfl ?_
      refine y_iret hK rfl dX5_open_39 ?_
      have hM : onM σ l o b z y = σ := by
        exact if_neg (by omega)
      rw [hM] at k
      have hR : onR σ l o b z y = (-1) := by
        exact if_neg (by omega)
      rw [hR] at k
      exact k
  · refine r_if_eq (tgt := 38) hC dX5_open_4 rfl (fun h19 => ?_) (fun h19 => by omega)
    refine r_iconst hC dX5_open_38 rfl ?_
    refine y_iret hK rfl dX5_open_39 ?_
    have hM : onM σ l o b z y = σ := by
      exact if_neg (by omega)
    rw [hM] at k
    have hR : onR σ l o b z y = (-1) := by
      exact if_neg (by omega)
    rw [hR] at k
    exact k
theorem x_shut {ec : Bool} {d : Nat} {P : Option Vl → Mm → Prop} {σ : Mm} {l : Int}   (k : P (some (vI (shR σ l))) (shM σ l)) : WT (true, false, ec) (d + 4) 60 [vR 2 0, vI l] σ P := by
  refine WT_in fun K hK => ?_
  have hK : StpY (true, false, ec) cX5_shut RX5 (some .boolean) (WT (true, false, ec) (d + 3)) P K := hK
  have hM := hK.1
  have hC := hK.1.1
  show K 0 [some (vR 2 0), some (vI l), none] [] σ
  refine r_rngz hC (fun g0 => ?_)
  have r_l : -2147483648 ≤ l ∧ l ≤ 2147483647 := inR_le (g0 (vI l) (by simp))
  refine r_aload_n hC dX5_shut_0 rfl ?_
  refine r_iload_n hC dX5_shut_1 rfl ?_
  refine z_inv1 hM dX5_shut_2 vl_RX5_123 rfl rfl rfl (Nat.le_of_ble_eq_true rfl) (Nat.le_of_ble_eq_true rfl) ?_
  refine x_openLane (fun h1 => ?_) (fun h1 => ?_)
  · -- h1
    refine r_astore_n hC dX5_shut_5 rfl ?_
    refine r_aload_n hC dX5_shut_6 rfl ?_
    refine r_ifnonnullR (tgt := 12) hC dX5_shut_7 rfl ?_
    refine r_aload_n hC dX5_shut_12 rfl ?_
    refine r_iconst hC dX5_shut_13 rfl ?_
    refine z_putZT (jz := 1) hM dX5_shut_14 fw_RX5_94 rfl rfl rfl (by omega) ⟨Or.inr (by simp [DL]), Or.inr (by simp [DF])⟩ (by first | trivial | (simp only [Okv]; omega) | (simp [Okv]; try omega)) ?_
    refine r_aload_n hC dX5_shut_17 rfl ?_
    refine r_iload_n hC dX5_shut_18 rfl ?_
    refine z_inv1 hM dX5_shut_19 vl_RX5_117 rfl rfl rfl (Nat.le_of_ble_eq_true rfl) (Nat.le_of_ble_eq_true rfl) ?_
    refine x_endTies (by omega) ?_
    refine r_iconst hC dX5_shut_22 rfl ?_
    refine y_zret hK rfl dX5_shut_23 (by omega) ?_
    have hM : shM σ l = (etM (mu σ 7 l 1 0) l) := by
      exact if_pos (by omega)
    rw [hM] at k
    have hR : shR σ l = 1 := by
      exact if_pos (by omega)
    rw [hR] at k
    exact k
  · -- h1
    refine r_astoreN_n hC dX5_shut_5 rfl ?_
    refine r_aloadN_n hC dX5_shut_6 rfl ?_
    refine r_ifnonnullN hC dX5_shut_7 ?_
    refine r_iconst hC dX5_shut_10 rfl ?_
    refine y_zret hK rfl dX5_shut_11 (by omega) ?_
    have hM : shM σ l = σ := by
      exact if_neg (by omega)
    rw [hM] at k
    have hR : shR σ l = 0 := by
      exact if_neg (by omega)
    rw [hR] at k
    exact k
-- B: the class: LINKS, BOXES
theorem r7_cp {f g : Int → Int} {t : Int} : r7 (f 0) (f 1) (f 2) (f 3) (f 4) (f 5) (f 6) g t = if 0 ≤ t ∧ t ≤ 6 then f t else g t := by
  unfold r7
  by_cases h : 0 ≤ t ∧ t ≤ 6
  · rw [if_pos h]
    rcases (by omega : t = 0 ∨ t = 1 ∨ t = 2 ∨ t = 3 ∨ t = 4 ∨ t = 5 ∨ t = 6) with rfl | rfl | rfl | rfl | rfl | rfl | rfl
    · rfl
    · rfl
    · rfl
    · rfl
    · rfl
    · rfl
    · rfl
  · rw [if_neg h, if_neg (by omega), if_neg (by omega), if_neg (by omega), if_neg (by omega), if_neg (by omega), if_neg (by omega), if_neg (by omega)]
theorem cpM_ne {V : Mm} {a b x y : Int} {c : Nat} (h : x ≠ b) : cpM V a b c x y = V c x y := if_neg h
theorem fun0 {f : Int → Int} : (fun j => f (0 + j)) = f := by
  funext j
  rw [Int.zero_add]
/-- the fold's places are not seen at the loose sight -/
abbrev Fo (c : Nat) : Prop := c = 14 ∨ c = 17 ∨ c = 18 ∨ c = 21 ∨ c = 22
def ov (F σ : Mm) : Mm := fun c x y => if Fo c then F c x y else σ c x y
theorem ov_ne {F σ : Mm} {c : Nat} (h : ¬ Fo c) : ov F σ c = σ c := by
  funext x y
  exact if_neg h
theorem DF_k {c : Nat} {j : Int} (h : DF c j) : c = 14 ∨ c = 17 := by
  unfold DF at h
  split at h
  · exact Or.inl rfl
  · exact Or.inr rfl
  · exact h.elim
theorem DX_k {e : Ev} {c : Nat} {j : Int} (h : DX e c j) : Fo c := by
  unfold DX at h
  split at h
  · exact Or.inl rfl
  · exact Or.inr (Or.inl rfl)
  · exact Or.inr (Or.inr (Or.inl rfl))
  · exact Or.inr (Or.inr (Or.inr (Or.inl rfl)))
  · exact Or.inr (Or.inr (Or.inr (Or.inr rfl)))
  · exact h.elim
theorem Tk_fo {eb : Bool} {c : Nat} {j : Int} (h : Tk (true, false, eb) c j) : ¬ Fo c := by
  rintro (rfl | rfl | rfl | rfl | rfl)
  all_goals
    rcases h with q | q | q | q
    · exact q
    · exact q.2
    · cases q.1
    · exact q.2
theorem WT_fold {eb : Bool} {d M : Nat} {as : List Vl} {σ : Mm} {P : Option Vl → Mm → Prop} (h : ∀ ρ : Mm, (∀ c : Nat, ¬ Fo c → ρ c = σ c) → InF ρ → WT (true, true, eb) d M as ρ (fun r ρ2 => InF ρ2 ∧ ∃ σ2 : Mm, P r σ2 ∧ ∀ (c : Nat) (x y : Int), ¬ Fo c → ρ2 c x y = σ2 c x y)) : WT (true, false, eb) d M as σ P := by
  intro τ hA
  have hI : InF (ov τ σ) := by
    have q := hA.2.2.2 rfl
    exact q.to fun c i j hD => if_pos (by rcases DF_k hD with z | z; exact Or.inl z; exact Or.inr (Or.inl z))
  have hT : ∀ (c : Nat) (i j : Int), Tk (true, true, eb) c j → τ c i j = ov τ σ c i j := fun c i j q => by
    unfold ov
    split
    · rfl
    · rename_i hc
      refine hA.1 c i j ?_
      rcases q with q | q | q | q
      · exact Or.inl q
      · exact Or.inr (Or.inl q)
      · exfalso
        rcases q.2 with w | w
        · rcases DF_k w with z | z
          · exact hc (Or.inl z)
          · exact hc (Or.inr (Or.inl z))
        · exact hc (DX_k w)
      · exact Or.inr (Or.inr (Or.inr q))
  refine WP.mono (fun r τ2 hp => ?_) _ _ _ _ (h (ov τ σ) (fun c hc => ov_ne hc) hI τ ⟨hT, hA.2.1, hA.2.2.1, fun q => by cases q⟩)
  obtain ⟨ρ2, ⟨g1, σ2, g2, g3⟩, g5⟩ := hp
  refine ⟨σ2, g2, ?_, g5.2.1, g5.2.2.1, fun _ => ?_⟩
  · intro c i j q
    have hc : ¬ Fo c := Tk_fo q
    refine (g5.1 c i j ?_).trans (g3 c i j hc)
    rcases q with q | q | q | q
    · exact Or.inl q
    · exact Or.inr (Or.inl q)
    · cases q.1
    · exact Or.inr (Or.inr (Or.inr q))
  · exact g1.to fun c i j hD => g5.1 c i j (Or.inr (Or.inr (Or.inl ⟨rfl, Or.inl hD⟩)))
theorem cpM_eq {V : Mm} {i j : Int} (hij : i ≠ j) : cpM V j i = (su (mu (mu (mu (mu (mu (cpy (cpy (cpy (mu (mu (mu (mu (mu (mu (mu V 7 i 0 (V 7 j 0)) 7 i 1 (V 7 j 1)) 7 i 2 (V 7 j 2)) 7 i 3 (V 7 j 3)) 7 i 4 (V 7 j 4)) 7 i 5 (V 7 j 5)) 7 i 6 (V 7 j 6)) 8 j 0 8 i 0 (V 7 j 6)) 9 j 0 9 i 0 (V 7 j 6)) 10 j 0 10 i 0 (V 7 j 6)) 7 i 10 (V 7 j 10)) 7 i 12 (V 7 j 12)) 7 i 13 (V 7 j 13)) 7 i 14 (V 7 j 14)) 7 i 15 (V 7 j 15)) 11 i (r7 ((mu (mu (mu (mu (mu (cpy (cpy (cpy (mu (mu (mu (mu (mu (mu (mu V 7 i 0 (V 7 j 0)) 7 i 1 (V 7 j 1)) 7 i 2 (V 7 j 2)) 7 i 3 (V 7 j 3)) 7 i 4 (V 7 j 4)) 7 i 5 (V 7 j 5)) 7 i 6 (V 7 j 6)) 8 j 0 8 i 0 (V 7 j 6)) 9 j 0 9 i 0 (V 7 j 6)) 10 j 0 10 i 0 (V 7 j 6)) 7 i 10 (V 7 j 10)) 7 i 12 (V 7 j 12)) 7 i 13 (V 7 j 13)) 7 i 14 (V 7 j 14)) 7 i 15 (V 7 j 15)) 11 j 0) ((mu (mu (mu (mu (mu (cpy (cpy (cpy (mu (mu (mu (mu (mu (mu (mu V 7 i 0 (V 7 j 0)) 7 i 1 (V 7 j 1)) 7 i 2 (V 7 j 2)) 7 i 3 (V 7 j 3)) 7 i 4 (V 7 j 4)) 7 i 5 (V 7 j 5)) 7 i 6 (V 7 j 6)) 8 j 0 8 i 0 (V 7 j 6)) 9 j 0 9 i 0 (V 7 j 6)) 10 j 0 10 i 0 (V 7 j 6)) 7 i 10 (V 7 j 10)) 7 i 12 (V 7 j 12)) 7 i 13 (V 7 j 13)) 7 i 14 (V 7 j 14)) 7 i 15 (V 7 j 15)) 11 j 1) ((mu (mu (mu (mu (mu (cpy (cpy (cpy (mu (mu (mu (mu (mu (mu (mu V 7 i 0 (V 7 j 0)) 7 i 1 (V 7 j 1)) 7 i 2 (V 7 j 2)) 7 i 3 (V 7 j 3)) 7 i 4 (V 7 j 4)) 7 i 5 (V 7 j 5)) 7 i 6 (V 7 j 6)) 8 j 0 8 i 0 (V 7 j 6)) 9 j 0 9 i 0 (V 7 j 6)) 10 j 0 10 i 0 (V 7 j 6)) 7 i 10 (V 7 j 10)) 7 i 12 (V 7 j 12)) 7 i 13 (V 7 j 13)) 7 i 14 (V 7 j 14)) 7 i 15 (V 7 j 15)) 11 j 2) ((mu (mu (mu (mu (mu (cpy (cpy (cpy (mu (mu (mu (mu (mu (mu (mu V 7 i 0 (V 7 j 0)) 7 i 1 (V 7 j 1)) 7 i 2 (V 7 j 2)) 7 i 3 (V 7 j 3)) 7 i 4 (V 7 j 4)) 7 i 5 (V 7 j 5)) 7 i 6 (V 7 j 6)) 8 j 0 8 i 0 (V 7 j 6)) 9 j 0 9 i 0 (V 7 j 6)) 10 j 0 10 i 0 (V 7 j 6)) 7 i 10 (V 7 j 10)) 7 i 12 (V 7 j 12)) 7 i 13 (V 7 j 13)) 7 i 14 (V 7 j 14)) 7 i 15 (V 7 j 15)) 11 j 3) ((mu (mu (mu (mu (mu (cpy (cpy (cpy (mu (mu (mu (mu (mu (mu (mu V 7 i 0 (V 7 j 0)) 7 i 1 (V 7 j 1)) 7 i 2 (V 7 j 2)) 7 i 3 (V 7 j 3)) 7 i 4 (V 7 j 4)) 7 i 5 (V 7 j 5)) 7 i 6 (V 7 j 6)) 8 j 0 8 i 0 (V 7 j 6)) 9 j 0 9 i 0 (V 7 j 6)) 10 j 0 10 i 0 (V 7 j 6)) 7 i 10 (V 7 j 10)) 7 i 12 (V 7 j 12)) 7 i 13 (V 7 j 13)) 7 i 14 (V 7 j 14)) 7 i 15 (V 7 j 15)) 11 j 4) ((mu (mu (mu (mu (mu (cpy (cpy (cpy (mu (mu (mu (mu (mu (mu (mu V 7 i 0 (V 7 j 0)) 7 i 1 (V 7 j 1)) 7 i 2 (V 7 j 2)) 7 i 3 (V 7 j 3)) 7 i 4 (V 7 j 4)) 7 i 5 (V 7 j 5)) 7 i 6 (V 7 j 6)) 8 j 0 8 i 0 (V 7 j 6)) 9 j 0 9 i 0 (V 7 j 6)) 10 j 0 10 i 0 (V 7 j 6)) 7 i 10 (V 7 j 10)) 7 i 12 (V 7 j 12)) 7 i 13 (V 7 j 13)) 7 i 14 (V 7 j 14)) 7 i 15 (V 7 j 15)) 11 j 5) ((mu (mu (mu (mu (mu (cpy (cpy (cpy (mu (mu (mu (mu (mu (mu (mu V 7 i 0 (V 7 j 0)) 7 i 1 (V 7 j 1)) 7 i 2 (V 7 j 2)) 7 i 3 (V 7 j 3)) 7 i 4 (V 7 j 4)) 7 i 5 (V 7 j 5)) 7 i 6 (V 7 j 6)) 8 j 0 8 i 0 (V 7 j 6)) 9 j 0 9 i 0 (V 7 j 6)) 10 j 0 10 i 0 (V 7 j 6)) 7 i 10 (V 7 j 10)) 7 i 12 (V 7 j 12)) 7 i 13 (V 7 j 13)) 7 i 14 (V 7 j 14)) 7 i 15 (V 7 j 15)) 11 j 6) ((mu (mu (mu (mu (mu (cpy (cpy (cpy (mu (mu (mu (mu (mu (mu (mu V 7 i 0 (V 7 j 0)) 7 i 1 (V 7 j 1)) 7 i 2 (V 7 j 2)) 7 i 3 (V 7 j 3)) 7 i 4 (V 7 j 4)) 7 i 5 (V 7 j 5)) 7 i 6 (V 7 j 6)) 8 j 0 8 i 0 (V 7 j 6)) 9 j 0 9 i 0 (V 7 j 6)) 10 j 0 10 i 0 (V 7 j 6)) 7 i 10 (V 7 j 10)) 7 i 12 (V 7 j 12)) 7 i 13 (V 7 j 13)) 7 i 14 (V 7 j 14)) 7 i 15 (V 7 j 15)) 11 i))) := by
  funext c x t
  by_cases hx : i = x
  · subst hx
    unfold cpM
    rw [if_pos rfl]
    by_cases c7 : c = 7
    · subst c7
      rw [if_pos rfl]
      by_cases t0 : t = 0
      · subst t0
        rw [su_ne (by omega), mu_ne (by omega), mu_ne (by omega), mu_ne (by omega), mu_ne (by omega), mu_ne (by omega), cpy_ne (by omega), cpy_ne (by omega), cpy_ne (by omega), mu_ne (by omega), mu_ne (by omega), mu_ne (by omega), mu_ne (by omega), mu_ne (by omega), mu_ne (by omega), mu_self]
        first | rfl | (exact if_pos (by omega))
      by_cases t1 : t = 1
      · subst t1
        rw [su_ne (by omega), mu_ne (by omega), mu_ne (by omega), mu_ne (by omega), mu_ne (by omega), mu_ne (by omega), cpy_ne (by omega), cpy_ne (by omega), cpy_ne (by omega), mu_ne (by omega), mu_ne (by omega), mu_ne (by omega), mu_ne (by omega), mu_ne (by omega), mu_self]
        first | rfl | (exact if_pos (by omega))
      by_cases t2 : t = 2
      · subst t2
        rw [su_ne (by omega), mu_ne (by omega), mu_ne (by omega), mu_ne (by omega), mu_ne (by omega), mu_ne (by omega), cpy_ne (by omega), cpy_ne (by omega), cpy_ne (by omega), mu_ne (by omega), mu_ne (by omega), mu_ne (by omega), mu_ne (by omega), mu_self]
        first | rfl | (exact if_pos (by omega))
      by_cases t3 : t = 3
      · subst t3
        rw [su_ne (by omega), mu_ne (by omega), mu_ne (by omega), mu_ne (by omega), mu_ne (by omega), mu_ne (by omega), cpy_ne (by omega), cpy_ne (by omega), cpy_ne (by omega), mu_ne (by omega), mu_ne (by omega), mu_ne (by omega), mu_self]
        first | rfl | (exact if_pos (by omega))
      by_cases t4 : t = 4
      · subst t4
        rw [su_ne (by omega), mu_ne (by omega), mu_ne (by omega), mu_ne (by omega), mu_ne (by omega), mu_ne (by omega), cpy_ne (by omega), cpy_ne (by omega), cpy_ne (by omega), mu_ne (by omega), mu_ne (by omega), mu_self]
        first | rfl | (exact if_pos (by omega))
      by_cases t5 : t = 5
      · subst t5
        rw [su_ne (by omega), mu_ne (by omega), mu_ne (by omega), mu_ne (by omega), mu_ne (by omega), mu_ne (by omega), cpy_ne (by omega), cpy_ne (by omega), cpy_ne (by omega), mu_ne (by omega), mu_self]
        first | rfl | (exact if_pos (by omega))
      by_cases t6 : t = 6
      · subst t6
        rw [su_ne (by omega), mu_ne (by omega), mu_ne (by omega), mu_ne (by omega), mu_ne (by omega), mu_ne (by omega), cpy_ne (by omega), cpy_ne (by omega), cpy_ne (by omega), mu_self]
        first | rfl | (exact if_pos (by omega))
      by_cases t10 : t = 10
      · subst t10
        rw [su_ne (by omega), mu_ne (by omega), mu_ne (by omega), mu_ne (by omega), mu_ne (by omega), mu_self]
        first | rfl | (exact if_pos (by omega))
      by_cases t12 : t = 12
      · subst t12
        rw [su_ne (by omega), mu_ne (by omega), mu_ne (by omega), mu_ne (by omega), mu_self]
        first | rfl | (exact if_pos (by omega))
      by_cases t13 : t = 13
      · subst t13
        rw [su_ne (by omega), mu_ne (by omega), mu_ne (by omega), mu_self]
        first | rfl | (exact if_pos (by omega))
      by_cases t14 : t = 14
      · subst t14
        rw [su_ne (by omega), mu_ne (by omega), mu_self]
        first | rfl | (exact if_pos (by omega))
      by_cases t15 : t = 15
      · subst t15
        rw [su_ne (by omega), mu_self]
        first | rfl | (exact if_pos (by omega))
      rw [su_ne (by omega), mu_ne (by omega), mu_ne (by omega), mu_ne (by omega), mu_ne (by omega), mu_ne (by omega), cpy_ne (by omega), cpy_ne (by omega), cpy_ne (by omega), mu_ne (by omega), mu_ne (by omega), mu_ne (by omega), mu_ne (by omega), mu_ne (by omega), mu_ne (by omega), mu_ne (by omega)]
      rw [if_neg (by omega)]
    rw [if_neg c7]
    by_cases c8 : c = 8 ∨ c = 9 ∨ c = 10
    · rw [if_pos c8]
      by_cases ht : 0 ≤ t ∧ t < V 7 j 6
      · rw [if_pos ht]
        rcases c8 with rfl | rfl | rfl
        · rw [su_ne (by omega), mu_ne (by omega), mu_ne (by omega), mu_ne (by omega), mu_ne (by omega), mu_ne (by omega), cpy_ne (by omega), cpy_ne (by omega), cpy_in (by omega), show (0 : Int) + (t - 0) = t from by omega, mu_ne (by omega), mu_ne (by omega), mu_ne (by omega), mu_ne (by omega), mu_ne (by omega), mu_ne (by omega), mu_ne (by omega)]
        · rw [su_ne (by omega), mu_ne (by omega), mu_ne (by omega), mu_ne (by omega), mu_ne (by omega), mu_ne (by omega), cpy_ne (by omega), cpy_in (by omega), show (0 : Int) + (t - 0) = t from by omega, cpy_ne (by omega), mu_ne (by omega), mu_ne (by omega), mu_ne (by omega), mu_ne (by omega), mu_ne (by omega), mu_ne (by omega), mu_ne (by omega)]
        · rw [su_ne (by omega), mu_ne (by omega), mu_ne (by omega), mu_ne (by omega), mu_ne (by omega), mu_ne (by omega), cpy_in (by omega), show (0 : Int) + (t - 0) = t from by omega, cpy_ne (by omega), cpy_ne (by omega), mu_ne (by omega), mu_ne (by omega), mu_ne (by omega), mu_ne (by omega), mu_ne (by omega), mu_ne (by omega), mu_ne (by omega)]
      · rw [if_neg ht]
        rcases c8 with rfl | rfl | rfl
        · rw [su_ne (by omega), mu_ne (by omega), mu_ne (by omega), mu_ne (by omega), mu_ne (by omega), mu_ne (by omega), cpy_ne (by omega), cpy_ne (by omega), cpy_off (by omega), mu_ne (by omega), mu_ne (by omega), mu_ne (by omega), mu_ne (by omega), mu_ne (by omega), mu_ne (by omega), mu_ne (by omega)]
        · rw [su_ne (by omega), mu_ne (by omega), mu_ne (by omega), mu_ne (by omega), mu_ne (by omega), mu_ne (by omega), cpy_ne (by omega), cpy_off (by omega), cpy_ne (by omega), mu_ne (by omega), mu_ne (by omega), mu_ne (by omega), mu_ne (by omega), mu_ne (by omega), mu_ne (by omega), mu_ne (by omega)]
        · rw [su_ne (by omega), mu_ne (by omega), mu_ne (by omega), mu_ne (by omega), mu_ne (by omega), mu_ne (by omega), cpy_off (by omega), cpy_ne (by omega), cpy_ne (by omega), mu_ne (by omega), mu_ne (by omega), mu_ne (by omega), mu_ne (by omega), mu_ne (by omega), mu_ne (by omega), mu_ne (by omega)]
    rw [if_neg c8]
    by_cases c11 : c = 11
    · subst c11
      rw [if_pos rfl, su_at]
      rw [show (mu (mu (mu (mu (mu (cpy (cpy (cpy (mu (mu (mu (mu (mu (mu (mu V 7 i 0 (V 7 j 0)) 7 i 1 (V 7 j 1)) 7 i 2 (V 7 j 2)) 7 i 3 (V 7 j 3)) 7 i 4 (V 7 j 4)) 7 i 5 (V 7 j 5)) 7 i 6 (V 7 j 6)) 8 j 0 8 i 0 (V 7 j 6)) 9 j 0 9 i 0 (V 7 j 6)) 10 j 0 10 i 0 (V 7 j 6)) 7 i 10 (V 7 j 10)) 7 i 12 (V 7 j 12)) 7 i 13 (V 7 j 13)) 7 i 14 (V 7 j 14)) 7 i 15 (V 7 j 15)) 11 j = V 11 j from funext fun y => by rw [mu_ne (by omega), mu_ne (by omega), mu_ne (by omega), mu_ne (by omega), mu_ne (by omega), cpy_ne (by omega), cpy_ne (by omega), cpy_ne (by omega), mu_ne (by omega), mu_ne (by omega), mu_ne (by omega), mu_ne (by omega), mu_ne (by omega), mu_ne (by omega), mu_ne (by omega)], show (mu (mu (mu (mu (mu (cpy (cpy (cpy (mu (mu (mu (mu (mu (mu (mu V 7 i 0 (V 7 j 0)) 7 i 1 (V 7 j 1)) 7 i 2 (V 7 j 2)) 7 i 3 (V 7 j 3)) 7 i 4 (V 7 j 4)) 7 i 5 (V 7 j 5)) 7 i 6 (V 7 j 6)) 8 j 0 8 i 0 (V 7 j 6)) 9 j 0 9 i 0 (V 7 j 6)) 10 j 0 10 i 0 (V 7 j 6)) 7 i 10 (V 7 j 10)) 7 i 12 (V 7 j 12)) 7 i 13 (V 7 j 13)) 7 i 14 (V 7 j 14)) 7 i 15 (V 7 j 15)) 11 i = V 11 i from funext fun y => by rw [mu_ne (by omega), mu_ne (by omega), mu_ne (by omega), mu_ne (by omega), mu_ne (by omega), cpy_ne (by omega), cpy_ne (by omega), cpy_ne (by omega), mu_ne (by omega), mu_ne (by omega), mu_ne (by omega), mu_ne (by omega), mu_ne (by omega), mu_ne (by omega), mu_ne (by omega)], r7_cp]
    rw [if_neg c11]
    rw [su_ne (by omega), mu_ne (by omega), mu_ne (by omega), mu_ne (by omega), mu_ne (by omega), mu_ne (by omega), cpy_ne (by omega), cpy_ne (by omega), cpy_ne (by omega), mu_ne (by omega), mu_ne (by omega), mu_ne (by omega), mu_ne (by omega), mu_ne (by omega), mu_ne (by omega), mu_ne (by omega)]
  · unfold cpM
    rw [if_neg (fun q => hx q.symm)]
    rw [su_ne (by omega), mu_ne (by omega), mu_ne (by omega), mu_ne (by omega), mu_ne (by omega), mu_ne (by omega), cpy_ni (by omega), cpy_ni (by omega), cpy_ni (by omega), mu_ne (by omega), mu_ne (by omega), mu_ne (by omega), mu_ne (by omega), mu_ne (by omega), mu_ne (by omega), mu_ne (by omega)]
theorem x_copyL {eb ec : Bool} {d : Nat} {P : Option Vl → Mm → Prop} {σ : Mm} {i j : Int} (b_i : 0 ≤ i ∧ i ≤ 6) (b_j : 0 ≤ j ∧ j ≤ 6) (hij : i ≠ j)  (k : P none (cpM σ j i)) : WT (true, eb, ec) (d + 2) 27 [vR 7 i, vR 7 j] σ P := by
  refine WT_in fun K hK => ?_
  have hK : StpY (true, eb, ec) cX2_copyFrom RX2 (none) (WT (true, eb, ec) (d + 1)) P K := hK
  have hM := hK.1
  have hC := hK.1.1
  show K 0 [some (vR 7 i), some (vR 7 j)] [] σ
  refine r_aload_n hC dX2_copyFrom_0 rfl ?_
  refine r_aload_n hC dX2_copyFrom_1 rfl ?_
  refine z_getI (jz := 0) hM dX2_copyFrom_2 fl_RX2_9 rfl rfl rfl (fun v1 h_v1 o_v1 t_v1 => ?_)
  have w_v1 := ((t_v1 (Or.inl (by simp [Tb]))).trans (rfl)).symm
  subst w_v1
  refine z_putIT (jz := 0) hM dX2_copyFrom_5 fw_RX2_9 rfl rfl rfl ⟨Or.inr (by simp [DL]), Or.inr (by simp [DF])⟩ (by first | trivial | (simp only [Okv]; omega) | (simp [Okv]; try omega)) ?_
  refine r_aload_n hC dX2_copyFrom_8 rfl ?_
  refine r_aload_n hC dX2_copyFrom_9 rfl ?_
  refine z_getI (jz := 1) hM dX2_copyFrom_10 fl_RX2_32 rfl rfl rfl (fun v2 h_v2 o_v2 t_v2 => ?_)
  have w_v2 := ((t_v2 (Or.inl (by simp [Tb]))).trans ((mu_ne (by omega)).trans (rfl))).symm
  subst w_v2
  have q_v2 : 0 ≤ (σ 7 j 1) ∧ (σ 7 j 1) ≤ 1 := by have := o_v2.2.1 rfl; omega
  refine z_putZT (jz := 1) hM dX2_copyFrom_13 fw_RX2_32 rfl rfl rfl (by omega) ⟨Or.inr (by simp [DL]), Or.inr (by simp [DF])⟩ (by first | trivial | (simp only [Okv]; omega) | (simp [Okv]; try omega)) ?_
  refine r_aload_n hC dX2_copyFrom_16 rfl ?_
  refine r_aload_n hC dX2_copyFrom_17 rfl ?_
  refine z_getI (jz := 2) hM dX2_copyFrom_18 fl_RX2_36 rfl rfl rfl (fun v3 h_v3 o_v3 t_v3 => ?_)
  have w_v3 := ((t_v3 (Or.inl (by simp [Tb]))).trans ((mu_ne (by omega)).trans ((mu_ne (by omega)).trans (rfl)))).symm
  subst w_v3
  have q_v3 : 0 ≤ (σ 7 j 2) ∧ (σ 7 j 2) ≤ 9 := o_v3.2.2 rfl
  refine z_putIT (jz := 2) hM dX2_copyFrom_21 fw_RX2_36 rfl rfl rfl ⟨Or.inr (by simp [DL]), Or.inr (by simp [DF])⟩ (by first | trivial | (simp only [Okv]; omega) | (simp [Okv]; try omega)) ?_
  refine r_aload_n hC dX2_copyFrom_24 rfl ?_
  refine r_aload_n hC dX2_copyFrom_25 rfl ?_
  refine z_getI (jz := 3) hM dX2_copyFrom_26 fl_RX2_39 rfl rfl rfl (fun v4 h_v4 o_v4 t_v4 => ?_)
  have w_v4 := ((t_v4 (Or.inl (by simp [Tb]))).trans ((mu_ne (by omega)).trans ((mu_ne (by omega)).trans ((mu_ne (by omega)).trans (rfl))))).symm
  subst w_v4
  refine z_putIT (jz := 3) hM dX2_copyFrom_29 fw_RX2_39 rfl rfl rfl ⟨Or.inl rfl, Or.inr (by simp [DF])⟩ (by first | trivial | (simp only [Okv]; omega) | (simp [Okv]; try omega)) ?_
  refine r_aload_n hC dX2_copyFrom_32 rfl ?_
  refine r_aload_n hC dX2_copyFrom_33 rfl ?_
  refine z_getI (jz := 4) hM dX2_copyFrom_34 fl_RX2_42 rfl rfl rfl (fun v5 h_v5 o_v5 t_v5 => ?_)
  have w_v5 := ((t_v5 (Or.inl (by simp [Tb]))).trans ((mu_ne (by omega)).trans ((mu_ne (by omega)).trans ((mu_ne (by omega)).trans ((mu_ne (by omega)).trans (rfl)))))).symm
  subst w_v5
  refine z_putIT (jz := 4) hM dX2_copyFrom_37 fw_RX2_42 rfl rfl rfl ⟨Or.inl rfl, Or.inr (by simp [DF])⟩ (by first | trivial | (simp only [Okv]; omega) | (simp [Okv]; try omega)) ?_
  refine r_aload_n hC dX2_copyFrom_40 rfl ?_
  refine r_aload_n hC dX2_copyFrom_41 rfl ?_
  refine z_getI (jz := 5) hM dX2_copyFrom_42 fl_RX2_45 rfl rfl rfl (fun v6 h_v6 o_v6 t_v6 => ?_)
  have w_v6 := ((t_v6 (Or.inl (by simp [Tb]))).trans ((mu_ne (by omega)).trans ((mu_ne (by omega)).trans ((mu_ne (by omega)).trans ((mu_ne (by omega)).trans ((mu_ne (by omega)).trans (rfl))))))).symm
  subst w_v6
  refine z_putIT (jz := 5) hM dX2_copyFrom_45 fw_RX2_45 rfl rfl rfl ⟨Or.inr (by simp [DL]), Or.inr (by simp [DF])⟩ (by first | trivial | (simp only [Okv]; omega) | (simp [Okv]; try omega)) ?_
  refine r_aload_n hC dX2_copyFrom_48 rfl ?_
  refine r_aload_n hC dX2_copyFrom_49 rfl ?_
  refine z_getI (jz := 6) hM dX2_copyFrom_50 fl_RX2_48 rfl rfl rfl (fun v7 h_v7 o_v7 t_v7 => ?_)
  have w_v7 := ((t_v7 (Or.inl (by simp [Tb]))).trans ((mu_ne (by omega)).trans ((mu_ne (by omega)).trans ((mu_ne (by omega)).trans ((mu_ne (by omega)).trans ((mu_ne (by omega)).trans ((mu_ne (by omega)).trans (rfl)))))))).symm
  subst w_v7
  have q_v7 : 0 ≤ (σ 7 j 6) ∧ (σ 7 j 6) ≤ 121 := o_v7.1 rfl
  refine z_putIT (jz := 6) hM dX2_copyFrom_53 fw_RX2_48 rfl rfl rfl ⟨Or.inl rfl, Or.inr (by simp [DF])⟩ (by first | trivial | (simp only [Okv]; omega) | (simp [Okv]; try omega)) ?_
  refine r_aload_n hC dX2_copyFrom_56 rfl ?_
  refine z_getR hM dX2_copyFrom_57 fl_RX2_15 rfl rfl (vld_of (n := 7) rfl (by omega) (by omega)) ?_
  refine r_iconst hC dX2_copyFrom_60 rfl ?_
  refine r_aload_n hC dX2_copyFrom_61 rfl ?_
  refine z_getR hM dX2_copyFrom_62 fl_RX2_15 rfl rfl (vld_of (n := 7) rfl (by omega) (by omega)) ?_
  refine r_iconst hC dX2_copyFrom_65 rfl ?_
  refine r_aload_n hC dX2_copyFrom_66 rfl ?_
  refine z_getI (jz := 6) hM dX2_copyFrom_67 fl_RX2_48 rfl rfl rfl (fun v8 h_v8 o_v8 t_v8 => ?_)
  have w_v8 := ((t_v8 (Or.inl (by simp [Tb]))).trans (mu_self _ _ _ _ _)).symm
  subst w_v8
  refine z_copyT hM dX2_copyFrom_70 ac_RX2_72 rfl rfl (by omega) (by omega) (by omega) (by omega) (by omega) (Nat.le_of_ble_eq_true rfl) (fun _ => ⟨by simp [DL], by simp [DF]⟩) (fun _ _ _ h => by simp [Okv] at *; try exact h) (fun x _ _ _ => (Or.inl (by simp [Tb]))) ?_
  refine r_aload_n hC dX2_copyFrom_73 rfl ?_
  refine z_getR hM dX2_copyFrom_74 fl_RX2_19 rfl rfl (vld_of (n := 7) rfl (by omega) (by omega)) ?_
  refine r_iconst hC dX2_copyFrom_77 rfl ?_
  refine r_aload_n hC dX2_copyFrom_78 rfl ?_
  refine z_getR hM dX2_copyFrom_79 fl_RX2_19 rfl rfl (vld_of (n := 7) rfl (by omega) (by omega)) ?_
  refine r_iconst hC dX2_copyFrom_82 rfl ?_
  refine r_aload_n hC dX2_copyFrom_83 rfl ?_
  refine z_getI (jz := 6) hM dX2_copyFrom_84 fl_RX2_48 rfl rfl rfl (fun v9 h_v9 o_v9 t_v9 => ?_)
  have w_v9 := ((t_v9 (Or.inl (by simp [Tb]))).trans ((cpy_ne (by omega)).trans (mu_self _ _ _ _ _))).symm
  subst w_v9
  refine z_copyT hM dX2_copyFrom_87 ac_RX2_72 rfl rfl (by omega) (by omega) (by omega) (by omega) (by omega) (Nat.le_of_ble_eq_true rfl) (fun _ => ⟨by simp [DL], by simp [DF]⟩) (fun _ _ _ h => by simp [Okv] at *; try exact h) (fun x _ _ _ => (Or.inl (by simp [Tb]))) ?_
  refine r_aload_n hC dX2_copyFrom_90 rfl ?_
  refine z_getR hM dX2_copyFrom_91 fl_RX2_22 rfl rfl (vld_of (n := 7) rfl (by omega) (by omega)) ?_
  refine r_iconst hC dX2_copyFrom_94 rfl ?_
  refine r_aload_n hC dX2_copyFrom_95 rfl ?_
  refine z_getR hM dX2_copyFrom_96 fl_RX2_22 rfl rfl (vld_of (n := 7) rfl (by omega) (by omega)) ?_
  refine r_iconst hC dX2_copyFrom_99 rfl ?_
  refine r_aload_n hC dX2_copyFrom_100 rfl ?_
  refine z_getI (jz := 6) hM dX2_copyFrom_101 fl_RX2_48 rfl rfl rfl (fun v10 h_v10 o_v10 t_v10 => ?_)
  have w_v10 := ((t_v10 (Or.inl (by simp [Tb]))).trans ((cpy_ne (by omega)).trans ((cpy_ne (by omega)).trans (mu_self _ _ _ _ _)))).symm
  subst w_v10
  refine z_copyT hM dX2_copyFrom_104 ac_RX2_72 rfl rfl (by omega) (by omega) (by omega) (by omega) (by omega) (Nat.le_of_ble_eq_true rfl) (fun _ => ⟨by simp [DL], by simp [DF]⟩) (fun _ _ _ h => by simp [Okv] at *; try exact h) (fun x _ _ _ => (Or.inl (by simp [Tb]))) ?_
  refine r_aload_n hC dX2_copyFrom_107 rfl ?_
  refine r_aload_n hC dX2_copyFrom_108 rfl ?_
  refine z_getI (jz := 10) hM dX2_copyFrom_109 fl_RX2_51 rfl rfl rfl (fun v11 h_v11 o_v11 t_v11 => ?_)
  have w_v11 := ((t_v11 (Or.inl (by simp [Tb]))).trans ((cpy_ne (by omega)).trans ((cpy_ne (by omega)).trans ((cpy_ne (by omega)).trans ((mu_ne (by omega)).trans ((mu_ne (by omega)).trans ((mu_ne (by omega)).trans ((mu_ne (by omega)).trans ((mu_ne (by omega)).trans ((mu_ne (by omega)).trans ((mu_ne (by omega)).trans (rfl)))))))))))).symm
  subst w_v11
  refine z_putIT (jz := 10) hM dX2_copyFrom_112 fw_RX2_51 rfl rfl rfl ⟨Or.inr (by simp [DL]), Or.inr (by simp [DF])⟩ (by first | trivial | (simp only [Okv]; omega) | (simp [Okv]; try omega)) ?_
  refine r_aload_n hC dX2_copyFrom_115 rfl ?_
  refine r_aload_n hC dX2_copyFrom_116 rfl ?_
  refine z_getI (jz := 11) hM dX2_copyFrom_117 fl_RX2_54 rfl rfl rfl (fun v12 h_v12 o_v12 t_v12 => ?_)
  refine z_putIU (jz := 11) hM dX2_copyFrom_120 fw_RX2_54 rfl rfl rfl (by simp [Un, Tb, DL, DF, DR, DX]) (by simp [Okv]) ?_
  refine r_aload_n hC dX2_copyFrom_123 rfl ?_
  refine r_aload_n hC dX2_copyFrom_124 rfl ?_
  refine z_getI (jz := 12) hM dX2_copyFrom_125 fl_RX2_57 rfl rfl rfl (fun v13 h_v13 o_v13 t_v13 => ?_)
  have w_v13 := ((t_v13 (Or.inl (by simp [Tb]))).trans ((mu_ne (by omega)).trans ((cpy_ne (by omega)).trans ((cpy_ne (by omega)).trans ((cpy_ne (by omega)).trans ((mu_ne (by omega)).trans ((mu_ne (by omega)).trans ((mu_ne (by omega)).trans ((mu_ne (by omega)).trans ((mu_ne (by omega)).trans ((mu_ne (by omega)).trans ((mu_ne (by omega)).trans (rfl))))))))))))).symm
  subst w_v13
  refine z_putIT (jz := 12) hM dX2_copyFrom_128 fw_RX2_57 rfl rfl rfl ⟨Or.inr (by simp [DL]), Or.inr (by simp [DF])⟩ (by first | trivial | (simp only [Okv]; omega) | (simp [Okv]; try omega)) ?_
  refine r_aload_n hC dX2_copyFrom_131 rfl ?_
  refine r_aload_n hC dX2_copyFrom_132 rfl ?_
  refine z_getI (jz := 13) hM dX2_copyFrom_133 fl_RX2_60 rfl rfl rfl (fun v14 h_v14 o_v14 t_v14 => ?_)
  have w_v14 := ((t_v14 (Or.inl (by simp [Tb]))).trans ((mu_ne (by omega)).trans ((mu_ne (by omega)).trans ((cpy_ne (by omega)).trans ((cpy_ne (by omega)).trans ((cpy_ne (by omega)).trans ((mu_ne (by omega)).trans ((mu_ne (by omega)).trans ((mu_ne (by omega)).trans ((mu_ne (by omega)).trans ((mu_ne (by omega)).trans ((mu_ne (by omega)).trans ((mu_ne (by omega)).trans (rfl)))))))))))))).symm
  subst w_v14
  refine z_putIT (jz := 13) hM dX2_copyFrom_136 fw_RX2_60 rfl rfl rfl ⟨Or.inr (by simp [DL]), Or.inr (by simp [DF])⟩ (by first | trivial | (simp only [Okv]; omega) | (simp [Okv]; try omega)) ?_
  refine r_aload_n hC dX2_copyFrom_139 rfl ?_
  refine r_aload_n hC dX2_copyFrom_140 rfl ?_
  refine z_getI (jz := 14) hM dX2_copyFrom_141 fl_RX2_63 rfl rfl rfl (fun v15 h_v15 o_v15 t_v15 => ?_)
  have w_v15 := ((t_v15 (Or.inl (by simp [Tb]))).trans ((mu_ne (by omega)).trans ((mu_ne (by omega)).trans ((mu_ne (by omega)).trans ((cpy_ne (by omega)).trans ((cpy_ne (by omega)).trans ((cpy_ne (by omega)).trans ((mu_ne (by omega)).trans ((mu_ne (by omega)).trans ((mu_ne (by omega)).trans ((mu_ne (by omega)).trans ((mu_ne (by omega)).trans ((mu_ne (by omega)).trans ((mu_ne (by omega)).trans (rfl))))))))))))))).symm
  subst w_v15
  refine z_putIT (jz := 14) hM dX2_copyFrom_144 fw_RX2_63 rfl rfl rfl ⟨Or.inr (by simp [DL]), Or.inr (by simp [DF])⟩ (by first | trivial | (simp only [Okv]; omega) | (simp [Okv]; try omega)) ?_
  refine r_aload_n hC dX2_copyFrom_147 rfl ?_
  refine r_aload_n hC dX2_copyFrom_148 rfl ?_
  refine z_getI (jz := 15) hM dX2_copyFrom_149 fl_RX2_66 rfl rfl rfl (fun v16 h_v16 o_v16 t_v16 => ?_)
  have w_v16 := ((t_v16 (Or.inl (by simp [Tb]))).trans ((mu_ne (by omega)).trans ((mu_ne (by omega)).trans ((mu_ne (by omega)).trans ((mu_ne (by omega)).trans ((cpy_ne (by omega)).trans ((cpy_ne (by omega)).trans ((cpy_ne (by omega)).trans ((mu_ne (by omega)).trans ((mu_ne (by omega)).trans ((mu_ne (by omega)).trans ((mu_ne (by omega)).trans ((mu_ne (by omega)).trans ((mu_ne (by omega)).trans ((mu_ne (by omega)).trans (rfl)))))))))))))))).symm
  subst w_v16
  refine z_putIT (jz := 15) hM dX2_copyFrom_152 fw_RX2_66 rfl rfl rfl ⟨Or.inr (by simp [DL]), Or.inr (by simp [DF])⟩ (by first | trivial | (simp only [Okv]; omega) | (simp [Okv]; try omega)) ?_
  refine r_aload_n hC dX2_copyFrom_155 rfl ?_
  refine z_getR hM dX2_copyFrom_156 fl_RX2_28 rfl rfl (vld_of (n := 8) rfl (by omega) (by omega)) ?_
  refine r_aload_n hC dX2_copyFrom_159 rfl ?_
  refine z_getR hM dX2_copyFrom_160 fl_RX2_28 rfl rfl (vld_of (n := 8) rfl (by omega) (by omega)) ?_
  refine z_inv1 hM dX2_copyFrom_163 vl_RX2_78 rfl rfl rfl (Nat.le_of_ble_eq_true rfl) (Nat.le_of_ble_eq_true rfl) ?_
  refine x_copyFrom (by omega) (by omega) (by omega) ?_
  refine y_vret hK rfl dX2_copyFrom_166 ?_
  have hm : cpM σ j i = (su (mu (mu (mu (mu (mu (cpy (cpy (cpy (mu (mu (mu (mu (mu (mu (mu σ 7 i 0 (σ 7 j 0)) 7 i 1 (σ 7 j 1)) 7 i 2 (σ 7 j 2)) 7 i 3 (σ 7 j 3)) 7 i 4 (σ 7 j 4)) 7 i 5 (σ 7 j 5)) 7 i 6 (σ 7 j 6)) 8 j 0 8 i 0 (σ 7 j 6)) 9 j 0 9 i 0 (σ 7 j 6)) 10 j 0 10 i 0 (σ 7 j 6)) 7 i 10 (σ 7 j 10)) 7 i 12 (σ 7 j 12)) 7 i 13 (σ 7 j 13)) 7 i 14 (σ 7 j 14)) 7 i 15 (σ 7 j 15)) 11 i (r7 ((mu (mu (mu (mu (mu (cpy (cpy (cpy (mu (mu (mu (mu (mu (mu (mu σ 7 i 0 (σ 7 j 0)) 7 i 1 (σ 7 j 1)) 7 i 2 (σ 7 j 2)) 7 i 3 (σ 7 j 3)) 7 i 4 (σ 7 j 4)) 7 i 5 (σ 7 j 5)) 7 i 6 (σ 7 j 6)) 8 j 0 8 i 0 (σ 7 j 6)) 9 j 0 9 i 0 (σ 7 j 6)) 10 j 0 10 i 0 (σ 7 j 6)) 7 i 10 (σ 7 j 10)) 7 i 12 (σ 7 j 12)) 7 i 13 (σ 7 j 13)) 7 i 14 (σ 7 j 14)) 7 i 15 (σ 7 j 15)) 11 j 0) ((mu (mu (mu (mu (mu (cpy (cpy (cpy (mu (mu (mu (mu (mu (mu (mu σ 7 i 0 (σ 7 j 0)) 7 i 1 (σ 7 j 1)) 7 i 2 (σ 7 j 2)) 7 i 3 (σ 7 j 3)) 7 i 4 (σ 7 j 4)) 7 i 5 (σ 7 j 5)) 7 i 6 (σ 7 j 6)) 8 j 0 8 i 0 (σ 7 j 6)) 9 j 0 9 i 0 (σ 7 j 6)) 10 j 0 10 i 0 (σ 7 j 6)) 7 i 10 (σ 7 j 10)) 7 i 12 (σ 7 j 12)) 7 i 13 (σ 7 j 13)) 7 i 14 (σ 7 j 14)) 7 i 15 (σ 7 j 15)) 11 j 1) ((mu (mu (mu (mu (mu (cpy (cpy (cpy (mu (mu (mu (mu (mu (mu (mu σ 7 i 0 (σ 7 j 0)) 7 i 1 (σ 7 j 1)) 7 i 2 (σ 7 j 2)) 7 i 3 (σ 7 j 3)) 7 i 4 (σ 7 j 4)) 7 i 5 (σ 7 j 5)) 7 i 6 (σ 7 j 6)) 8 j 0 8 i 0 (σ 7 j 6)) 9 j 0 9 i 0 (σ 7 j 6)) 10 j 0 10 i 0 (σ 7 j 6)) 7 i 10 (σ 7 j 10)) 7 i 12 (σ 7 j 12)) 7 i 13 (σ 7 j 13)) 7 i 14 (σ 7 j 14)) 7 i 15 (σ 7 j 15)) 11 j 2) ((mu (mu (mu (mu (mu (cpy (cpy (cpy (mu (mu (mu (mu (mu (mu (mu σ 7 i 0 (σ 7 j 0)) 7 i 1 (σ 7 j 1)) 7 i 2 (σ 7 j 2)) 7 i 3 (σ 7 j 3)) 7 i 4 (σ 7 j 4)) 7 i 5 (σ 7 j 5)) 7 i 6 (σ 7 j 6)) 8 j 0 8 i 0 (σ 7 j 6)) 9 j 0 9 i 0 (σ 7 j 6)) 10 j 0 10 i 0 (σ 7 j 6)) 7 i 10 (σ 7 j 10)) 7 i 12 (σ 7 j 12)) 7 i 13 (σ 7 j 13)) 7 i 14 (σ 7 j 14)) 7 i 15 (σ 7 j 15)) 11 j 3) ((mu (mu (mu (mu (mu (cpy (cpy (cpy (mu (mu (mu (mu (mu (mu (mu σ 7 i 0 (σ 7 j 0)) 7 i 1 (σ 7 j 1)) 7 i 2 (σ 7 j 2)) 7 i 3 (σ 7 j 3)) 7 i 4 (σ 7 j 4)) 7 i 5 (σ 7 j 5)) 7 i 6 (σ 7 j 6)) 8 j 0 8 i 0 (σ 7 j 6)) 9 j 0 9 i 0 (σ 7 j 6)) 10 j 0 10 i 0 (σ 7 j 6)) 7 i 10 (σ 7 j 10)) 7 i 12 (σ 7 j 12)) 7 i 13 (σ 7 j 13)) 7 i 14 (σ 7 j 14)) 7 i 15 (σ 7 j 15)) 11 j 4) ((mu (mu (mu (mu (mu (cpy (cpy (cpy (mu (mu (mu (mu (mu (mu (mu σ 7 i 0 (σ 7 j 0)) 7 i 1 (σ 7 j 1)) 7 i 2 (σ 7 j 2)) 7 i 3 (σ 7 j 3)) 7 i 4 (σ 7 j 4)) 7 i 5 (σ 7 j 5)) 7 i 6 (σ 7 j 6)) 8 j 0 8 i 0 (σ 7 j 6)) 9 j 0 9 i 0 (σ 7 j 6)) 10 j 0 10 i 0 (σ 7 j 6)) 7 i 10 (σ 7 j 10)) 7 i 12 (σ 7 j 12)) 7 i 13 (σ 7 j 13)) 7 i 14 (σ 7 j 14)) 7 i 15 (σ 7 j 15)) 11 j 5) ((mu (mu (mu (mu (mu (cpy (cpy (cpy (mu (mu (mu (mu (mu (mu (mu σ 7 i 0 (σ 7 j 0)) 7 i 1 (σ 7 j 1)) 7 i 2 (σ 7 j 2)) 7 i 3 (σ 7 j 3)) 7 i 4 (σ 7 j 4)) 7 i 5 (σ 7 j 5)) 7 i 6 (σ 7 j 6)) 8 j 0 8 i 0 (σ 7 j 6)) 9 j 0 9 i 0 (σ 7 j 6)) 10 j 0 10 i 0 (σ 7 j 6)) 7 i 10 (σ 7 j 10)) 7 i 12 (σ 7 j 12)) 7 i 13 (σ 7 j 13)) 7 i 14 (σ 7 j 14)) 7 i 15 (σ 7 j 15)) 11 j 6) ((mu (mu (mu (mu (mu (cpy (cpy (cpy (mu (mu (mu (mu (mu (mu (mu σ 7 i 0 (σ 7 j 0)) 7 i 1 (σ 7 j 1)) 7 i 2 (σ 7 j 2)) 7 i 3 (σ 7 j 3)) 7 i 4 (σ 7 j 4)) 7 i 5 (σ 7 j 5)) 7 i 6 (σ 7 j 6)) 8 j 0 8 i 0 (σ 7 j 6)) 9 j 0 9 i 0 (σ 7 j 6)) 10 j 0 10 i 0 (σ 7 j 6)) 7 i 10 (σ 7 j 10)) 7 i 12 (σ 7 j 12)) 7 i 13 (σ 7 j 13)) 7 i 14 (σ 7 j 14)) 7 i 15 (σ 7 j 15)) 11 i))) := cpM_eq hij
  rw [hm] at k
  exact k
theorem x_keep {ec : Bool} {d : Nat} {P : Option Vl → Mm → Prop} {σ : Mm} {l x : Int}   (k : P (some (vI (kpR σ l x))) (kpM σ l x)) : WT (true, false, ec) (d + 4) 114 [vR 2 0, vI l, vI x] σ P := by
  refine WT_in fun K hK => ?_
  have hK : StpY (true, false, ec) cX5_keep RX5 (some .int) (WT (true, false, ec) (d + 3)) P K := hK
  have hM := hK.1
  have hC := hK.1.1
  show K 0 [some (vR 2 0), some (vI l), some (vI x), none] [] σ
  refine r_rngz hC (fun g0 => ?_)
  have r_l : -2147483648 ≤ l ∧ l ≤ 2147483647 := inR_le (g0 (vI l) (by simp))
  have r_x : -2147483648 ≤ x ∧ x ≤ 2147483647 := inR_le (g0 (vI x) (by simp))
  refine r_aload_n hC dX5_keep_0 rfl ?_
  refine r_iload_n hC dX5_keep_1 rfl ?_
  refine z_inv1 hM dX5_keep_2 vl_RX5_123 rfl rfl rfl (Nat.le_of_ble_eq_true rfl) (Nat.le_of_ble_eq_true rfl) ?_
  refine x_openLane (fun h1 => ?_) (fun h1 => ?_)
  · -- h1
    refine r_astore_n hC dX5_keep_5 rfl ?_
    refine r_aload_n hC dX5_keep_6 rfl ?_
    refine r_ifnullR hC dX5_keep_7 ?_
    refine r_iload_n hC dX5_keep_10 rfl ?_
    refine r_iconst hC dX5_keep_11 rfl ?_
    refine r_iconst hC dX5_keep_12 rfl ?_
    refine z_ins3 hM dX5_keep_13 tl_RX5_59 rfl (Nat.le_of_ble_eq_true rfl) (Nat.le_of_ble_eq_true rfl) ?_
    refine s_within (fun h3 => ?_) (fun h3 => ?_)
    · refine r_if_ne (tgt := 21) hC dX5_keep_16 rfl (fun h4 => ?_) (fun h4 => by omega)
      refine r_aload_n hC dX5_keep_21 rfl ?_
      refine z_getR hM dX5_keep_22 fl_RX5_27 rfl rfl (vld_of (n := 1) rfl (by omega) (by omega)) ?_
      refine r_iload_n hC dX5_keep_25 rfl ?_
      refine z_aald hM dX5_keep_26 rfl (by decide) (by omega) (by omega) (vld_of (n := 7) rfl (by omega) (by omega)) ?_
      rw [show rfa 4 x = (7, (x + 4)) from by simp [rfa]; try omega]
      refine r_aload_n hC dX5_keep_27 rfl ?_
      refine z_inv1 hM dX5_keep_28 vl_RX5_349 rfl rfl rfl (Nat.le_of_ble_eq_true rfl) (Nat.le_of_ble_eq_true rfl) ?_
      refine x_copyL (by omega) (by omega) (by omega) ?_
      refine r_aload_n hC dX5_keep_31 rfl ?_
      refine z_getI (jz := 6) hM dX5_keep_32 fl_RX5_154 rfl rfl rfl (fun v5 h_v5 o_v5 t_v5 => ?_)
      have w_v5 := ((t_v5 (Or.inl (by simp [Tb]))).trans ((cpM_ne (by omega)).trans (rfl))).symm
      subst w_v5
      have q_v5 : 0 ≤ (σ 7 l 6) ∧ (σ 7 l 6) ≤ 121 := o_v5.1 rfl
      refine y_iret hK rfl dX5_keep_35 ?_
      have hM : kpM σ l x = (cpM σ l (x + 4)) := by
        exact if_pos (by omega)
      rw [hM] at k
      have hR : kpR σ l x = (σ 7 l 6) := by
        exact if_pos (by omega)
      rw [hR] at k
      exact k
    · refine r_if_ne (tgt := 21) hC dX5_keep_16 rfl (fun h6 => by omega) (fun h6 => ?_)
      refine r_iconst hC dX5_keep_19 rfl ?_
      refine y_iret hK rfl dX5_keep_20 ?_
      have hM : kpM σ l x = σ := by
        exact if_neg (by omega)
      rw [hM] at k
      have hR : kpR σ l x = (-1) := by
        exact if_neg (by omega)
      rw [hR] at k
      exact k
  · -- h1
    refine r_astoreN_n hC dX5_keep_5 rfl ?_
    refine r_aloadN_n hC dX5_keep_6 rfl ?_
    refine r_ifnullN (tgt := 19) hC dX5_keep_7 rfl ?_
    refine r_iconst hC dX5_keep_19 rfl ?_
    refine y_iret hK rfl dX5_keep_20 ?_
    have hM : kpM σ l x = σ := by
      exact if_neg (by omega)
    rw [hM] at k
    have hR : kpR σ l x = (-1) := by
      exact if_neg (by omega)
    rw [hR] at k
    exact k
theorem x_back {ec : Bool} {d : Nat} {P : Option Vl → Mm → Prop} {σ : Mm} {x : Int}  (hbx : bkC σ x → 0 ≤ (σ 7 (x + 4) 0) ∧ (σ 7 (x + 4) 0) ≤ 3)  (k : P (some (vI (bkR σ x))) (bkM σ x)) : WT (true, false, ec) (d + 3) 115 [vR 2 0, vI x] σ P := by
  refine WT_in fun K hK => ?_
  have hK : StpY (true, false, ec) cX5_back RX5 (some .int) (WT (true, false, ec) (d + 2)) P K := hK
  have hM := hK.1
  have hC := hK.1.1
  show K 0 [some (vR 2 0), some (vI x), none] [] σ
  refine r_rngz hC (fun g0 => ?_)
  have r_x : -2147483648 ≤ x ∧ x ≤ 2147483647 := inR_le (g0 (vI x) (by simp))
  refine r_iload_n hC dX5_back_0 rfl ?_
  refine r_iconst hC dX5_back_1 rfl ?_
  refine r_iconst hC dX5_back_2 rfl ?_
  refine z_ins3 hM dX5_back_3 tl_RX5_59 rfl (Nat.le_of_ble_eq_true rfl) (Nat.le_of_ble_eq_true rfl) ?_
  refine s_within (fun h2 => ?_) (fun h2 => ?_)
  · refine r_if_eq (tgt := 21) hC dX5_back_6 rfl (fun h3 => by omega) (fun h3 => ?_)
    refine r_aload_n hC dX5_back_9 rfl ?_
    refine z_getR hM dX5_back_10 fl_RX5_27 rfl rfl (vld_of (n := 1) rfl (by omega) (by omega)) ?_
    refine r_iload_n hC dX5_back_13 rfl ?_
    refine z_aald hM dX5_back_14 rfl (by decide) (by omega) (by omega) (vld_of (n := 7) rfl (by omega) (by omega)) ?_
    rw [show rfa 4 x = (7, (x + 4)) from by simp [rfa]; try omega]
    refine z_getI (jz := 1) hM dX5_back_15 fl_RX5_94 rfl rfl rfl (fun v4 h_v4 o_v4 t_v4 => ?_)
    have w_v4 := ((t_v4 (Or.inl (by simp [Tb]))).trans (rfl)).symm
    subst w_v4
    have q_v4 : 0 ≤ (σ 7 (x + 4) 1) ∧ (σ 7 (x + 4) 1) ≤ 1 := by have := o_v4.2.1 rfl; omega
    refine r_if_ne (tgt := 23) hC dX5_back_18 rfl (fun h5 => ?_) (fun h5 => ?_)
    · refine r_aload_n hC dX5_back_23 rfl ?_
      refine z_getR hM dX5_back_24 fl_RX5_27 rfl rfl (vld_of (n := 1) rfl (by omega) (by omega)) ?_
      refine r_iload_n hC dX5_back_27 rfl ?_
      refine z_aald hM dX5_back_28 rfl (by decide) (by omega) (by omega) (vld_of (n := 7) rfl (by omega) (by omega)) ?_
      rw [show rfa 4 x = (7, (x + 4)) from by simp [rfa]; try omega]
      refine r_astore_n hC dX5_back_29 rfl ?_
      refine r_aload_n hC dX5_back_30 rfl ?_
      refine z_getR hM dX5_back_31 fl_RX5_13 rfl rfl (vld_of (n := 1) rfl (by omega) (by omega)) ?_
      refine r_aload_n hC dX5_back_34 rfl ?_
      refine z_getI (jz := 0) hM dX5_back_35 fl_RX5_212 rfl rfl rfl (fun v6 h_v6 o_v6 t_v6 => ?_)
      have w_v6 := ((t_v6 (Or.inl (by simp [Tb]))).trans (rfl)).symm
      subst w_v6
      refine z_aald hM dX5_back_38 rfl (by decide) (by omega) (by omega) (vld_of (n := 7) rfl (by omega) (by omega)) ?_
      refine r_aload_n hC dX5_back_39 rfl ?_
      refine z_inv1 hM dX5_back_40 vl_RX5_349 rfl rfl rfl (Nat.le_of_ble_eq_true rfl) (Nat.le_of_ble_eq_true rfl) ?_
      refine x_copyL (by omega) (by omega) (by omega) ?_
      refine r_aload_n hC dX5_back_43 rfl ?_
      refine r_aload_n hC dX5_back_44 rfl ?_
      refine z_getI (jz := 0) hM dX5_back_45 fl_RX5_212 rfl rfl rfl (fun v7 h_v7 o_v7 t_v7 => ?_)
      have w_v7 := ((t_v7 (Or.inl (by simp [Tb]))).trans ((cpM_ne (by omega)).trans (rfl))).symm
      subst w_v7
      refine z_inv1 hM dX5_back_48 vl_RX5_117 rfl rfl rfl (Nat.le_of_ble_eq_true rfl) (Nat.le_of_ble_eq_true rfl) ?_
      refine x_endTies (by omega) ?_
      refine r_aload_n hC dX5_back_51 rfl ?_
      refine z_getI (jz := 6) hM dX5_back_52 fl_RX5_154 rfl rfl rfl (fun v8 h_v8 o_v8 t_v8 => ?_)
      have w_v8 := ((t_v8 (Or.inl (by simp [Tb]))).trans ((etM_ne (by omega)).trans ((cpM_ne (by omega)).trans (rfl)))).symm
      subst w_v8
      have q_v8 : 0 ≤ (σ 7 (x + 4) 6) ∧ (σ 7 (x + 4) 6) ≤ 121 := o_v8.1 rfl
      refine y_iret hK rfl dX5_back_55 ?_
      have hM : bkM σ x = (etM (cpM σ (x + 4) (σ 7 (x + 4) 0)) (σ 7 (x + 4) 0)) := by
        exact if_pos (by omega)
      rw [hM] at k
      have hR : bkR σ x = (σ 7 (x + 4) 6) := by
        exact if_pos (by omega)
      rw [hR] at k
      exact k
    · refine r_iconst hC dX5_back_21 rfl ?_
      refine y_iret hK rfl dX5_back_22 ?_
      have hM : bkM σ x = σ := by
        exact if_neg (by omega)
      rw [hM] at k
      have hR : bkR σ x = (-1) := by
        exact if_neg (by omega)
      rw [hR] at k
      exact k
  · refine r_if_eq (tgt := 21) hC dX5_back_6 rfl (fun h9 => ?_) (fun h9 => by omega)
    refine r_iconst hC dX5_back_21 rfl ?_
    refine y_iret hK rfl dX5_back_22 ?_
    have hM : bkM σ x = σ := by
      exact if_neg (by omega)
    rw [hM] at k
    have hR : bkR σ x = (-1) := by
      exact if_neg (by omega)
    rw [hR] at k
    exact k
theorem x_isLinkedTo {e : Ev} {d : Nat} {P : Option Vl → Mm → Prop} {σ : Mm} {l : Int}   (k1 : ¬ (∀ j : Int, 0 ≤ j → j < 4 → σ 13 j 0 ≠ l) → P (some (vI 1)) σ) (k0 : (∀ j : Int, 0 ≤ j → j < 4 → σ 13 j 0 ≠ l) → P (some (vI 0)) σ) : WT e (d + 1) 107 [vR 2 0, vI l] σ P := by
  refine WT_in fun K hK => ?_
  have hK : StpY e cX5_isLinkedTo RX5 (some .boolean) (WT e (d + 0)) P K := hK
  have hM := hK.1
  have hC := hK.1.1
  show K 0 [some (vR 2 0), some (vI l), none] [] σ
  refine r_rngz hC (fun g0 => ?_)
  have r_l : -2147483648 ≤ l ∧ l ≤ 2147483647 := inR_le (g0 (vI l) (by simp))
  refine r_iconst hC dX5_isLinkedTo_0 rfl ?_
  refine r_istore_n hC dX5_isLinkedTo_1 rfl ?_
  have L2 : ∀ (n2 : Nat) (w1 : Int), 0 ≤ w1 ∧ w1 ≤ 4 → (∀ j : Int, 0 ≤ j → j < (w1) → σ 13 j 0 ≠ l) → 4 - w1 < (n2 : Int) → K 2 [some (vR 2 0), some (vI l), some (vI w1)] [] σ := by
    intro n2
    induction n2 with
    | zero => intro w1  f_w1 i0_2 hm  ; omega
    | succ n2 ih2 =>
      intro w1  f_w1 i0_2 hm2  
      refine r_iload_n hC dX5_isLinkedTo_2 rfl ?_
      refine r_iconst hC dX5_isLinkedTo_3 rfl ?_
      refine r_icmp_ge (tgt := 28) hC dX5_isLinkedTo_4 rfl (fun h2 => ?_) (fun h2 => ?_)
      · refine r_iconst hC dX5_isLinkedTo_28 rfl ?_
        refine y_zret hK rfl dX5_isLinkedTo_29 (by omega) ?_
        exact k0 (fun j h0 h1 => i0_2 j h0 (by omega))
      · refine r_aload_n hC dX5_isLinkedTo_7 rfl ?_
        refine z_getR hM dX5_isLinkedTo_8 fl_RX5_19 rfl rfl (vld_of (n := 1) rfl (by omega) (by omega)) ?_
        refine r_iload_n hC dX5_isLinkedTo_11 rfl ?_
        refine z_aald hM dX5_isLinkedTo_12 rfl (by decide) (by omega) (by omega) (vld_of (n := 4) rfl (by omega) (by omega)) ?_
        refine z_getI (jz := 0) hM dX5_isLinkedTo_13 fl_RX5_215 rfl rfl rfl (fun v3 h_v3 o_v3 t_v3 => ?_)
        have w_v3 := ((t_v3 (Or.inl (by simp [Tb]))).trans (rfl)).symm
        subst w_v3
        refine r_iload_n hC dX5_isLinkedTo_16 rfl ?_
        refine r_icmp_ne (tgt := 22) hC dX5_isLinkedTo_17 rfl (fun h4 => ?_) (fun h4 => ?_)
        · refine r_iincE hC ((w1 + 1)) dX5_isLinkedTo_22 rfl rfl (by omega) (by unfold inR; omega) ?_
          refine r_goto (tgt := 2) hC dX5_isLinkedTo_25 rfl ?_
          exact ih2 ((w1 + 1))  (by omega) (by first | (intro j h0 h1; omega) | (intro j h0 h1; rcases (by omega : j < w1 ∨ j = w1) with h | h; exact i0_2 j h0 h; subst h; assumption)) (by omega)  
        · refine r_iconst hC dX5_isLinkedTo_20 rfl ?_
          refine y_zret hK rfl dX5_isLinkedTo_21 (by omega) ?_
          exact k1 (fun q => by have := q w1 (by omega) (by omega); omega)
  exact L2 6 (0)  (by omega) (by first | (intro j h0 h1; omega) | (intro j h0 h1; rcases (by omega : j < w1 ∨ j = w1) with h | h; exact i0_2 j h0 h; subst h; assumption)) (by omega)  
theorem x_Lbegin {e : Ev} {d : Nat} {P : Option Vl → Mm → Prop} {σ : Mm} {l o z w : Int} (b_l : 0 ≤ l ∧ l ≤ 3) (b_o : -1 ≤ o ∧ o ≤ 3)  (k : P none (lkM σ l o z w)) : WT e (d + 1) 39 [vR 13 l, vI o, vI z, vI w] σ P := by
  refine WT_in fun K hK => ?_
  have hK : StpY e cX3_begin RX3 (none) (WT e (d + 0)) P K := hK
  have hM := hK.1
  have hC := hK.1.1
  show K 0 [some (vR 13 l), some (vI o), some (vI z), some (vI w)] [] σ
  refine r_rngz hC (fun g0 => ?_)
  have r_z : -2147483648 ≤ z ∧ z ≤ 2147483647 := inR_le (g0 (vI z) (by simp))
  have r_w : -2147483648 ≤ w ∧ w ≤ 2147483647 := inR_le (g0 (vI w) (by simp))
  refine r_aload_n hC dX3_begin_0 rfl ?_
  refine r_iload_n hC dX3_begin_1 rfl ?_
  refine z_putIT (jz := 0) hM dX3_begin_2 fw_RX3_9 rfl rfl rfl ⟨Or.inr (by simp [DL]), Or.inr (by simp [DF])⟩ (by first | trivial | (simp only [Okv]; omega) | (simp [Okv]; try omega)) ?_
  refine r_aload_n hC dX3_begin_5 rfl ?_
  refine r_iload_n hC dX3_begin_6 rfl ?_
  refine z_putIT (jz := 1) hM dX3_begin_7 fw_RX3_15 rfl rfl rfl ⟨Or.inr (by simp [DL]), Or.inr (by simp [DF])⟩ (by first | trivial | (simp only [Okv]; omega) | (simp [Okv]; try omega)) ?_
  refine r_aload_n hC dX3_begin_10 rfl ?_
  refine r_iload_n hC dX3_begin_11 rfl ?_
  refine z_putIT (jz := 2) hM dX3_begin_12 fw_RX3_18 rfl rfl rfl ⟨Or.inr (by simp [DL]), Or.inr (by simp [DF])⟩ (by first | trivial | (simp only [Okv]; omega) | (simp [Okv]; try omega)) ?_
  refine r_aload_n hC dX3_begin_15 rfl ?_
  refine r_iconst hC dX3_begin_16 rfl ?_
  refine z_putIT (jz := 3) hM dX3_begin_17 fw_RX3_21 rfl rfl rfl ⟨Or.inr (by simp [DL]), Or.inr (by simp [DF])⟩ (by first | trivial | (simp only [Okv]; omega) | (simp [Okv]; try omega)) ?_
  refine y_vret hK rfl dX3_begin_20 ?_
  exact k
theorem x_link {ec : Bool} {d : Nat} {P : Option Vl → Mm → Prop} {σ : Mm} {l o z w : Int}   (k1 : lkC σ l o z w → P (some (vI 1)) (lkM σ l o z w)) (k0 : ¬ lkC σ l o z w → P (some (vI 0)) σ) : WT (true, false, ec) (d + 5) 104 [vR 2 0, vI l, vI o, vI z, vI w] σ P := by
  refine WT_in fun K hK => ?_
  have hK : StpY (true, false, ec) cX5_link RX5 (some .boolean) (WT (true, false, ec) (d + 4)) P K := hK
  have hM := hK.1
  have hC := hK.1.1
  show K 0 [some (vR 2 0), some (vI l), some (vI o), some (vI z), some (vI w), none] [] σ
  refine r_rngz hC (fun g0 => ?_)
  have r_l : -2147483648 ≤ l ∧ l ≤ 2147483647 := inR_le (g0 (vI l) (by simp))
  have r_o : -2147483648 ≤ o ∧ o ≤ 2147483647 := inR_le (g0 (vI o) (by simp))
  have r_z : -2147483648 ≤ z ∧ z ≤ 2147483647 := inR_le (g0 (vI z) (by simp))
  have r_w : -2147483648 ≤ w ∧ w ≤ 2147483647 := inR_le (g0 (vI w) (by simp))
  refine r_aload_n hC dX5_link_0 rfl ?_
  refine r_iload_n hC dX5_link_1 rfl ?_
  refine r_iload hC dX5_link_2 rfl ?_
  refine z_inv2 hM dX5_link_4 vl_RX5_248 rfl rfl rfl (Nat.le_of_ble_eq_true rfl) (Nat.le_of_ble_eq_true rfl) ?_
  refine x_laneWith (fun h1 => ?_) (fun h1 => ?_)
  · refine r_astore hC dX5_link_7 rfl ?_
    refine r_aload hC dX5_link_9 rfl ?_
    refine r_ifnullR hC dX5_link_11 ?_
    refine r_aload_n hC dX5_link_14 rfl ?_
    refine r_iload_n hC dX5_link_15 rfl ?_
    refine z_inv1 hM dX5_link_16 vl_RX5_123 rfl rfl rfl (Nat.le_of_ble_eq_true rfl) (Nat.le_of_ble_eq_true rfl) ?_
    refine x_openLane (fun h2 => ?_) (fun h2 => ?_)
    · -- h2
      refine r_ifnullR hC dX5_link_19 ?_
      refine r_iload_n hC dX5_link_22 rfl ?_
      refine r_iload_n hC dX5_link_23 rfl ?_
      refine r_icmp_eq (tgt := 34) hC dX5_link_24 rfl (fun h3 => ?_) (fun h3 => ?_)
      · refine r_iconst hC dX5_link_34 rfl ?_
        refine y_zret hK rfl dX5_link_35 (by omega) ?_
        exact k0 (fun q => by have q1 := q.1; have q2 := q.2.1; have q3 := q.2.2.1; have q4 := q.2.2.2.1; have q5 := q.2.2.2.2.1; have q6 := q.2.2.2.2.2; first | omega | exact hlk q6)
      · refine r_iload_n hC dX5_link_27 rfl ?_
        refine z_ins1 hM dX5_link_28 tl_RX5_285 rfl (Nat.le_of_ble_eq_true rfl) (Nat.le_of_ble_eq_true rfl) ?_
        refine s_isGap (fun h5 => ?_) (fun h5 => ?_)
        · refine r_if_ne (tgt := 36) hC dX5_link_31 rfl (fun h6 => ?_) (fun h6 => by omega)
          refine r_aload_n hC dX5_link_36 rfl ?_
          refine z_getR hM dX5_link_37 fl_RX5_19 rfl rfl (vld_of (n := 1) rfl (by omega) (by omega)) ?_
          refine r_iload_n hC dX5_link_40 rfl ?_
          refine z_aald hM dX5_link_41 rfl (by decide) (by omega) (by omega) (vld_of (n := 4) rfl (by omega) (by omega)) ?_
          refine z_getI (jz := 0) hM dX5_link_42 fl_RX5_215 rfl rfl rfl (fun v7 h_v7 o_v7 t_v7 => ?_)
          have w_v7 := ((t_v7 (Or.inl (by simp [Tb]))).trans (rfl)).symm
          subst w_v7
          refine r_iconst hC dX5_link_45 rfl ?_
          refine r_icmp_ne (tgt := 57) hC dX5_link_46 rfl (fun h8 => ?_) (fun h8 => ?_)
          · refine r_iconst hC dX5_link_57 rfl ?_
            refine y_zret hK rfl dX5_link_58 (by omega) ?_
            exact k0 (fun q => by have q1 := q.1; have q2 := q.2.1; have q3 := q.2.2.1; have q4 := q.2.2.2.1; have q5 := q.2.2.2.2.1; have q6 := q.2.2.2.2.2; first | omega | exact hlk q6)
          · refine r_aload_n hC dX5_link_49 rfl ?_
            refine r_iload_n hC dX5_link_50 rfl ?_
            refine z_inv1 hM dX5_link_51 vl_RX5_335 rfl rfl rfl (Nat.le_of_ble_eq_true rfl) (Nat.le_of_ble_eq_true rfl) ?_
            refine x_isLinkedTo (fun hlk => ?_) (fun hlk => ?_)
            · refine r_if_eq (tgt := 59) hC dX5_link_54 rfl (fun h9 => by omega) (fun h9 => ?_)
              refine r_iconst hC dX5_link_57 rfl ?_
              refine y_zret hK rfl dX5_link_58 (by omega) ?_
              exact k0 (fun q => by have q1 := q.1; have q2 := q.2.1; have q3 := q.2.2.1; have q4 := q.2.2.2.1; have q5 := q.2.2.2.2.1; have q6 := q.2.2.2.2.2; first | omega | exact hlk q6)
            · refine r_if_eq (tgt := 59) hC dX5_link_54 rfl (fun h10 => ?_) (fun h10 => by omega)
              refine r_aload_n hC dX5_link_59 rfl ?_
              refine z_getR hM dX5_link_60 fl_RX5_19 rfl rfl (vld_of (n := 1) rfl (by omega) (by omega)) ?_
              refine r_iload_n hC dX5_link_63 rfl ?_
              refine z_aald hM dX5_link_64 rfl (by decide) (by omega) (by omega) (vld_of (n := 4) rfl (by omega) (by omega)) ?_
              refine r_iload_n hC dX5_link_65 rfl ?_
              refine r_iload_n hC dX5_link_66 rfl ?_
              refine r_iload hC dX5_link_67 rfl ?_
              refine z_inv3 hM dX5_link_69 vl_RX5_338 rfl rfl rfl (Nat.le_of_ble_eq_true rfl) (Nat.le_of_ble_eq_true rfl) ?_
              refine x_Lbegin (by omega) (by omega) ?_
              refine r_iconst hC dX5_link_72 rfl ?_
              refine y_zret hK rfl dX5_link_73 (by omega) ?_
              exact k1 ⟨by omega, by omega, by omega, by omega, by omega, hlk⟩
        · refine r_if_ne (tgt := 36) hC dX5_link_31 rfl (fun h11 => by omega) (fun h11 => ?_)
          refine r_iconst hC dX5_link_34 rfl ?_
          refine y_zret hK rfl dX5_link_35 (by omega) ?_
          exact k0 (fun q => by have q1 := q.1; have q2 := q.2.1; have q3 := q.2.2.1; have q4 := q.2.2.2.1; have q5 := q.2.2.2.2.1; have q6 := q.2.2.2.2.2; first | omega | exact hlk q6)
    · -- h2
      refine r_ifnullN (tgt := 34) hC dX5_link_19 rfl ?_
      refine r_iconst hC dX5_link_34 rfl ?_
      refine y_zret hK rfl dX5_link_35 (by omega) ?_
      exact k0 (fun q => by have q1 := q.1; have q2 := q.2.1; have q3 := q.2.2.1; have q4 := q.2.2.2.1; have q5 := q.2.2.2.2.1; have q6 := q.2.2.2.2.2; first | omega | exact hlk q6)
  · refine r_astoreN hC dX5_link_7 rfl ?_
    refine r_aloadN hC dX5_link_9 rfl ?_
    refine r_ifnullN (tgt := 34) hC dX5_link_11 rfl ?_
    refine r_iconst hC dX5_link_34 rfl ?_
    refine y_zret hK rfl dX5_link_35 (by omega) ?_
    exact k0 (fun q => by have q1 := q.1; have q2 := q.2.1; have q3 := q.2.2.1; have q4 := q.2.2.2.1; have q5 := q.2.2.2.2.1; have q6 := q.2.2.2.2.2; first | omega | exact hlk q6)
theorem x_unlink {ec : Bool} {d : Nat} {P : Option Vl → Mm → Prop} {σ : Mm} {l : Int}   (k : P (some (vI (ulR σ l))) (ulM σ l)) : WT (true, false, ec) (d + 3) 105 [vR 2 0, vI l] σ P := by
  refine WT_in fun K hK => ?_
  have hK : StpY (true, false, ec) cX5_unlink RX5 (some .boolean) (WT (true, false, ec) (d + 2)) P K := hK
  have hM := hK.1
  have hC := hK.1.1
  show K 0 [some (vR 2 0), some (vI l)] [] σ
  refine r_rngz hC (fun g0 => ?_)
  have r_l : -2147483648 ≤ l ∧ l ≤ 2147483647 := inR_le (g0 (vI l) (by simp))
  refine r_iload_n hC dX5_unlink_0 rfl ?_
  refine z_ins1 hM dX5_unlink_1 tl_RX5_102 rfl (Nat.le_of_ble_eq_true rfl) (Nat.le_of_ble_eq_true rfl) ?_
  refine s_isLane (fun h2 => ?_) (fun h2 => ?_)
  · refine r_if_eq (tgt := 20) hC dX5_unlink_4 rfl (fun h3 => by omega) (fun h3 => ?_)
    refine r_aload_n hC dX5_unlink_7 rfl ?_
    refine z_getR hM dX5_unlink_8 fl_RX5_19 rfl rfl (vld_of (n := 1) rfl (by omega) (by omega)) ?_
    refine r_iload_n hC dX5_unlink_11 rfl ?_
    refine z_aald hM dX5_unlink_12 rfl (by decide) (by omega) (by omega) (vld_of (n := 4) rfl (by omega) (by omega)) ?_
    refine z_getI (jz := 0) hM dX5_unlink_13 fl_RX5_215 rfl rfl rfl (fun v4 h_v4 o_v4 t_v4 => ?_)
    have w_v4 := ((t_v4 (Or.inl (by simp [Tb]))).trans (rfl)).symm
    subst w_v4
    refine r_iconst hC dX5_unlink_16 rfl ?_
    refine r_icmp_ne (tgt := 22) hC dX5_unlink_17 rfl (fun h5 => ?_) (fun h5 => ?_)
    · refine r_aload_n hC dX5_unlink_22 rfl ?_
      refine z_getR hM dX5_unlink_23 fl_RX5_19 rfl rfl (vld_of (n := 1) rfl (by omega) (by omega)) ?_
      refine r_iload_n hC dX5_unlink_26 rfl ?_
      refine z_aald hM dX5_unlink_27 rfl (by decide) (by omega) (by omega) (vld_of (n := 4) rfl (by omega) (by omega)) ?_
      refine z_inv0 hM dX5_unlink_28 vl_RX5_340 rfl rfl rfl (Nat.le_of_ble_eq_true rfl) (Nat.le_of_ble_eq_true rfl) ?_
      refine x_lend (by omega) ?_
      refine r_iconst hC dX5_unlink_31 rfl ?_
      refine y_zret hK rfl dX5_unlink_32 (by omega) ?_
      have hM : ulM σ l = (mu σ 13 l 0 (-1)) := by
        exact if_pos (by omega)
      rw [hM] at k
      have hR : ulR σ l = 1 := by
        exact if_pos (by omega)
      rw [hR] at k
      exact k
    · refine r_iconst hC dX5_unlink_20 rfl ?_
      refine y_zret hK rfl dX5_unlink_21 (by omega) ?_
      have hM : ulM σ l = σ := by
        exact if_neg (by omega)
      rw [hM] at k
      have hR : ulR σ l = 0 := by
        exact if_neg (by omega)
      rw [hR] at k
      exact k
  · refine r_if_eq (tgt := 20) hC dX5_unlink_4 rfl (fun h6 => ?_) (fun h6 => by omega)
    refine r_iconst hC dX5_unlink_20 rfl ?_
    refine y_zret hK rfl dX5_unlink_21 (by omega) ?_
    have hM : ulM σ l = σ := by
      exact if_neg (by omega)
    rw [hM] at k
    have hR : ulR σ l = 0 := by
      exact if_neg (by omega)
    rw [hR] at k
    exact k
-- B: WATCHES told, TABLE and LETTERS
abbrev lwC (V : Mm) (l w : Int) : Prop := opV V l ∧ 0 ≤ w ∧ w < numF (V 7 l 2)
abbrev wtC (V : Mm) (v l w : Int) : Prop := lwC V l w ∧ 0 ≤ v ∧ v ≤ 7
def rc1 (V : Mm) (l w b : Int) : Int := if nmV V l w ≠ NO ∧ b ≤ nmV V l w then 1 else 0
def wtM (V : Mm) (v l w b : Int) : Mm := if wtC V v l w then mu (mu (mu (mu (mu (mu V 12 v 0 l) 12 v 1 w) 12 v 2 b) 12 v 3 (rc1 V l w b)) 12 v 4 0) 12 v 5 (-1) else V
def wtR (V : Mm) (v l w b : Int) : Int := if wtC V v l w then rc1 V l w b else -1
theorem rc1_01 (V : Mm) (l w b : Int) : rc1 V l w b = 0 ∨ rc1 V l w b = 1 := by
  unfold rc1
  split
  · exact Or.inr rfl
  · exact Or.inl rfl
theorem nmV_c {V W : Mm} {l w : Int} (h16 : W 16 = V 16) (h15 : W 15 = V 15) (h7 : W 7 = V 7) (h9 : W 9 = V 9) : nmV W l w = nmV V l w := by
  unfold nmV
  rw [h16, h15, h7, h9]
-- B: the class: watch, table, letter
theorem x_Wbegin {e : Ev} {d : Nat} {P : Option Vl → Mm → Prop} {σ : Mm} {v l w b z : Int} (b_v : 0 ≤ v ∧ v ≤ 7) (b_z : 0 ≤ z ∧ z ≤ 1)  (k : P none (mu (mu (mu (mu (mu (mu σ 12 v 0 l) 12 v 1 w) 12 v 2 b) 12 v 3 z) 12 v 4 0) 12 v 5 (-1))) : WT e (d + 1) 43 [vR 12 v, vI l, vI w, vI b, vI z] σ P := by
  refine WT_in fun K hK => ?_
  have hK : StpY e cX4_begin RX4 (none) (WT e (d + 0)) P K := hK
  have hM := hK.1
  have hC := hK.1.1
  show K 0 [some (vR 12 v), some (vI l), some (vI w), some (vI b), some (vI z)] [] σ
  refine r_rngz hC (fun g0 => ?_)
  have r_l : -2147483648 ≤ l ∧ l ≤ 2147483647 := inR_le (g0 (vI l) (by simp))
  have r_w : -2147483648 ≤ w ∧ w ≤ 2147483647 := inR_le (g0 (vI w) (by simp))
  have r_b : -2147483648 ≤ b ∧ b ≤ 2147483647 := inR_le (g0 (vI b) (by simp))
  refine r_aload_n hC dX4_begin_0 rfl ?_
  refine r_iload_n hC dX4_begin_1 rfl ?_
  refine z_putIT (jz := 0) hM dX4_begin_2 fw_RX4_9 rfl rfl rfl ⟨Or.inr (by simp [DL]), Or.inr (by simp [DF])⟩ (by first | trivial | (simp only [Okv]; omega) | (simp [Okv]; try omega)) ?_
  refine r_aload_n hC dX4_begin_5 rfl ?_
  refine r_iload_n hC dX4_begin_6 rfl ?_
  refine z_putIT (jz := 1) hM dX4_begin_7 fw_RX4_15 rfl rfl rfl ⟨Or.inr (by simp [DL]), Or.inr (by simp [DF])⟩ (by first | trivial | (simp only [Okv]; omega) | (simp [Okv]; try omega)) ?_
  refine r_aload_n hC dX4_begin_10 rfl ?_
  refine r_iload_n hC dX4_begin_11 rfl ?_
  refine z_putIT (jz := 2) hM dX4_begin_12 fw_RX4_18 rfl rfl rfl ⟨Or.inr (by simp [DL]), Or.inr (by simp [DF])⟩ (by first | trivial | (simp only [Okv]; omega) | (simp [Okv]; try omega)) ?_
  refine r_aload_n hC dX4_begin_15 rfl ?_
  refine r_iload hC dX4_begin_16 rfl ?_
  refine z_putZT (jz := 3) hM dX4_begin_18 fw_RX4_21 rfl rfl rfl (by omega) ⟨Or.inr (by simp [DL]), Or.inr (by simp [DF])⟩ (by first | trivial | (simp only [Okv]; omega) | (simp [Okv]; try omega)) ?_
  refine r_aload_n hC dX4_begin_21 rfl ?_
  refine r_iconst hC dX4_begin_22 rfl ?_
  refine z_putIT (jz := 4) hM dX4_begin_23 fw_RX4_25 rfl rfl rfl ⟨Or.inr (by simp [DL]), Or.inr (by simp [DF])⟩ (by first | trivial | (simp only [Okv]; omega) | (simp [Okv]; try omega)) ?_
  refine r_aload_n hC dX4_begin_26 rfl ?_
  refine r_iconst hC dX4_begin_27 rfl ?_
  refine z_putIT (jz := 5) hM dX4_begin_28 fw_RX4_28 rfl rfl rfl ⟨Or.inr (by simp [DL]), Or.inr (by simp [DF])⟩ (by first | trivial | (simp only [Okv]; omega) | (simp [Okv]; try omega)) ?_
  refine y_vret hK rfl dX4_begin_31 ?_
  exact k
theorem x_watch_S {eb : Bool} {d : Nat} {P : Option Vl → Mm → Prop} {σ : Mm} {v l w b : Int}  (hI : InF σ) (hhL : ∀ l : Int, 0 ≤ l → l ≤ 3 → 0 ≤ σ 7 l 6 ∧ σ 7 l 6 ≤ 120)  (k : ∀ ρ : Mm, (∀ (c : Nat) (x y : Int), ¬ Fo c → ρ c x y = wtM σ v l w b c x y) → InF ρ → P (some (vI (wtR σ v l w b))) ρ) : WT (true, true, eb) (d + 5) 98 [vR 2 0, vI v, vI l, vI w, vI b] σ P := by
  refine WT_in fun K hK => ?_
  have hK : StpY (true, true, eb) cX5_watch RX5 (some .int) (WT (true, true, eb) (d + 4)) P K := hK
  have hM := hK.1
  have hC := hK.1.1
  show K 0 [some (vR 2 0), some (vI v), some (vI l), some (vI w), some (vI b), none, none] [] σ
  refine z_ok hM (fun hok => ?_)
  refine r_rngz hC (fun g0 => ?_)
  have r_v : -2147483648 ≤ v ∧ v ≤ 2147483647 := inR_le (g0 (vI v) (by simp))
  have r_l : -2147483648 ≤ l ∧ l ≤ 2147483647 := inR_le (g0 (vI l) (by simp))
  have r_w : -2147483648 ≤ w ∧ w ≤ 2147483647 := inR_le (g0 (vI w) (by simp))
  have r_b : -2147483648 ≤ b ∧ b ≤ 2147483647 := inR_le (g0 (vI b) (by simp))
  have h6L := hhL l
  refine r_aload_n hC dX5_watch_0 rfl ?_
  refine r_iload_n hC dX5_watch_1 rfl ?_
  refine r_iload_n hC dX5_watch_2 rfl ?_
  refine z_inv2 hM dX5_watch_3 vl_RX5_248 rfl rfl rfl (Nat.le_of_ble_eq_true rfl) (Nat.le_of_ble_eq_true rfl) ?_
  refine x_laneWith (fun h1 => ?_) (fun h1 => ?_)
  · refine r_astore hC dX5_watch_6 rfl ?_
    refine r_aload hC dX5_watch_8 rfl ?_
    refine r_ifnullR hC dX5_watch_10 ?_
    refine r_iload_n hC dX5_watch_13 rfl ?_
    refine r_iconst hC dX5_watch_14 rfl ?_
    refine r_bipush hC dX5_watch_15 rfl ?_
    refine z_ins3 hM dX5_watch_17 tl_RX5_59 rfl (Nat.le_of_ble_eq_true rfl) (Nat.le_of_ble_eq_true rfl) ?_
    refine s_within (fun h3 => ?_) (fun h3 => ?_)
    · refine r_if_ne (tgt := 25) hC dX5_watch_20 rfl (fun h4 => ?_) (fun h4 => by omega)
      refine r_aload_n hC dX5_watch_25 rfl ?_
      refine r_aload hC dX5_watch_26 rfl ?_
      refine r_iconst hC dX5_watch_28 rfl ?_
      refine r_aload hC dX5_watch_29 rfl ?_
      refine z_getI (jz := 6) hM dX5_watch_31 fl_RX5_154 rfl rfl rfl (fun v5 h_v5 o_v5 t_v5 => ?_)
      have w_v5 := ((t_v5 (Or.inl (by simp [Tb]))).trans (rfl)).symm
      subst w_v5
      have q_v5 : 0 ≤ (σ 7 l 6) ∧ (σ 7 l 6) ≤ 121 := o_v5.1 rfl
      refine z_inv3 hM dX5_watch_34 vl_RX5_259 rfl rfl rfl (Nat.le_of_ble_eq_true rfl) (Nat.le_of_ble_eq_true rfl) ?_
      refine x_foldPart (by omega) (by omega) (by omega) (fun ρ6 g_ρ6 r_ρ6 => ?_)
      have t_ρ6 : ∀ (c : Nat) (p q : Int), ¬ Fo c → ρ6 c p q = σ c p q := fun c p q hc => (g_ρ6 c p q (by omega))
      rw [fun0, show (((σ 7 l 6)) - 0).toNat = (σ 7 l 6).toNat from by omega] at r_ρ6
      refine r_aload_n hC dX5_watch_37 rfl ?_
      refine z_getR hM dX5_watch_38 fl_RX5_40 rfl rfl (vld_of (n := 1) rfl (by omega) (by omega)) ?_
      refine r_iload_n hC dX5_watch_41 rfl ?_
      refine r_iload hC dX5_watch_42 rfl ?_
      refine z_inv2 hM dX5_watch_44 vl_RX5_256 rfl rfl rfl (Nat.le_of_ble_eq_true rfl) (Nat.le_of_ble_eq_true rfl) ?_
      refine x_reaches (o := σ 7 l 2) (u := σ 9 l) (n := (σ 7 l 6).toNat) (by have := hok 7 l 2 (Or.inl (by simp [Tb])); exact this.2.2 rfl) (by omega) r_ρ6 (fun h7 => ?_) (fun h7 => ?_)
      · have hz : rc1 σ l w b = 1 := by
          unfold rc1 nmV
          rw [show ρ6 16 0 = σ 16 0 from funext fun y => t_ρ6 16 0 y (by omega), show ρ6 15 0 = σ 15 0 from funext fun y => t_ρ6 15 0 y (by omega)] at h7
          exact if_pos h7
        refine r_istore hC dX5_watch_47 rfl ?_
        refine r_aload_n hC dX5_watch_49 rfl ?_
        refine z_getR hM dX5_watch_50 fl_RX5_32 rfl rfl (vld_of (n := 1) rfl (by omega) (by omega)) ?_
        refine r_iload_n hC dX5_watch_53 rfl ?_
        refine z_aald hM dX5_watch_54 rfl (by decide) (by omega) (by omega) (vld_of (n := 8) rfl (by omega) (by omega)) ?_
        refine r_iload_n hC dX5_watch_55 rfl ?_
        refine r_iload_n hC dX5_watch_56 rfl ?_
        refine r_iload hC dX5_watch_57 rfl ?_
        refine r_iload hC dX5_watch_59 rfl ?_
        refine z_inv4 hM dX5_watch_61 vl_RX5_309 rfl rfl rfl (Nat.le_of_ble_eq_true rfl) (Nat.le_of_ble_eq_true rfl) ?_
        refine x_Wbegin (by omega) (by omega) ?_
        refine r_iload hC dX5_watch_64 rfl ?_
        refine r_if_eq (tgt := 73) hC dX5_watch_66 rfl (fun h8 => by omega) (fun h8 => ?_)
        refine r_iconst hC dX5_watch_69 rfl ?_
        refine r_goto (tgt := 74) hC dX5_watch_70 rfl ?_
        refine y_iret hK rfl dX5_watch_74 ?_
        have hM : wtM σ v l w b = mu (mu (mu (mu (mu (mu σ 12 v 0 l) 12 v 1 w) 12 v 2 b) 12 v 3 (rc1 σ l w b)) 12 v 4 0) 12 v 5 (-1) := if_pos (by omega)
        have hR : wtR σ v l w b = rc1 σ l w b := if_pos (by omega)
        rw [hM, hR, hz] at k
        refine k _ (fun c p q hc => ?_) (InF.to (FRc.inF r_ρ6 (fun j h0 h1 => by rw [t_ρ6 15 0 j (by omega)]; exact hok 15 0 j (Or.inl trivial))) (fun c p q hD => ?_))
        · unfold mu
          rw [t_ρ6 c p q hc]
        · have hk := DF_k hD
          rw [mu_ne (by omega), mu_ne (by omega), mu_ne (by omega), mu_ne (by omega), mu_ne (by omega), mu_ne (by omega)]
      · have hz : rc1 σ l w b = 0 := by
          unfold rc1 nmV
          rw [show ρ6 16 0 = σ 16 0 from funext fun y => t_ρ6 16 0 y (by omega), show ρ6 15 0 = σ 15 0 from funext fun y => t_ρ6 15 0 y (by omega)] at h7
          exact if_neg h7
        refine r_istore hC dX5_watch_47 rfl ?_
        refine r_aload_n hC dX5_watch_49 rfl ?_
        refine z_getR hM dX5_watch_50 fl_RX5_32 rfl rfl (vld_of (n := 1) rfl (by omega) (by omega)) ?_
        refine r_iload_n hC dX5_watch_53 rfl ?_
        refine z_aald hM dX5_watch_54 rfl (by decide) (by omega) (by omega) (vld_of (n := 8) rfl (by omega) (by omega)) ?_
        refine r_iload_n hC dX5_watch_55 rfl ?_
        refine r_iload_n hC dX5_watch_56 rfl ?_
        refine r_iload hC dX5_watch_57 rfl ?_
        refine r_iload hC dX5_watch_59 rfl ?_
        refine z_inv4 hM dX5_watch_61 vl_RX5_309 rfl rfl rfl (Nat.le_of_ble_eq_true rfl) (Nat.le_of_ble_eq_true rfl) ?_
        refine x_Wbegin (by omega) (by omega) ?_
        refine r_iload hC dX5_watch_64 rfl ?_
        refine r_if_eq (tgt := 73) hC dX5_watch_66 rfl (fun h9 => ?_) (fun h9 => by omega)
        refine r_iconst hC dX5_watch_73 rfl ?_
        refine y_iret hK rfl dX5_watch_74 ?_
        have hM : wtM σ v l w b = mu (mu (mu (mu (mu (mu σ 12 v 0 l) 12 v 1 w) 12 v 2 b) 12 v 3 (rc1 σ l w b)) 12 v 4 0) 12 v 5 (-1) := if_pos (by omega)
        have hR : wtR σ v l w b = rc1 σ l w b := if_pos (by omega)
        rw [hM, hR, hz] at k
        refine k _ (fun c p q hc => ?_) (InF.to (FRc.inF r_ρ6 (fun j h0 h1 => by rw [t_ρ6 15 0 j (by omega)]; exact hok 15 0 j (Or.inl trivial))) (fun c p q hD => ?_))
        · unfold mu
          rw [t_ρ6 c p q hc]
        · have hk := DF_k hD
          rw [mu_ne (by omega), mu_ne (by omega), mu_ne (by omega), mu_ne (by omega), mu_ne (by omega), mu_ne (by omega)]
    · refine r_if_ne (tgt := 25) hC dX5_watch_20 rfl (fun h10 => by omega) (fun h10 => ?_)
      refine r_iconst hC dX5_watch_23 rfl ?_
      refine y_iret hK rfl dX5_watch_24 ?_
      have hM : wtM σ v l w b = σ := if_neg (by omega)
      have hR : wtR σ v l w b = -1 := if_neg (by omega)
      rw [hM, hR] at k
      exact k σ (fun _ _ _ _ => rfl) hI
  · refine r_astoreN hC dX5_watch_6 rfl ?_
    refine r_aloadN hC dX5_watch_8 rfl ?_
    refine r_ifnullN (tgt := 23) hC dX5_watch_10 rfl ?_
    refine r_iconst hC dX5_watch_23 rfl ?_
    refine y_iret hK rfl dX5_watch_24 ?_
    have hM : wtM σ v l w b = σ := if_neg (by omega)
    have hR : wtR σ v l w b = -1 := if_neg (by omega)
    rw [hM, hR] at k
    exact k σ (fun _ _ _ _ => rfl) hI
theorem wtC_c {V W : Mm} {v l w : Int} (h : W 7 = V 7) : wtC W v l w ↔ wtC V v l w := by
  unfold wtC lwC opV
  rw [h]
theorem rc1_c {V W : Mm} {l w b : Int} (h : ∀ c : Nat, ¬ Fo c → W c = V c) : rc1 W l w b = rc1 V l w b := by
  unfold rc1
  rw [nmV_c (h 16 (by decide)) (h 15 (by decide)) (h 7 (by decide)) (h 9 (by decide))]
theorem wtM_c {V W : Mm} {v l w b : Int} (h : ∀ c : Nat, ¬ Fo c → W c = V c) {c : Nat} (hc : ¬ Fo c) (x y : Int) : wtM W v l w b c x y = wtM V v l w b c x y := by
  unfold wtM
  have hw := wtC_c (v := v) (l := l) (w := w) (h 7 (by decide))
  by_cases q : wtC V v l w
  · rw [if_pos q, if_pos (hw.mpr q), rc1_c h]
    unfold mu
    rw [h c hc]
  · rw [if_neg q, if_neg (fun z => q (hw.mp z)), h c hc]
theorem wtR_c {V W : Mm} {v l w b : Int} (h : ∀ c : Nat, ¬ Fo c → W c = V c) : wtR W v l w b = wtR V v l w b := by
  unfold wtR
  have hw := wtC_c (v := v) (l := l) (w := w) (h 7 (by decide))
  by_cases q : wtC V v l w
  · rw [if_pos q, if_pos (hw.mpr q), rc1_c h]
  · rw [if_neg q, if_neg (fun z => q (hw.mp z))]
theorem x_watch {eb : Bool} {d : Nat} {P : Option Vl → Mm → Prop} {σ : Mm} {v l w b : Int} (hhL : ∀ l : Int, 0 ≤ l → l ≤ 3 → 0 ≤ σ 7 l 6 ∧ σ 7 l 6 ≤ 120) (k : P (some (vI (wtR σ v l w b))) (wtM σ v l w b)) : WT (true, false, eb) (d + 5) 98 [vR 2 0, vI v, vI l, vI w, vI b] σ P := WT_fold fun ρ e hI => x_watch_S hI (by rw [e 7 (by decide)]; exact hhL) (fun ρ2 g hI2 => ⟨hI2, wtM σ v l w b, by rw [wtR_c e]; exact k, fun c x y hc => (g c x y hc).trans (wtM_c e hc x y)⟩)
theorem x_isUsed {e : Ev} {d : Nat} {P : Option Vl → Mm → Prop} {σ : Mm} {o : Int}   (k1 : usV σ o → P (some (vI 1)) σ) (k0 : ¬ usV σ o → P (some (vI 0)) σ) : WT e (d + 1) 57 [vR 2 0, vI o] σ P := by
  refine WT_in fun K hK => ?_
  have hK : StpY e cX5_isUsed RX5 (some .boolean) (WT e (d + 0)) P K := hK
  have hM := hK.1
  have hC := hK.1.1
  show K 0 [some (vR 2 0), some (vI o), none] [] σ
  refine r_rngz hC (fun g0 => ?_)
  have r_o : -2147483648 ≤ o ∧ o ≤ 2147483647 := inR_le (g0 (vI o) (by simp))
  refine r_iconst hC dX5_isUsed_0 rfl ?_
  refine r_istore_n hC dX5_isUsed_1 rfl ?_
  have L2 : ∀ (n2 : Nat) (w1 : Int), 0 ≤ w1 ∧ w1 ≤ 4 → (∀ j : Int, 0 ≤ j → j < (w1) → ¬ (σ 7 j 1 = 1 ∧ σ 7 j 2 = o)) → 4 - w1 < (n2 : Int) → K 2 [some (vR 2 0), some (vI o), some (vI w1)] [] σ := by
    intro n2
    induction n2 with
    | zero => intro w1  f_w1 i0_2 hm  ; omega
    | succ n2 ih2 =>
      intro w1  f_w1 i0_2 hm2  
      refine r_iload_n hC dX5_isUsed_2 rfl ?_
      refine r_iconst hC dX5_isUsed_3 rfl ?_
      refine r_icmp_ge (tgt := 40) hC dX5_isUsed_4 rfl (fun h2 => ?_) (fun h2 => ?_)
      · refine r_iconst hC dX5_isUsed_40 rfl ?_
        refine r_istore_n hC dX5_isUsed_41 rfl ?_
        have L42 : ∀ (n42 : Nat) (w3 : Int), 0 ≤ w3 ∧ w3 ≤ 3 → (∀ j : Int, 0 ≤ j → j < (w3) + 4 → ¬ (σ 7 j 1 = 1 ∧ σ 7 j 2 = o)) → 3 - w3 < (n42 : Int) → K 42 [some (vR 2 0), some (vI o), some (vI w3)] [] σ := by
          intro n42
          induction n42 with
          | zero => intro w3  f_w3 i0_42 hm  ; omega
          | succ n42 ih42 =>
            intro w3  f_w3 i0_42 hm42  
            refine r_iload_n hC dX5_isUsed_42 rfl ?_
            refine r_iconst hC dX5_isUsed_43 rfl ?_
            refine r_icmp_ge (tgt := 80) hC dX5_isUsed_44 rfl (fun h4 => ?_) (fun h4 => ?_)
            · refine r_iconst hC dX5_isUsed_80 rfl ?_
              refine y_zret hK rfl dX5_isUsed_81 (by omega) ?_
              exact k0 (by rintro ⟨j, j0, j1, j2⟩; exact i0_42 j j0.1 (by omega) ⟨j1, j2⟩)
            · refine r_aload_n hC dX5_isUsed_47 rfl ?_
              refine z_getR hM dX5_isUsed_48 fl_RX5_27 rfl rfl (vld_of (n := 1) rfl (by omega) (by omega)) ?_
              refine r_iload_n hC dX5_isUsed_51 rfl ?_
              refine z_aald hM dX5_isUsed_52 rfl (by decide) (by omega) (by omega) (vld_of (n := 7) rfl (by omega) (by omega)) ?_
              rw [show rfa 4 w3 = (7, (w3 + 4)) from by simp [rfa]; try omega]
              refine z_getI (jz := 1) hM dX5_isUsed_53 fl_RX5_94 rfl rfl rfl (fun v5 h_v5 o_v5 t_v5 => ?_)
              have w_v5 := ((t_v5 (Or.inl (by simp [Tb]))).trans (rfl)).symm
              subst w_v5
              have q_v5 : 0 ≤ (σ 7 (w3 + 4) 1) ∧ (σ 7 (w3 + 4) 1) ≤ 1 := by have := o_v5.2.1 rfl; omega
              refine r_if_eq (tgt := 74) hC dX5_isUsed_56 rfl (fun h6 => ?_) (fun h6 => ?_)
              · refine r_iincE hC ((w3 + 1)) dX5_isUsed_74 rfl rfl (by omega) (by unfold inR; omega) ?_
                refine r_goto (tgt := 42) hC dX5_isUsed_77 rfl ?_
                exact ih42 ((w3 + 1))  (by omega) (by intro j h0 h1; first | exact i0_2 j h0 (by omega) | (rcases (by omega : j < w3 + 4 ∨ j = w3 + 4) with h | h; exact i0_42 j h0 h; subst h; omega)) (by omega)  
              · refine r_aload_n hC dX5_isUsed_59 rfl ?_
                refine z_getR hM dX5_isUsed_60 fl_RX5_27 rfl rfl (vld_of (n := 1) rfl (by omega) (by omega)) ?_
                refine r_iload_n hC dX5_isUsed_63 rfl ?_
                refine z_aald hM dX5_isUsed_64 rfl (by decide) (by omega) (by omega) (vld_of (n := 7) rfl (by omega) (by omega)) ?_
                rw [show rfa 4 w3 = (7, (w3 + 4)) from by simp [rfa]; try omega]
                refine z_getI (jz := 2) hM dX5_isUsed_65 fl_RX5_98 rfl rfl rfl (fun v7 h_v7 o_v7 t_v7 => ?_)
                have w_v7 := ((t_v7 (Or.inl (by simp [Tb]))).trans (rfl)).symm
                subst w_v7
                have q_v7 : 0 ≤ (σ 7 (w3 + 4) 2) ∧ (σ 7 (w3 + 4) 2) ≤ 9 := o_v7.2.2 rfl
                refine r_iload_n hC dX5_isUsed_68 rfl ?_
                refine r_icmp_ne (tgt := 74) hC dX5_isUsed_69 rfl (fun h8 => ?_) (fun h8 => ?_)
                · refine r_iincE hC ((w3 + 1)) dX5_isUsed_74 rfl rfl (by omega) (by unfold inR; omega) ?_
                  refine r_goto (tgt := 42) hC dX5_isUsed_77 rfl ?_
                  exact ih42 ((w3 + 1))  (by omega) (by intro j h0 h1; first | exact i0_2 j h0 (by omega) | (rcases (by omega : j < w3 + 4 ∨ j = w3 + 4) with h | h; exact i0_42 j h0 h; subst h; omega)) (by omega)  
                · refine r_iconst hC dX5_isUsed_72 rfl ?_
                  refine y_zret hK rfl dX5_isUsed_73 (by omega) ?_
                  exact k1 ⟨w3 + 4, by omega, by omega, by omega⟩
        exact L42 5 (0)  (by omega) (by intro j h0 h1; first | exact i0_2 j h0 (by omega) | (rcases (by omega : j < w3 + 4 ∨ j = w3 + 4) with h | h; exact i0_42 j h0 h; subst h; omega)) (by omega)  
      · refine r_aload_n hC dX5_isUsed_7 rfl ?_
        refine z_getR hM dX5_isUsed_8 fl_RX5_13 rfl rfl (vld_of (n := 1) rfl (by omega) (by omega)) ?_
        refine r_iload_n hC dX5_isUsed_11 rfl ?_
        refine z_aald hM dX5_isUsed_12 rfl (by decide) (by omega) (by omega) (vld_of (n := 7) rfl (by omega) (by omega)) ?_
        refine z_getI (jz := 1) hM dX5_isUsed_13 fl_RX5_94 rfl rfl rfl (fun v9 h_v9 o_v9 t_v9 => ?_)
        have w_v9 := ((t_v9 (Or.inl (by simp [Tb]))).trans (rfl)).symm
        subst w_v9
        have q_v9 : 0 ≤ (σ 7 w1 1) ∧ (σ 7 w1 1) ≤ 1 := by have := o_v9.2.1 rfl; omega
        refine r_if_eq (tgt := 34) hC dX5_isUsed_16 rfl (fun h10 => ?_) (fun h10 => ?_)
        · refine r_iincE hC ((w1 + 1)) dX5_isUsed_34 rfl rfl (by omega) (by unfold inR; omega) ?_
          refine r_goto (tgt := 2) hC dX5_isUsed_37 rfl ?_
          exact ih2 ((w1 + 1))  (by omega) (by intro j h0 h1; first | omega | (rcases (by omega : j < w1 ∨ j = w1) with h | h; exact i0_2 j h0 h; subst h; omega)) (by omega)  
        · refine r_aload_n hC dX5_isUsed_19 rfl ?_
          refine z_getR hM dX5_isUsed_20 fl_RX5_13 rfl rfl (vld_of (n := 1) rfl (by omega) (by omega)) ?_
          refine r_iload_n hC dX5_isUsed_23 rfl ?_
          refine z_aald hM dX5_isUsed_24 rfl (by decide) (by omega) (by omega) (vld_of (n := 7) rfl (by omega) (by omega)) ?_
          refine z_getI (jz := 2) hM dX5_isUsed_25 fl_RX5_98 rfl rfl rfl (fun v11 h_v11 o_v11 t_v11 => ?_)
          have w_v11 := ((t_v11 (Or.inl (by simp [Tb]))).trans (rfl)).symm
          subst w_v11
          have q_v11 : 0 ≤ (σ 7 w1 2) ∧ (σ 7 w1 2) ≤ 9 := o_v11.2.2 rfl
          refine r_iload_n hC dX5_isUsed_28 rfl ?_
          refine r_icmp_ne (tgt := 34) hC dX5_isUsed_29 rfl (fun h12 => ?_) (fun h12 => ?_)
          · refine r_iincE hC ((w1 + 1)) dX5_isUsed_34 rfl rfl (by omega) (by unfold inR; omega) ?_
            refine r_goto (tgt := 2) hC dX5_isUsed_37 rfl ?_
            exact ih2 ((w1 + 1))  (by omega) (by intro j h0 h1; first | omega | (rcases (by omega : j < w1 ∨ j = w1) with h | h; exact i0_2 j h0 h; subst h; omega)) (by omega)  
          · refine r_iconst hC dX5_isUsed_32 rfl ?_
            refine y_zret hK rfl dX5_isUsed_33 (by omega) ?_
            exact k1 ⟨w1, by omega, by omega, by omega⟩
  exact L2 6 (0)  (by omega) (by intro j h0 h1; first | omega | (rcases (by omega : j < w1 ∨ j = w1) with h | h; exact i0_2 j h0 h; subst h; omega)) (by omega)  
theorem x_table {ec : Bool} {d : Nat} {P : Option Vl → Mm → Prop} {σ : Mm} {x y : Int}   (k1 : ((0 ≤ x ∧ x ≤ 15) ∧ 0 ≤ y ∧ y ≤ 3) ∧ ¬ usV σ 9 → P (some (vI 1)) (mu σ 15 0 x y)) (k0 : ¬ (((0 ≤ x ∧ x ≤ 15) ∧ 0 ≤ y ∧ y ≤ 3) ∧ ¬ usV σ 9) → P (some (vI 0)) σ) : WT (true, false, ec) (d + 2) 47 [vR 2 0, vI x, vI y] σ P := by
  refine WT_in fun K hK => ?_
  have hK : StpY (true, false, ec) cX5_table RX5 (some .boolean) (WT (true, false, ec) (d + 1)) P K := hK
  have hM := hK.1
  have hC := hK.1.1
  show K 0 [some (vR 2 0), some (vI x), some (vI y)] [] σ
  refine r_rngz hC (fun g0 => ?_)
  have r_x : -2147483648 ≤ x ∧ x ≤ 2147483647 := inR_le (g0 (vI x) (by simp))
  have r_y : -2147483648 ≤ y ∧ y ≤ 2147483647 := inR_le (g0 (vI y) (by simp))
  refine r_iload_n hC dX5_table_0 rfl ?_
  refine r_iconst hC dX5_table_1 rfl ?_
  refine r_bipush hC dX5_table_2 rfl ?_
  refine z_ins3 hM dX5_table_4 tl_RX5_59 rfl (Nat.le_of_ble_eq_true rfl) (Nat.le_of_ble_eq_true rfl) ?_
  refine s_within (fun h2 => ?_) (fun h2 => ?_)
  · refine r_if_eq (tgt := 28) hC dX5_table_7 rfl (fun h3 => by omega) (fun h3 => ?_)
    refine r_iload_n hC dX5_table_10 rfl ?_
    refine r_iconst hC dX5_table_11 rfl ?_
    refine r_iconst hC dX5_table_12 rfl ?_
    refine z_ins3 hM dX5_table_13 tl_RX5_59 rfl (Nat.le_of_ble_eq_true rfl) (Nat.le_of_ble_eq_true rfl) ?_
    refine s_within (fun h5 => ?_) (fun h5 => ?_)
    · refine r_if_eq (tgt := 28) hC dX5_table_16 rfl (fun h6 => by omega) (fun h6 => ?_)
      refine r_aload_n hC dX5_table_19 rfl ?_
      refine r_bipush hC dX5_table_20 rfl ?_
      refine z_inv1 hM dX5_table_22 vl_RX5_63 rfl rfl rfl (Nat.le_of_ble_eq_true rfl) (Nat.le_of_ble_eq_true rfl) ?_
      refine x_isUsed (fun hus => ?_) (fun hus => ?_)
      · refine r_if_eq (tgt := 30) hC dX5_table_25 rfl (fun h7 => by omega) (fun h7 => ?_)
        refine r_iconst hC dX5_table_28 rfl ?_
        refine y_zret hK rfl dX5_table_29 (by omega) ?_
        exact k0 (fun q => by have q1 := q.1; first | omega | exact q.2 hus)
      · refine r_if_eq (tgt := 30) hC dX5_table_25 rfl (fun h8 => ?_) (fun h8 => by omega)
        refine r_aload_n hC dX5_table_30 rfl ?_
        refine z_getR hM dX5_table_31 fl_RX5_40 rfl rfl (vld_of (n := 1) rfl (by omega) (by omega)) ?_
        refine z_getR hM dX5_table_34 fl_RX5_67 rfl rfl (vld_of (n := 1) rfl (by omega) (by omega)) ?_
        refine r_iload_n hC dX5_table_37 rfl ?_
        refine r_iload_n hC dX5_table_38 rfl ?_
        refine z_iastT hM dX5_table_39 rfl (by omega) (by omega) ⟨Or.inr (by simp [DL]), Or.inr (by simp [DF])⟩ (by first | trivial | (simp only [Okv]; omega) | (simp [Okv]; try omega)) ?_
        refine r_iconst hC dX5_table_40 rfl ?_
        refine y_zret hK rfl dX5_table_41 (by omega) ?_
        exact k1 ⟨by omega, hus⟩
    · refine r_if_eq (tgt := 28) hC dX5_table_16 rfl (fun h9 => ?_) (fun h9 => by omega)
      refine r_iconst hC dX5_table_28 rfl ?_
      refine y_zret hK rfl dX5_table_29 (by omega) ?_
      exact k0 (fun q => by have q1 := q.1; first | omega | exact q.2 hus)
  · refine r_if_eq (tgt := 28) hC dX5_table_7 rfl (fun h10 => ?_) (fun h10 => by omega)
    refine r_iconst hC dX5_table_28 rfl ?_
    refine y_zret hK rfl dX5_table_29 (by omega) ?_
    exact k0 (fun q => by have q1 := q.1; first | omega | exact q.2 hus)
theorem x_letter {ec : Bool} {d : Nat} {P : Option Vl → Mm → Prop} {σ : Mm} {x y : Int}   (k1 : ((0 ≤ x ∧ x ≤ 7) ∧ 0 ≤ y ∧ y ≤ 255) ∧ ¬ usV σ 4 → P (some (vI 1)) (mu σ 16 0 x y)) (k0 : ¬ (((0 ≤ x ∧ x ≤ 7) ∧ 0 ≤ y ∧ y ≤ 255) ∧ ¬ usV σ 4) → P (some (vI 0)) σ) : WT (true, false, ec) (d + 2) 48 [vR 2 0, vI x, vI y] σ P := by
  refine WT_in fun K hK => ?_
  have hK : StpY (true, false, ec) cX5_letter RX5 (some .boolean) (WT (true, false, ec) (d + 1)) P K := hK
  have hM := hK.1
  have hC := hK.1.1
  show K 0 [some (vR 2 0), some (vI x), some (vI y)] [] σ
  refine r_rngz hC (fun g0 => ?_)
  have r_x : -2147483648 ≤ x ∧ x ≤ 2147483647 := inR_le (g0 (vI x) (by simp))
  have r_y : -2147483648 ≤ y ∧ y ≤ 2147483647 := inR_le (g0 (vI y) (by simp))
  refine r_iload_n hC dX5_letter_0 rfl ?_
  refine r_iconst hC dX5_letter_1 rfl ?_
  refine r_bipush hC dX5_letter_2 rfl ?_
  refine z_ins3 hM dX5_letter_4 tl_RX5_59 rfl (Nat.le_of_ble_eq_true rfl) (Nat.le_of_ble_eq_true rfl) ?_
  refine s_within (fun h2 => ?_) (fun h2 => ?_)
  · refine r_if_eq (tgt := 29) hC dX5_letter_7 rfl (fun h3 => by omega) (fun h3 => ?_)
    refine r_iload_n hC dX5_letter_10 rfl ?_
    refine r_iconst hC dX5_letter_11 rfl ?_
    refine r_sipush hC dX5_letter_12 rfl ?_
    refine z_ins3 hM dX5_letter_15 tl_RX5_59 rfl (Nat.le_of_ble_eq_true rfl) (Nat.le_of_ble_eq_true rfl) ?_
    refine s_within (fun h5 => ?_) (fun h5 => ?_)
    · refine r_if_eq (tgt := 29) hC dX5_letter_18 rfl (fun h6 => by omega) (fun h6 => ?_)
      refine r_aload_n hC dX5_letter_21 rfl ?_
      refine r_iconst hC dX5_letter_22 rfl ?_
      refine z_inv1 hM dX5_letter_23 vl_RX5_63 rfl rfl rfl (Nat.le_of_ble_eq_true rfl) (Nat.le_of_ble_eq_true rfl) ?_
      refine x_isUsed (fun hus => ?_) (fun hus => ?_)
      · refine r_if_eq (tgt := 31) hC dX5_letter_26 rfl (fun h7 => by omega) (fun h7 => ?_)
        refine r_iconst hC dX5_letter_29 rfl ?_
        refine y_zret hK rfl dX5_letter_30 (by omega) ?_
        exact k0 (fun q => by have q1 := q.1; first | omega | exact q.2 hus)
      · refine r_if_eq (tgt := 31) hC dX5_letter_26 rfl (fun h8 => ?_) (fun h8 => by omega)
        refine r_aload_n hC dX5_letter_31 rfl ?_
        refine z_getR hM dX5_letter_32 fl_RX5_40 rfl rfl (vld_of (n := 1) rfl (by omega) (by omega)) ?_
        refine z_getR hM dX5_letter_35 fl_RX5_71 rfl rfl (vld_of (n := 1) rfl (by omega) (by omega)) ?_
        refine r_iload_n hC dX5_letter_38 rfl ?_
        refine r_iload_n hC dX5_letter_39 rfl ?_
        refine z_iastT hM dX5_letter_40 rfl (by omega) (by omega) ⟨Or.inr (by simp [DL]), Or.inr (by simp [DF])⟩ (by first | trivial | (simp only [Okv]; omega) | (simp [Okv]; try omega)) ?_
        refine r_iconst hC dX5_letter_41 rfl ?_
        refine y_zret hK rfl dX5_letter_42 (by omega) ?_
        exact k1 ⟨by omega, hus⟩
    · refine r_if_eq (tgt := 29) hC dX5_letter_18 rfl (fun h9 => ?_) (fun h9 => by omega)
      refine r_iconst hC dX5_letter_29 rfl ?_
      refine y_zret hK rfl dX5_letter_30 (by omega) ?_
      exact k0 (fun q => by have q1 := q.1; first | omega | exact q.2 hus)
  · refine r_if_eq (tgt := 29) hC dX5_letter_7 rfl (fun h10 => ?_) (fun h10 => by omega)
    refine r_iconst hC dX5_letter_29 rfl ?_
    refine y_zret hK rfl dX5_letter_30 (by omega) ?_
    exact k0 (fun q => by have q1 := q.1; first | omega | exact q.2 hus)
-- share
theorem gcd_zz {x y : Int} (h0 : 0 ≤ x) (hy : y = 0) : ((Int.gcd x y : Nat) : Int) = x := by
  subst hy
  obtain ⟨a, rfl⟩ := Int.eq_ofNat_of_zero_le h0
  simp
theorem gcd_sg {x y z : Int} (h : y = z ∨ y = -z) : Int.gcd x y = Int.gcd x z := by
  rcases h with rfl | rfl
  · rfl
  · exact Int.gcd_neg
theorem y_share {eb : Bool} {n : Nat} {d : Nat} {P : Option Vl → Mm → Prop} {σ : Mm} {t0 t1 : Int} (qg0 : σ 30 0 8 = (n : Int)) (qg1 : σ 38 0 0 = t0) (qg2 : σ 38 0 1 = t1) (hn1 : 1 ≤ n) (hn : n ≤ 242) (hb : Bd (σ 37 0) n)  (k : ∀ ρ : Mm, Gx (fun c x y => c = 38 ∧ x = 0) σ ρ → ρ 38 0 0 = ((shr (σ 37 0) n).1) → ρ 38 0 1 = ((shr (σ 37 0) n).2) → P none ρ) : WT (true, eb, true) (d + 1) 161 [vR 30 0] σ P := by
  refine WT_in fun K hK => ?_
  have hK : StpY (true, eb, true) cX6_share RX6 (none) (WT (true, eb, true) (d + 0)) P K := hK
  have hM := hK.1
  have hC := hK.1.1
  show K 0 [some (vR 30 0), none, none, none, none, none] [] σ
  refine r_iconst hC dX6_share_0 rfl ?_
  refine r_istore_n hC dX6_share_1 rfl ?_
  refine r_iconst hC dX6_share_2 rfl ?_
  refine r_istore_n hC dX6_share_3 rfl ?_
  refine r_iconst hC dX6_share_4 rfl ?_
  refine r_istore_n hC dX6_share_5 rfl ?_
  have L6 : ∀ (n6 : Nat) (w1 w2 w3 : Int), 0 ≤ w1 ∧ w1 ≤ 1000 → 0 ≤ w2 ∧ w2 ≤ 242 → 0 ≤ w3 ∧ w3 ≤ 242 → ((w1) = (shr (σ 37 0) ((w3)).toNat).1) → ((w2) = (shr (σ 37 0) ((w3)).toNat).2) → ((w2) ≤ (w3)) → ((w3) ≤ (n : Int)) → 242 - w3 < (n6 : Int) → K 6 [some (vR 30 0), some (vI w1), some (vI w2), some (vI w3), none, none] [] σ := by
    intro n6
    induction n6 with
    | zero => intro w1 w2 w3  f_w1 f_w2 f_w3 i0_6 i1_6 i2_6 i3_6 hm  ; omega
    | succ n6 ih6 =>
      intro w1 w2 w3  f_w1 f_w2 f_w3 i0_6 i1_6 i2_6 i3_6 hm6  
      refine r_iload_n hC dX6_share_6 rfl ?_
      refine r_aload_n hC dX6_share_7 rfl ?_
      refine z_getI (jz := 8) hM dX6_share_8 fl_RX6_105 rfl rfl rfl (fun v4 h_v4 o_v4 t_v4 => ?_)
      have e_v4 : (n : Int) = v4 := ((t_v4 ((by simp [Tk, Tb, DL, DR]))).trans qg0).symm
      subst e_v4
      refine r_icmp_ge (tgt := 81) hC dX6_share_11 rfl (fun h5 => ?_) (fun h5 => ?_)
      · refine r_aload_n hC dX6_share_81 rfl ?_
        refine z_getR hM dX6_share_82 fl_RX6_31 rfl rfl (vld_of (n := 1) rfl (by omega) (by omega)) ?_
        refine r_iconst hC dX6_share_85 rfl ?_
        refine r_iload_n hC dX6_share_86 rfl ?_
        refine z_iastG hM dX6_share_87 rfl (by omega) (by omega) (by simp [Tl, DL, DF]) (by first | trivial | (simp only [Okv]; omega) | (simp [Okv]; try omega)) (fun ρ6 a_ρ6 q_ρ6 => ?_)
        refine r_aload_n hC dX6_share_88 rfl ?_
        refine z_getR hM dX6_share_89 fl_RX6_31 rfl rfl (vld_of (n := 1) rfl (by omega) (by omega)) ?_
        refine r_iconst hC dX6_share_92 rfl ?_
        refine r_iload_n hC dX6_share_93 rfl ?_
        refine z_iastG hM dX6_share_94 rfl (by omega) (by omega) (by simp [Tl, DL, DF]) (by first | trivial | (simp only [Okv]; omega) | (simp [Okv]; try omega)) (fun ρ7 a_ρ7 q_ρ7 => ?_)
        refine y_vret hK rfl dX6_share_95 ?_
        have hs0 : w1 = (shr (σ 37 0) n).1 := at_nat (n := n) (f := fun m => (shr (σ 37 0) m).1) i0_6 (by omega)
        have hs1 : w2 = (shr (σ 37 0) n).2 := at_nat (n := n) (f := fun m => (shr (σ 37 0) m).2) i1_6 (by omega)
        exact k _ (((Gx.rf).al a_ρ6 (by first | (simp; done) | omega | (simp; omega))).al a_ρ7 (by first | (simp; done) | omega | (simp; omega))) (by have hq := ((a_ρ7 _ _ _ (by omega)).trans q_ρ6); exact hq.trans hs0) (by have hq := q_ρ7; exact hq.trans hs1)
      · refine r_aload_n hC dX6_share_14 rfl ?_
        refine z_getR hM dX6_share_15 fl_RX6_28 rfl rfl (vld_of (n := 1) rfl (by omega) (by omega)) ?_
        refine r_iload_n hC dX6_share_18 rfl ?_
        refine z_iald hM dX6_share_19 rfl (by omega) (by omega) (fun v8 h_v8 o_v8 t_v8 => ?_)
        have w_v8 := t_v8 (Or.inr (Or.inr (Or.inr ⟨rfl, by first | exact True.intro | exact (rfl : true = true)⟩)))
        subst w_v8
        have b_v8 := hb w3 (by omega) (by omega)
        refine r_if_ge (tgt := 33) hC dX6_share_20 rfl (fun h9 => ?_) (fun h9 => ?_)
        · refine r_aload_n hC dX6_share_33 rfl ?_
          refine z_getR hM dX6_share_34 fl_RX6_28 rfl rfl (vld_of (n := 1) rfl (by omega) (by omega)) ?_
          refine r_iload_n hC dX6_share_37 rfl ?_
          refine z_iald hM dX6_share_38 rfl (by omega) (by omega) (fun v10 h_v10 o_v10 t_v10 => ?_)
          have w_v10 := t_v10 (Or.inr (Or.inr (Or.inr ⟨rfl, by first | exact True.intro | exact (rfl : true = true)⟩)))
          subst w_v10
          have b_v10 := hb w3 (by omega) (by omega)
          refine r_istore hC dX6_share_39 rfl ?_
          refine r_iload_n hC dX6_share_41 rfl ?_
          refine r_iload hC dX6_share_42 rfl ?_
          refine r_if_ne (tgt := 51) hC dX6_share_44 rfl (fun h11 => ?_) (fun h11 => ?_)
          · refine r_iconst hC dX6_share_51 rfl ?_
            refine r_iaddE hC ((w2 + 1)) dX6_share_52 (by omega) (by unfold inR; omega) ?_
            refine r_istore_n hC dX6_share_53 rfl ?_
            have L54 : ∀ (n54 : Nat) (w12 w13 : Int), 0 ≤ w12 ∧ w12 ≤ 1000 → 0 ≤ w13 ∧ w13 ≤ 1000 → (((Int.gcd (w12) (w13) : Nat) : Int) = (shr (σ 37 0) ((w3) + 1).toNat).1) → (((w2 + 1)) = (shr (σ 37 0) ((w3) + 1).toNat).2) → (((w2 + 1)) ≤ (w3) + 1) → ((w3) < (n : Int)) → w13 < (n54 : Int) → K 54 [some (vR 30 0), some (vI w12), some (vI (w2 + 1)), some (vI w3), some (vI w13), none] [] σ := by
              intro n54
              induction n54 with
              | zero => intro w12 w13  f_w12 f_w13 i0_54 i1_54 i2_54 i3_54 hm  ; omega
              | succ n54 ih54 =>
                intro w12 w13  f_w12 f_w13 i0_54 i1_54 i2_54 i3_54 hm54  
                refine r_iload hC dX6_share_54 rfl ?_
                refine r_if_le (tgt := 75) hC dX6_share_56 rfl (fun h14 => ?_) (fun h14 => ?_)
                · refine r_iincE hC ((w3 + 1)) dX6_share_75 rfl rfl (by omega) (by unfold inR; omega) ?_
                  refine r_goto (tgt := 6) hC dX6_share_78 rfl ?_
                  refine r_forget hC (ls2 := [some (vR 30 0), some (vI w12), some (vI (w2 + 1)), some (vI (w3 + 1)), none, none]) (lsub_some (lsub_some (lsub_some (lsub_some (lsub_none (lsub_none lsub_nil)))))) ?_
                  exact ih6 (w12) ((w2 + 1)) ((w3 + 1))  (by omega) (by omega) (by omega) (by first | rfl | exact (gcd_zz (by omega) (by omega)).symm.trans i0_54 | (rw [shr_stepI (by omega), ← i0_6]; exact (gcd_zz (by omega) (by omega)).symm)) (by first | rfl | exact i1_54 | (rw [shr_stepI (by omega)]; dsimp only; rw [← i1_6]; first | done | (split <;> omega))) (by omega) (by omega) (by omega)  
                · refine r_iload_n hC dX6_share_59 rfl ?_
                  refine r_iload hC dX6_share_60 rfl ?_
                  refine r_iremN hC dX6_share_62 (by omega) (by omega) ?_
                  have f_v15 := emod_fr (a := w12) (b := w13) (by omega)
                  refine r_istore hC dX6_share_63 rfl ?_
                  refine r_iload hC dX6_share_65 rfl ?_
                  refine r_istore_n hC dX6_share_67 rfl ?_
                  refine r_iload hC dX6_share_68 rfl ?_
                  refine r_istore hC dX6_share_70 rfl ?_
                  show K _ [_, _, _, _, _, _] _ _
                  refine r_goto (tgt := 54) hC dX6_share_72 rfl ?_
                  refine r_forget hC (ls2 := [some (vR 30 0), some (vI w13), some (vI (w2 + 1)), some (vI w3), some (vI (w12 % w13)), none]) (lsub_some (lsub_some (lsub_some (lsub_some (lsub_some (lsub_none lsub_nil)))))) ?_
                  exact ih54 (w13) ((w12 % w13))  (by omega) (by omega) (by first | (rw [gcd_st (by omega) (by omega)]; exact i0_54) | (rw [shr_stepI (by omega), ← i0_6]; first | done | exact congrArg Int.ofNat (gcd_sg (by omega)))) (by first | exact i1_54 | (rw [shr_stepI (by omega)]; dsimp only; rw [← i1_6]; first | done | (split <;> omega))) (by omega) (by omega) (by omega)  
            exact L54 1002 (w1) ((σ 37 0 w3))  (by omega) (by omega) (by first | (rw [gcd_st (by omega) (by omega)]; exact i0_54) | (rw [shr_stepI (by omega), ← i0_6]; first | done | exact congrArg Int.ofNat (gcd_sg (by omega)))) (by first | exact i1_54 | (rw [shr_stepI (by omega)]; dsimp only; rw [← i1_6]; first | done | (split <;> omega))) (by omega) (by omega) (by omega)  
          · refine r_iconst hC dX6_share_47 rfl ?_
            refine r_goto (tgt := 52) hC dX6_share_48 rfl ?_
            refine r_iaddE hC (w2) dX6_share_52 (by omega) (by unfold inR; omega) ?_
            refine r_istore_n hC dX6_share_53 rfl ?_
            refine r_iload hC dX6_share_54 rfl ?_
            refine r_if_le (tgt := 75) hC dX6_share_56 rfl (fun h16 => ?_) (fun h16 => by omega)
            refine r_iincE hC ((w3 + 1)) dX6_share_75 rfl rfl (by omega) (by unfold inR; omega) ?_
            refine r_goto (tgt := 6) hC dX6_share_78 rfl ?_
            refine r_forget hC (ls2 := [some (vR 30 0), some (vI w1), some (vI w2), some (vI (w3 + 1)), none, none]) (lsub_some (lsub_some (lsub_some (lsub_some (lsub_none (lsub_none lsub_nil)))))) ?_
            exact ih6 (w1) (w2) ((w3 + 1))  (by omega) (by omega) (by omega) (by first | rfl | exact (gcd_zz (by omega) (by omega)).symm.trans i0_54 | (rw [shr_stepI (by omega), ← i0_6]; exact (gcd_zz (by omega) (by omega)).symm)) (by first | rfl | exact i1_54 | (rw [shr_stepI (by omega)]; dsimp only; rw [← i1_6]; first | done | (split <;> omega))) (by omega) (by omega) (by omega)  
        · refine r_aload_n hC dX6_share_23 rfl ?_
          refine z_getR hM dX6_share_24 fl_RX6_28 rfl rfl (vld_of (n := 1) rfl (by omega) (by omega)) ?_
          refine r_iload_n hC dX6_share_27 rfl ?_
          refine z_iald hM dX6_share_28 rfl (by omega) (by omega) (fun v17 h_v17 o_v17 t_v17 => ?_)
          have w_v17 := t_v17 (Or.inr (Or.inr (Or.inr ⟨rfl, by first | exact True.intro | exact (rfl : true = true)⟩)))
          subst w_v17
          have b_v17 := hb w3 (by omega) (by omega)
          refine r_inegS hC dX6_share_29 (by unfold inR; omega) ?_
          refine r_goto (tgt := 39) hC dX6_share_30 rfl ?_
          refine r_istore hC dX6_share_39 rfl ?_
          refine r_iload_n hC dX6_share_41 rfl ?_
          refine r_iload hC dX6_share_42 rfl ?_
          refine r_if_ne (tgt := 51) hC dX6_share_44 rfl (fun h18 => ?_) (fun h18 => ?_)
          · refine r_iconst hC dX6_share_51 rfl ?_
            refine r_iaddE hC ((w2 + 1)) dX6_share_52 (by omega) (by unfold inR; omega) ?_
            refine r_istore_n hC dX6_share_53 rfl ?_
            have L54 : ∀ (n54 : Nat) (w19 w20 : Int), 0 ≤ w19 ∧ w19 ≤ 1000 → 0 ≤ w20 ∧ w20 ≤ 1000 → (((Int.gcd (w19) (w20) : Nat) : Int) = (shr (σ 37 0) ((w3) + 1).toNat).1) → (((w2 + 1)) = (shr (σ 37 0) ((w3) + 1).toNat).2) → (((w2 + 1)) ≤ (w3) + 1) → ((w3) < (n : Int)) → w20 < (n54 : Int) → K 54 [some (vR 30 0), some (vI w19), some (vI (w2 + 1)), some (vI w3), some (vI w20), none] [] σ := by
              intro n54
              induction n54 with
              | zero => intro w19 w20  f_w19 f_w20 i0_54 i1_54 i2_54 i3_54 hm  ; omega
              | succ n54 ih54 =>
                intro w19 w20  f_w19 f_w20 i0_54 i1_54 i2_54 i3_54 hm54  
                refine r_iload hC dX6_share_54 rfl ?_
                refine r_if_le (tgt := 75) hC dX6_share_56 rfl (fun h21 => ?_) (fun h21 => ?_)
                · refine r_iincE hC ((w3 + 1)) dX6_share_75 rfl rfl (by omega) (by unfold inR; omega) ?_
                  refine r_goto (tgt := 6) hC dX6_share_78 rfl ?_
                  refine r_forget hC (ls2 := [some (vR 30 0), some (vI w19), some (vI (w2 + 1)), some (vI (w3 + 1)), none, none]) (lsub_some (lsub_some (lsub_some (lsub_some (lsub_none (lsub_none lsub_nil)))))) ?_
                  exact ih6 (w19) ((w2 + 1)) ((w3 + 1))  (by omega) (by omega) (by omega) (by first | rfl | exact (gcd_zz (by omega) (by omega)).symm.trans i0_54 | (rw [shr_stepI (by omega), ← i0_6]; exact (gcd_zz (by omega) (by omega)).symm)) (by first | rfl | exact i1_54 | (rw [shr_stepI (by omega)]; dsimp only; rw [← i1_6]; first | done | (split <;> omega))) (by omega) (by omega) (by omega)  
                · refine r_iload_n hC dX6_share_59 rfl ?_
                  refine r_iload hC dX6_share_60 rfl ?_
                  refine r_iremN hC dX6_share_62 (by omega) (by omega) ?_
                  have f_v22 := emod_fr (a := w19) (b := w20) (by omega)
                  refine r_istore hC dX6_share_63 rfl ?_
                  refine r_iload hC dX6_share_65 rfl ?_
                  refine r_istore_n hC dX6_share_67 rfl ?_
                  refine r_iload hC dX6_share_68 rfl ?_
                  refine r_istore hC dX6_share_70 rfl ?_
                  show K _ [_, _, _, _, _, _] _ _
                  refine r_goto (tgt := 54) hC dX6_share_72 rfl ?_
                  refine r_forget hC (ls2 := [some (vR 30 0), some (vI w20), some (vI (w2 + 1)), some (vI w3), some (vI (w19 % w20)), none]) (lsub_some (lsub_some (lsub_some (lsub_some (lsub_some (lsub_none lsub_nil)))))) ?_
                  exact ih54 (w20) ((w19 % w20))  (by omega) (by omega) (by first | (rw [gcd_st (by omega) (by omega)]; exact i0_54) | (rw [shr_stepI (by omega), ← i0_6]; first | done | exact congrArg Int.ofNat (gcd_sg (by omega)))) (by first | exact i1_54 | (rw [shr_stepI (by omega)]; dsimp only; rw [← i1_6]; first | done | (split <;> omega))) (by omega) (by omega) (by omega)  
            exact L54 1002 (w1) ((-(σ 37 0 w3)))  (by omega) (by omega) (by first | (rw [gcd_st (by omega) (by omega)]; exact i0_54) | (rw [shr_stepI (by omega), ← i0_6]; first | done | exact congrArg Int.ofNat (gcd_sg (by omega)))) (by first | exact i1_54 | (rw [shr_stepI (by omega)]; dsimp only; rw [← i1_6]; first | done | (split <;> omega))) (by omega) (by omega) (by omega)  
          · refine r_iconst hC dX6_share_47 rfl ?_
            refine r_goto (tgt := 52) hC dX6_share_48 rfl ?_
            refine r_iaddE hC (w2) dX6_share_52 (by omega) (by unfold inR; omega) ?_
            refine r_istore_n hC dX6_share_53 rfl ?_
            refine r_iload hC dX6_share_54 rfl ?_
            refine r_if_le (tgt := 75) hC dX6_share_56 rfl (fun h23 => ?_) (fun h23 => by omega)
            refine r_iincE hC ((w3 + 1)) dX6_share_75 rfl rfl (by omega) (by unfold inR; omega) ?_
            refine r_goto (tgt := 6) hC dX6_share_78 rfl ?_
            refine r_forget hC (ls2 := [some (vR 30 0), some (vI w1), some (vI w2), some (vI (w3 + 1)), none, none]) (lsub_some (lsub_some (lsub_some (lsub_some (lsub_none (lsub_none lsub_nil)))))) ?_
            exact ih6 (w1) (w2) ((w3 + 1))  (by omega) (by omega) (by omega) (by first | rfl | exact (gcd_zz (by omega) (by omega)).symm.trans i0_54 | (rw [shr_stepI (by omega), ← i0_6]; exact (gcd_zz (by omega) (by omega)).symm)) (by first | rfl | exact i1_54 | (rw [shr_stepI (by omega)]; dsimp only; rw [← i1_6]; first | done | (split <;> omega))) (by omega) (by omega) (by omega)  
  exact L6 244 (0) (0) (0)  (by omega) (by omega) (by omega) (by first | rfl | exact (gcd_zz (by omega) (by omega)).symm.trans i0_54 | (rw [shr_stepI (by omega), ← i0_6]; exact (gcd_zz (by omega) (by omega)).symm)) (by first | rfl | exact i1_54 | (rw [shr_stepI (by omega)]; dsimp only; rw [← i1_6]; first | done | (split <;> omega))) (by omega) (by omega) (by omega)  
-- B: the reference: run, send, like
def IsMx (P : Int → Prop) (b : Int) : Prop := (∀ x, P x → x ≤ b) ∧ (P b ∨ (b = -2147483648 ∧ ∀ x, ¬ P x))
theorem mx_0 {P : Int → Prop} (h : ∀ x, ¬ P x) : IsMx P (-2147483648) := ⟨fun x q => absurd q (h x), Or.inr ⟨rfl, h⟩⟩
theorem mx_y {P Q : Int → Prop} {a b : Int} (h : IsMx P b) (hq : ∀ x, Q x ↔ P x ∨ x = a) (hab : b < a) : IsMx Q a := ⟨fun x q => by
  rcases (hq x).mp q with p | p
  · have := h.1 x p; omega
  · omega, Or.inl ((hq a).mpr (Or.inr rfl))⟩
theorem mx_n {P Q : Int → Prop} {a b : Int} (h : IsMx P b) (hq : ∀ x, Q x ↔ P x ∨ x = a) (hab : a ≤ b) (hn : -2147483648 < a) : IsMx Q b := ⟨fun x q => by
  rcases (hq x).mp q with p | p
  · exact h.1 x p
  · omega, by
  rcases h.2 with p | p
  · exact Or.inl ((hq b).mpr (Or.inl p))
  · omega⟩
theorem mx_c {P Q : Int → Prop} {b : Int} (h : IsMx P b) (hq : ∀ x, Q x ↔ P x) : IsMx Q b := ⟨fun x q => h.1 x ((hq x).mp q), by
  rcases h.2 with p | p
  · exact Or.inl ((hq b).mpr p)
  · exact Or.inr ⟨p.1, fun x q => p.2 x ((hq x).mp q)⟩⟩
theorem mx_u {P : Int → Prop} {b c : Int} (h : IsMx P b) (h1 : ∀ x, P x → x ≤ c) (h2 : P c) : b = c := by
  have := h.1 c h2
  rcases h.2 with p | p
  · have := h1 b p; omega
  · exact absurd h2 (p.2 c)
def PF (v : Int → Int) (i : Nat) (x : Int) : Prop := ∃ m : Nat, 1 ≤ m ∧ m ≤ i ∧ x = sm v 0 m
def PL (v : Int → Int) (n i : Nat) (x : Int) : Prop := ∃ j : Nat, j < i ∧ x = sm v j (n - j)
def PB (v : Int → Int) (n i : Nat) (x : Int) : Prop := ∃ j m : Nat, j < i ∧ 1 ≤ m ∧ j + m ≤ n ∧ x = sm v j m
def PI (v : Int → Int) (n i t : Nat) (x : Int) : Prop := PB v n i x ∨ ∃ m : Nat, 1 ≤ m ∧ m ≤ t ∧ x = sm v i m
theorem PF_s {v : Int → Int} {i : Nat} (x : Int) : PF v (i + 1) x ↔ PF v i x ∨ x = sm v 0 (i + 1) := by
  constructor
  · rintro ⟨m, h1, h2, h3⟩
    by_cases hm : m = i + 1
    · subst hm; exact Or.inr h3
    · exact Or.inl ⟨m, h1, by omega, h3⟩
  · rintro (⟨m, h1, h2, h3⟩ | h)
    · exact ⟨m, h1, by omega, h3⟩
    · exact ⟨i + 1, by omega, by omega, h⟩
theorem PL_s {v : Int → Int} {n i : Nat} (x : Int) : PL v n (i + 1) x ↔ PL v n i x ∨ x = sm v i (n - i) := by
  constructor
  · rintro ⟨m, h1, h3⟩
    by_cases hm : m = i
    · subst hm; exact Or.inr h3
    · exact Or.inl ⟨m, by omega, h3⟩
  · rintro (⟨m, h1, h3⟩ | h)
    · exact ⟨m, by omega, h3⟩
    · exact ⟨i, by omega, h⟩
theorem PI_s {v : Int → Int} {n i t : Nat} (x : Int) : PI v n i (t + 1) x ↔ PI v n i t x ∨ x = sm v i (t + 1) := by
  constructor
  · rintro (h | ⟨m, h1, h2, h3⟩)
    · exact Or.inl (Or.inl h)
    · by_cases hm : m = t + 1
      · subst hm; exact Or.inr h3
      · exact Or.inl (Or.inr ⟨m, h1, by omega, h3⟩)
  · rintro ((h | ⟨m, h1, h2, h3⟩) | h)
    · exact Or.inl h
    · exact Or.inr ⟨m, h1, by omega, h3⟩
    · exact Or.inr ⟨t + 1, by omega, by omega, h⟩
theorem PI_0 {v : Int → Int} {n i : Nat} (x : Int) : PI v n i 0 x ↔ PB v n i x := by
  constructor
  · rintro (h | ⟨m, h1, h2, h3⟩)
    · exact h
    · omega
  · exact fun h => Or.inl h
theorem PI_n {v : Int → Int} {n i t : Nat} (ht : t = n - i) (hi : i < n) (x : Int) : PB v n (i + 1) x ↔ PI v n i t x := by
  subst ht
  constructor
  · rintro ⟨j, m, h1, h2, h3, h4⟩
    by_cases hj : j = i
    · subst hj; exact Or.inr ⟨m, h2, by omega, h4⟩
    · exact Or.inl ⟨j, m, by omega, h2, h3, h4⟩
  · rintro (⟨j, m, h1, h2, h3, h4⟩ | ⟨m, h1, h2, h3⟩)
    · exact ⟨j, m, by omega, h2, h3, h4⟩
    · exact ⟨i, m, by omega, h1, by omega, h3⟩
theorem sm_s {v : Int → Int} {i t a : Int} (h : 0 ≤ t) (ha : a = sm v i t.toNat + v (i + t)) : sm v i (t + 1).toNat = a := by
  rw [nat_succ h, ha]
  show sm v i t.toNat + v (i + (t.toNat : Int)) = _
  rw [Int.toNat_of_nonneg h]
theorem rnn_mx {v : Int → Int} {n : Nat} (hn : 1 ≤ n) {a b f l : Int} (ha : a = sm v 0 n) (hb : IsMx (PB v n n) b) (hf : IsMx (PF v n) f) (hl : IsMx (PL v n n) l) : b = (rnn v n).1 ∧ a = (rnn v n).2.1 ∧ f = (rnn v n).2.2.1 ∧ l = (rnn v n).2.2.2 := by
  obtain ⟨s1, ⟨s2, m2, u2, w2, e2⟩, ⟨s3, m3, u3, w3, e3⟩, s4, i4, m4, u4, w4, e4⟩ := rnn_spec v n hn
  refine ⟨mx_u hb ?_ ?_, by rw [ha, s1], mx_u hf ?_ ?_, mx_u hl ?_ ?_⟩
  · rintro x ⟨j, m, h1, h2, h3, rfl⟩; exact s4 j m h2 h3
  · exact ⟨i4, m4, by omega, u4, w4, e4.symm⟩
  · rintro x ⟨m, h1, h2, rfl⟩; exact s2 m h1 h2
  · exact ⟨m2, u2, w2, e2.symm⟩
  · rintro x ⟨j, h1, rfl⟩
    have := s3 (n - j) (by omega) (by omega)
    rw [show (n : Int) - ((n - j : Nat) : Int) = (j : Int) from by omega] at this
    exact this
  · refine ⟨n - m3, by omega, ?_⟩
    rw [show ((n - m3 : Nat) : Int) = (n : Int) - (m3 : Int) from by omega, show n - (n - m3) = m3 from by omega]
    exact e3.symm
theorem mxF {v : Int → Int} {i : Int} (h : 0 ≤ i) (x : Int) : PF v (i + 1).toNat x ↔ PF v i.toNat x ∨ x = sm v 0 (i + 1).toNat := by
  rw [nat_succ h]; exact PF_s x
theorem mxL {v : Int → Int} {n : Nat} {i : Int} (h : 0 ≤ i) (x : Int) : PL v n (i + 1).toNat x ↔ PL v n i.toNat x ∨ x = sm v i ((n : Int) - i).toNat := by
  rw [nat_succ h, PL_s, Int.toNat_of_nonneg h, show n - i.toNat = ((n : Int) - i).toNat from by omega]
theorem mxI {v : Int → Int} {n : Nat} {i t : Int} (hi : 0 ≤ i) (h : 0 ≤ t) (x : Int) : PI v n i.toNat (t + 1).toNat x ↔ PI v n i.toNat t.toNat x ∨ x = sm v i (t + 1).toNat := by
  rw [nat_succ h, PI_s, Int.toNat_of_nonneg hi]
theorem mxB {v : Int → Int} {n : Nat} {i t : Int} (h : 0 ≤ i) (hi : i < n) (ht : t = n - i) (x : Int) : PB v n (i + 1).toNat x ↔ PI v n i.toNat t.toNat x := by
  rw [nat_succ h]; exact PI_n (by omega) (by omega) x
theorem y_run {eb : Bool} {n : Nat} {d : Nat} {P : Option Vl → Mm → Prop} {σ : Mm} {t0 t1 t2 t3 : Int} (qg0 : σ 30 0 8 = (n : Int)) (qg1 : σ 38 0 0 = t0) (qg2 : σ 38 0 1 = t1) (qg3 : σ 38 0 2 = t2) (qg4 : σ 38 0 3 = t3) (hn1 : 1 ≤ n) (hn : n ≤ 242) (hb : Bd (σ 37 0) n)  (k : ∀ ρ : Mm, Gx (fun c x y => c = 38 ∧ x = 0) σ ρ → ρ 38 0 0 = ((rnn (σ 37 0) n).1) → ρ 38 0 1 = ((rnn (σ 37 0) n).2.1) → ρ 38 0 2 = ((rnn (σ 37 0) n).2.2.1) → ρ 38 0 3 = ((rnn (σ 37 0) n).2.2.2) → P none ρ) : WT (true, eb, true) (d + 1) 164 [vR 30 0] σ P := by
  refine WT_in fun K hK => ?_
  have hK : StpY (true, eb, true) cX6_run RX6 (none) (WT (true, eb, true) (d + 0)) P K := hK
  have hM := hK.1
  have hC := hK.1.1
  show K 0 [some (vR 30 0), none, none, none, none, none, none, none] [] σ
  refine r_iconst hC dX6_run_0 rfl ?_
  refine r_istore_n hC dX6_run_1 rfl ?_
  refine r_ldc hC dX6_run_2 co_RX6_160 rfl ?_
  refine r_istore_n hC dX6_run_4 rfl ?_
  refine r_ldc hC dX6_run_5 co_RX6_160 rfl ?_
  refine r_istore_n hC dX6_run_7 rfl ?_
  show K _ [_, _, _, _, _, _, _, _] _ _
  refine r_ldc hC dX6_run_8 co_RX6_160 rfl ?_
  refine r_istore hC dX6_run_10 rfl ?_
  refine r_iconst hC dX6_run_12 rfl ?_
  refine r_istore hC dX6_run_13 rfl ?_
  have L15 : ∀ (n15 : Nat) (w1 w2 w3 w4 w5 : Int), -242000 ≤ w1 ∧ w1 ≤ 242000 → -2147483648 ≤ w2 ∧ w2 ≤ 242000 → -2147483648 ≤ w3 ∧ w3 ≤ 242000 → -2147483648 ≤ w4 ∧ w4 ≤ 242000 → 0 ≤ w5 ∧ w5 ≤ 242 → ((w1) = sm (σ 37 0) 0 ((w5)).toNat) → (IsMx (PB (σ 37 0) n ((w5)).toNat) (w2)) → (IsMx (PF (σ 37 0) ((w5)).toNat) (w3)) → (IsMx (PL (σ 37 0) n ((w5)).toNat) (w4)) → (-1000 * (w5) ≤ (w1) ∧ (w1) ≤ 1000 * (w5)) → ((w5) ≤ (n : Int)) → 242 - w5 < (n15 : Int) → K 15 [some (vR 30 0), some (vI w1), some (vI w2), some (vI w3), some (vI w4), some (vI w5), none, none] [] σ := by
    intro n15
    induction n15 with
    | zero => intro w1 w2 w3 w4 w5  f_w1 f_w2 f_w3 f_w4 f_w5 i0_15 i1_15 i2_15 i3_15 i4_15 i5_15 hm  ; omega
    | succ n15 ih15 =>
      intro w1 w2 w3 w4 w5  f_w1 f_w2 f_w3 f_w4 f_w5 i0_15 i1_15 i2_15 i3_15 i4_15 i5_15 hm15  
      refine r_iload hC dX6_run_15 rfl ?_
      refine r_aload_n hC dX6_run_17 rfl ?_
      refine z_getI (jz := 8) hM dX6_run_18 fl_RX6_105 rfl rfl rfl (fun v6 h_v6 o_v6 t_v6 => ?_)
      have e_v6 : (n : Int) = v6 := ((t_v6 ((by simp [Tk, Tb, DL, DR]))).trans qg0).symm
      subst e_v6
      refine r_icmp_ge (tgt := 101) hC dX6_run_21 rfl (fun h7 => ?_) (fun h7 => ?_)
      · refine r_aload_n hC dX6_run_101 rfl ?_
        refine z_getR hM dX6_run_102 fl_RX6_31 rfl rfl (vld_of (n := 1) rfl (by omega) (by omega)) ?_
        refine r_iconst hC dX6_run_105 rfl ?_
        refine r_iload_n hC dX6_run_106 rfl ?_
        refine z_iastG hM dX6_run_107 rfl (by omega) (by omega) (by simp [Tl, DL, DF]) (by first | trivial | (simp only [Okv]; omega) | (simp [Okv]; try omega)) (fun ρ8 a_ρ8 q_ρ8 => ?_)
        refine r_aload_n hC dX6_run_108 rfl ?_
        refine z_getR hM dX6_run_109 fl_RX6_31 rfl rfl (vld_of (n := 1) rfl (by omega) (by omega)) ?_
        refine r_iconst hC dX6_run_112 rfl ?_
        refine r_iload_n hC dX6_run_113 rfl ?_
        refine z_iastG hM dX6_run_114 rfl (by omega) (by omega) (by simp [Tl, DL, DF]) (by first | trivial | (simp only [Okv]; omega) | (simp [Okv]; try omega)) (fun ρ9 a_ρ9 q_ρ9 => ?_)
        refine r_aload_n hC dX6_run_115 rfl ?_
        refine z_getR hM dX6_run_116 fl_RX6_31 rfl rfl (vld_of (n := 1) rfl (by omega) (by omega)) ?_
        refine r_iconst hC dX6_run_119 rfl ?_
        refine r_iload_n hC dX6_run_120 rfl ?_
        refine z_iastG hM dX6_run_121 rfl (by omega) (by omega) (by simp [Tl, DL, DF]) (by first | trivial | (simp only [Okv]; omega) | (simp [Okv]; try omega)) (fun ρ10 a_ρ10 q_ρ10 => ?_)
        refine r_aload_n hC dX6_run_122 rfl ?_
        refine z_getR hM dX6_run_123 fl_RX6_31 rfl rfl (vld_of (n := 1) rfl (by omega) (by omega)) ?_
        refine r_iconst hC dX6_run_126 rfl ?_
        refine r_iload hC dX6_run_127 rfl ?_
        refine z_iastG hM dX6_run_129 rfl (by omega) (by omega) (by simp [Tl, DL, DF]) (by first | trivial | (simp only [Okv]; omega) | (simp [Okv]; try omega)) (fun ρ11 a_ρ11 q_ρ11 => ?_)
        refine y_vret hK rfl dX6_run_130 ?_
        have hn_ : (w5).toNat = n := by omega
        have hz := rnn_mx hn1 (a := w1) (b := w2) (f := w3) (l := w4) (by rw [i0_15, hn_]) (by have h := i1_15; rw [hn_] at h; exact h) (by have h := i2_15; rw [hn_] at h; exact h) (by have h := i3_15; rw [hn_] at h; exact h)
        exact k _ (((((Gx.rf).al a_ρ8 (by first | (simp; done) | omega | (simp; omega))).al a_ρ9 (by first | (simp; done) | omega | (simp; omega))).al a_ρ10 (by first | (simp; done) | omega | (simp; omega))).al a_ρ11 (by first | (simp; done) | omega | (simp; omega))) (by have hq := ((a_ρ11 _ _ _ (by omega)).trans ((a_ρ10 _ _ _ (by omega)).trans ((a_ρ9 _ _ _ (by omega)).trans q_ρ8))); exact hq.trans hz.1) (by have hq := ((a_ρ11 _ _ _ (by omega)).trans ((a_ρ10 _ _ _ (by omega)).trans q_ρ9)); exact hq.trans hz.2.1) (by have hq := ((a_ρ11 _ _ _ (by omega)).trans q_ρ10); exact hq.trans hz.2.2.1) (by have hq := q_ρ11; exact hq.trans hz.2.2.2)
      · refine r_iload_n hC dX6_run_24 rfl ?_
        refine r_aload_n hC dX6_run_25 rfl ?_
        refine z_getR hM dX6_run_26 fl_RX6_28 rfl rfl (vld_of (n := 1) rfl (by omega) (by omega)) ?_
        refine r_iload hC dX6_run_29 rfl ?_
        refine z_iald hM dX6_run_31 rfl (by omega) (by omega) (fun v12 h_v12 o_v12 t_v12 => ?_)
        have w_v12 := ((t_v12 (Or.inr (Or.inr (Or.inr ⟨rfl, by first | exact True.intro | exact (rfl : true = true)⟩)))).trans (rfl)).symm
        subst w_v12
        have b_v12 := hb w5 (by omega) (by omega)
        refine r_iaddE hC ((w1 + (σ 37 0 w5))) dX6_run_32 (by omega) (by unfold inR; omega) ?_
        refine r_istore_n hC dX6_run_33 rfl ?_
        refine r_iload_n hC dX6_run_34 rfl ?_
        refine r_iload_n hC dX6_run_35 rfl ?_
        refine r_icmp_le (tgt := 41) hC dX6_run_36 rfl (fun h13 => ?_) (fun h13 => ?_)
        · refine r_iconst hC dX6_run_41 rfl ?_
          refine r_istore hC dX6_run_42 rfl ?_
          refine r_iload hC dX6_run_44 rfl ?_
          refine r_istore hC dX6_run_46 rfl ?_
          have L48 : ∀ (n48 : Nat) (w14 w15 w16 : Int), -242000 ≤ w14 ∧ w14 ≤ 242000 → 0 ≤ w15 ∧ w15 ≤ 242 → -2147483648 ≤ w16 ∧ w16 ≤ 242000 → ((w14) = sm (σ 37 0) (w5) ((w15) - (w5)).toNat) → (IsMx (PI (σ 37 0) n ((w5)).toNat ((w15) - (w5)).toNat) (w16)) → (-1000 * ((w15) - (w5)) ≤ (w14) ∧ (w14) ≤ 1000 * ((w15) - (w5))) → ((w15) ≤ (n : Int)) → ((w5) ≤ (w15)) → 242 - w15 < (n48 : Int) → K 48 [some (vR 30 0), some (vI (w1 + (σ 37 0 w5))), some (vI w16), some (vI w3), some (vI w4), some (vI w5), some (vI w14), some (vI w15)] [] σ := by
            intro n48
            induction n48 with
            | zero => intro w14 w15 w16  f_w14 f_w15 f_w16 i0_48 i1_48 i2_48 i3_48 i4_48 hm  ; omega
            | succ n48 ih48 =>
              intro w14 w15 w16  f_w14 f_w15 f_w16 i0_48 i1_48 i2_48 i3_48 i4_48 hm48  
              refine r_iload hC dX6_run_48 rfl ?_
              refine r_aload_n hC dX6_run_50 rfl ?_
              refine z_getI (jz := 8) hM dX6_run_51 fl_RX6_105 rfl rfl rfl (fun v17 h_v17 o_v17 t_v17 => ?_)
              have e_v17 : (n : Int) = v17 := ((t_v17 ((by simp [Tk, Tb, DL, DR]))).trans qg0).symm
              subst e_v17
              refine r_icmp_ge (tgt := 84) hC dX6_run_54 rfl (fun h18 => ?_) (fun h18 => ?_)
              · have hsm : sm (σ 37 0) w5 ((n : Int) - w5).toNat = w14 := by rw [i0_48, show w15 = (n : Int) from by omega]
                refine r_iload hC dX6_run_84 rfl ?_
                refine r_iload hC dX6_run_86 rfl ?_
                refine r_icmp_le (tgt := 95) hC dX6_run_88 rfl (fun h19 => ?_) (fun h19 => ?_)
                · refine r_iincE hC ((w5 + 1)) dX6_run_95 rfl rfl (by omega) (by unfold inR; omega) ?_
                  refine r_goto (tgt := 15) hC dX6_run_98 rfl ?_
                  refine r_forget hC (ls2 := [some (vR 30 0), some (vI (w1 + (σ 37 0 w5))), some (vI w16), some (vI w3), some (vI w4), some (vI (w5 + 1)), none, none]) (lsub_some (lsub_some (lsub_some (lsub_some (lsub_some (lsub_some (lsub_none (lsub_none lsub_nil)))))))) ?_
                  exact ih15 ((w1 + (σ 37 0 w5))) (w16) (w3) (w4) ((w5 + 1))  (by omega) (by omega) (by omega) (by omega) (by omega) (by first | rfl | exact (sm_s (by omega) (by rw [← i0_15, Int.zero_add])).symm) (by first | exact mx_0 (by rintro x ⟨j, m, h1, h2, h3, h4⟩; omega) | exact mx_c i1_48 (mxB (by omega) (by omega) (by omega))) (by first | exact mx_0 (by rintro x ⟨m, h1, h2, h3⟩; omega) | exact mx_y i2_15 (fun x => by rw [mxF (by omega), sm_s (by omega) (by rw [← i0_15, Int.zero_add])]) (by omega) | exact mx_n i2_15 (fun x => by rw [mxF (by omega), sm_s (by omega) (by rw [← i0_15, Int.zero_add])]) (by omega) (by omega)) (by first | exact mx_0 (by rintro x ⟨m, h1, h3⟩; omega) | exact mx_y i3_15 (fun x => by rw [mxL (by omega), hsm]) (by omega) | exact mx_n i3_15 (fun x => by rw [mxL (by omega), hsm]) (by omega) (by omega)) (by omega) (by omega) (by omega)  
                · refine r_iload hC dX6_run_91 rfl ?_
                  refine r_istore hC dX6_run_93 rfl ?_
                  refine r_iincE hC ((w5 + 1)) dX6_run_95 rfl rfl (by omega) (by unfold inR; omega) ?_
                  refine r_goto (tgt := 15) hC dX6_run_98 rfl ?_
                  refine r_forget hC (ls2 := [some (vR 30 0), some (vI (w1 + (σ 37 0 w5))), some (vI w16), some (vI w3), some (vI w14), some (vI (w5 + 1)), none, none]) (lsub_some (lsub_some (lsub_some (lsub_some (lsub_some (lsub_some (lsub_none (lsub_none lsub_nil)))))))) ?_
                  exact ih15 ((w1 + (σ 37 0 w5))) (w16) (w3) (w14) ((w5 + 1))  (by omega) (by omega) (by omega) (by omega) (by omega) (by first | rfl | exact (sm_s (by omega) (by rw [← i0_15, Int.zero_add])).symm) (by first | exact mx_0 (by rintro x ⟨j, m, h1, h2, h3, h4⟩; omega) | exact mx_c i1_48 (mxB (by omega) (by omega) (by omega))) (by first | exact mx_0 (by rintro x ⟨m, h1, h2, h3⟩; omega) | exact mx_y i2_15 (fun x => by rw [mxF (by omega), sm_s (by omega) (by rw [← i0_15, Int.zero_add])]) (by omega) | exact mx_n i2_15 (fun x => by rw [mxF (by omega), sm_s (by omega) (by rw [← i0_15, Int.zero_add])]) (by omega) (by omega)) (by first | exact mx_0 (by rintro x ⟨m, h1, h3⟩; omega) | exact mx_y i3_15 (fun x => by rw [mxL (by omega), hsm]) (by omega) | exact mx_n i3_15 (fun x => by rw [mxL (by omega), hsm]) (by omega) (by omega)) (by omega) (by omega) (by omega)  
              · refine r_iload hC dX6_run_57 rfl ?_
                refine r_aload_n hC dX6_run_59 rfl ?_
                refine z_getR hM dX6_run_60 fl_RX6_28 rfl rfl (vld_of (n := 1) rfl (by omega) (by omega)) ?_
                refine r_iload hC dX6_run_63 rfl ?_
                refine z_iald hM dX6_run_65 rfl (by omega) (by omega) (fun v20 h_v20 o_v20 t_v20 => ?_)
                have w_v20 := ((t_v20 (Or.inr (Or.inr (Or.inr ⟨rfl, by first | exact True.intro | exact (rfl : true = true)⟩)))).trans (rfl)).symm
                subst w_v20
                have b_v20 := hb w15 (by omega) (by omega)
                refine r_iaddE hC ((w14 + (σ 37 0 w15))) dX6_run_66 (by omega) (by unfold inR; omega) ?_
                refine r_istore hC dX6_run_67 rfl ?_
                refine r_iload hC dX6_run_69 rfl ?_
                refine r_iload_n hC dX6_run_71 rfl ?_
                refine r_icmp_le (tgt := 78) hC dX6_run_72 rfl (fun h21 => ?_) (fun h21 => ?_)
                · refine r_iincE hC ((w15 + 1)) dX6_run_78 rfl rfl (by omega) (by unfold inR; omega) ?_
                  refine r_goto (tgt := 48) hC dX6_run_81 rfl ?_
                  exact ih48 ((w14 + (σ 37 0 w15))) ((w15 + 1)) (w16)  (by omega) (by omega) (by omega) (by first | (rw [Int.sub_self]; rfl) | (rw [show (w15 + 1 - w5) = (w15 - w5) + 1 from by omega]; exact (sm_s (by omega) (by rw [show w5 + (w15 - w5) = w15 from by omega, ← i0_48])).symm)) (by first | (rw [Int.sub_self]; exact mx_c i1_15 PI_0) | (rw [show (w15 + 1 - w5) = (w15 - w5) + 1 from by omega]; first | exact mx_y i1_48 (fun x => by rw [mxI (by omega) (by omega), sm_s (by omega) (by rw [show w5 + (w15 - w5) = w15 from by omega, ← i0_48])]) (by omega) | exact mx_n i1_48 (fun x => by rw [mxI (by omega) (by omega), sm_s (by omega) (by rw [show w5 + (w15 - w5) = w15 from by omega, ← i0_48])]) (by omega) (by omega))) (by omega) (by omega) (by omega) (by omega)  
                · refine r_iload hC dX6_run_75 rfl ?_
                  refine r_istore_n hC dX6_run_77 rfl ?_
                  refine r_iincE hC ((w15 + 1)) dX6_run_78 rfl rfl (by omega) (by unfold inR; omega) ?_
                  refine r_goto (tgt := 48) hC dX6_run_81 rfl ?_
                  exact ih48 ((w14 + (σ 37 0 w15))) ((w15 + 1)) ((w14 + (σ 37 0 w15)))  (by omega) (by omega) (by omega) (by first | (rw [Int.sub_self]; rfl) | (rw [show (w15 + 1 - w5) = (w15 - w5) + 1 from by omega]; exact (sm_s (by omega) (by rw [show w5 + (w15 - w5) = w15 from by omega, ← i0_48])).symm)) (by first | (rw [Int.sub_self]; exact mx_c i1_15 PI_0) | (rw [show (w15 + 1 - w5) = (w15 - w5) + 1 from by omega]; first | exact mx_y i1_48 (fun x => by rw [mxI (by omega) (by omega), sm_s (by omega) (by rw [show w5 + (w15 - w5) = w15 from by omega, ← i0_48])]) (by omega) | exact mx_n i1_48 (fun x => by rw [mxI (by omega) (by omega), sm_s (by omega) (by rw [show w5 + (w15 - w5) = w15 from by omega, ← i0_48])]) (by omega) (by omega))) (by omega) (by omega) (by omega) (by omega)  
          exact L48 244 (0) (w5) (w2)  (by omega) (by omega) (by omega) (by first | (rw [Int.sub_self]; rfl) | (rw [show (w15 + 1 - w5) = (w15 - w5) + 1 from by omega]; exact (sm_s (by omega) (by rw [show w5 + (w15 - w5) = w15 from by omega, ← i0_48])).symm)) (by first | (rw [Int.sub_self]; exact mx_c i1_15 PI_0) | (rw [show (w15 + 1 - w5) = (w15 - w5) + 1 from by omega]; first | exact mx_y i1_48 (fun x => by rw [mxI (by omega) (by omega), sm_s (by omega) (by rw [show w5 + (w15 - w5) = w15 from by omega, ← i0_48])]) (by omega) | exact mx_n i1_48 (fun x => by rw [mxI (by omega) (by omega), sm_s (by omega) (by rw [show w5 + (w15 - w5) = w15 from by omega, ← i0_48])]) (by omega) (by omega))) (by omega) (by omega) (by omega) (by omega)  
        · refine r_iload_n hC dX6_run_39 rfl ?_
          refine r_istore_n hC dX6_run_40 rfl ?_
          refine r_iconst hC dX6_run_41 rfl ?_
          refine r_istore hC dX6_run_42 rfl ?_
          refine r_iload hC dX6_run_44 rfl ?_
          refine r_istore hC dX6_run_46 rfl ?_
          have L48 : ∀ (n48 : Nat) (w22 w23 w24 : Int), -242000 ≤ w22 ∧ w22 ≤ 242000 → 0 ≤ w23 ∧ w23 ≤ 242 → -2147483648 ≤ w24 ∧ w24 ≤ 242000 → ((w22) = sm (σ 37 0) (w5) ((w23) - (w5)).toNat) → (IsMx (PI (σ 37 0) n ((w5)).toNat ((w23) - (w5)).toNat) (w24)) → (-1000 * ((w23) - (w5)) ≤ (w22) ∧ (w22) ≤ 1000 * ((w23) - (w5))) → ((w23) ≤ (n : Int)) → ((w5) ≤ (w23)) → 242 - w23 < (n48 : Int) → K 48 [some (vR 30 0), some (vI (w1 + (σ 37 0 w5))), some (vI w24), some (vI (w1 + (σ 37 0 w5))), some (vI w4), some (vI w5), some (vI w22), some (vI w23)] [] σ := by
            intro n48
            induction n48 with
            | zero => intro w22 w23 w24  f_w22 f_w23 f_w24 i0_48 i1_48 i2_48 i3_48 i4_48 hm  ; omega
            | succ n48 ih48 =>
              intro w22 w23 w24  f_w22 f_w23 f_w24 i0_48 i1_48 i2_48 i3_48 i4_48 hm48  
              refine r_iload hC dX6_run_48 rfl ?_
              refine r_aload_n hC dX6_run_50 rfl ?_
              refine z_getI (jz := 8) hM dX6_run_51 fl_RX6_105 rfl rfl rfl (fun v25 h_v25 o_v25 t_v25 => ?_)
              have e_v25 : (n : Int) = v25 := ((t_v25 ((by simp [Tk, Tb, DL, DR]))).trans qg0).symm
              subst e_v25
              refine r_icmp_ge (tgt := 84) hC dX6_run_54 rfl (fun h26 => ?_) (fun h26 => ?_)
              · have hsm : sm (σ 37 0) w5 ((n : Int) - w5).toNat = w22 := by rw [i0_48, show w23 = (n : Int) from by omega]
                refine r_iload hC dX6_run_84 rfl ?_
                refine r_iload hC dX6_run_86 rfl ?_
                refine r_icmp_le (tgt := 95) hC dX6_run_88 rfl (fun h27 => ?_) (fun h27 => ?_)
                · refine r_iincE hC ((w5 + 1)) dX6_run_95 rfl rfl (by omega) (by unfold inR; omega) ?_
                  refine r_goto (tgt := 15) hC dX6_run_98 rfl ?_
                  refine r_forget hC (ls2 := [some (vR 30 0), some (vI (w1 + (σ 37 0 w5))), some (vI w24), some (vI (w1 + (σ 37 0 w5))), some (vI w4), some (vI (w5 + 1)), none, none]) (lsub_some (lsub_some (lsub_some (lsub_some (lsub_some (lsub_some (lsub_none (lsub_none lsub_nil)))))))) ?_
                  exact ih15 ((w1 + (σ 37 0 w5))) (w24) ((w1 + (σ 37 0 w5))) (w4) ((w5 + 1))  (by omega) (by omega) (by omega) (by omega) (by omega) (by first | rfl | exact (sm_s (by omega) (by rw [← i0_15, Int.zero_add])).symm) (by first | exact mx_0 (by rintro x ⟨j, m, h1, h2, h3, h4⟩; omega) | exact mx_c i1_48 (mxB (by omega) (by omega) (by omega))) (by first | exact mx_0 (by rintro x ⟨m, h1, h2, h3⟩; omega) | exact mx_y i2_15 (fun x => by rw [mxF (by omega), sm_s (by omega) (by rw [← i0_15, Int.zero_add])]) (by omega) | exact mx_n i2_15 (fun x => by rw [mxF (by omega), sm_s (by omega) (by rw [← i0_15, Int.zero_add])]) (by omega) (by omega)) (by first | exact mx_0 (by rintro x ⟨m, h1, h3⟩; omega) | exact mx_y i3_15 (fun x => by rw [mxL (by omega), hsm]) (by omega) | exact mx_n i3_15 (fun x => by rw [mxL (by omega), hsm]) (by omega) (by omega)) (by omega) (by omega) (by omega)  
                · refine r_iload hC dX6_run_91 rfl ?_
                  refine r_istore hC dX6_run_93 rfl ?_
                  refine r_iincE hC ((w5 + 1)) dX6_run_95 rfl rfl (by omega) (by unfold inR; omega) ?_
                  refine r_goto (tgt := 15) hC dX6_run_98 rfl ?_
                  refine r_forget hC (ls2 := [some (vR 30 0), some (vI (w1 + (σ 37 0 w5))), some (vI w24), some (vI (w1 + (σ 37 0 w5))), some (vI w22), some (vI (w5 + 1)), none, none]) (lsub_some (lsub_some (lsub_some (lsub_some (lsub_some (lsub_some (lsub_none (lsub_none lsub_nil)))))))) ?_
                  exact ih15 ((w1 + (σ 37 0 w5))) (w24) ((w1 + (σ 37 0 w5))) (w22) ((w5 + 1))  (by omega) (by omega) (by omega) (by omega) (by omega) (by first | rfl | exact (sm_s (by omega) (by rw [← i0_15, Int.zero_add])).symm) (by first | exact mx_0 (by rintro x ⟨j, m, h1, h2, h3, h4⟩; omega) | exact mx_c i1_48 (mxB (by omega) (by omega) (by omega))) (by first | exact mx_0 (by rintro x ⟨m, h1, h2, h3⟩; omega) | exact mx_y i2_15 (fun x => by rw [mxF (by omega), sm_s (by omega) (by rw [← i0_15, Int.zero_add])]) (by omega) | exact mx_n i2_15 (fun x => by rw [mxF (by omega), sm_s (by omega) (by rw [← i0_15, Int.zero_add])]) (by omega) (by omega)) (by first | exact mx_0 (by rintro x ⟨m, h1, h3⟩; omega) | exact mx_y i3_15 (fun x => by rw [mxL (by omega), hsm]) (by omega) | exact mx_n i3_15 (fun x => by rw [mxL (by omega), hsm]) (by omega) (by omega)) (by omega) (by omega) (by omega)  
              · refine r_iload hC dX6_run_57 rfl ?_
                refine r_aload_n hC dX6_run_59 rfl ?_
                refine z_getR hM dX6_run_60 fl_RX6_28 rfl rfl (vld_of (n := 1) rfl (by omega) (by omega)) ?_
                refine r_iload hC dX6_run_63 rfl ?_
                refine z_iald hM dX6_run_65 rfl (by omega) (by omega) (fun v28 h_v28 o_v28 t_v28 => ?_)
                have w_v28 := ((t_v28 (Or.inr (Or.inr (Or.inr ⟨rfl, by first | exact True.intro | exact (rfl : true = true)⟩)))).trans (rfl)).symm
                subst w_v28
                have b_v28 := hb w23 (by omega) (by omega)
                refine r_iaddE hC ((w22 + (σ 37 0 w23))) dX6_run_66 (by omega) (by unfold inR; omega) ?_
                refine r_istore hC dX6_run_67 rfl ?_
                refine r_iload hC dX6_run_69 rfl ?_
                refine r_iload_n hC dX6_run_71 rfl ?_
                refine r_icmp_le (tgt := 78) hC dX6_run_72 rfl (fun h29 => ?_) (fun h29 => ?_)
                · refine r_iincE hC ((w23 + 1)) dX6_run_78 rfl rfl (by omega) (by unfold inR; omega) ?_
                  refine r_goto (tgt := 48) hC dX6_run_81 rfl ?_
                  exact ih48 ((w22 + (σ 37 0 w23))) ((w23 + 1)) (w24)  (by omega) (by omega) (by omega) (by first | (rw [Int.sub_self]; rfl) | (rw [show (w23 + 1 - w5) = (w23 - w5) + 1 from by omega]; exact (sm_s (by omega) (by rw [show w5 + (w23 - w5) = w23 from by omega, ← i0_48])).symm)) (by first | (rw [Int.sub_self]; exact mx_c i1_15 PI_0) | (rw [show (w23 + 1 - w5) = (w23 - w5) + 1 from by omega]; first | exact mx_y i1_48 (fun x => by rw [mxI (by omega) (by omega), sm_s (by omega) (by rw [show w5 + (w23 - w5) = w23 from by omega, ← i0_48])]) (by omega) | exact mx_n i1_48 (fun x => by rw [mxI (by omega) (by omega), sm_s (by omega) (by rw [show w5 + (w23 - w5) = w23 from by omega, ← i0_48])]) (by omega) (by omega))) (by omega) (by omega) (by omega) (by omega)  
                · refine r_iload hC dX6_run_75 rfl ?_
                  refine r_istore_n hC dX6_run_77 rfl ?_
                  refine r_iincE hC ((w23 + 1)) dX6_run_78 rfl rfl (by omega) (by unfold inR; omega) ?_
                  refine r_goto (tgt := 48) hC dX6_run_81 rfl ?_
                  exact ih48 ((w22 + (σ 37 0 w23))) ((w23 + 1)) ((w22 + (σ 37 0 w23)))  (by omega) (by omega) (by omega) (by first | (rw [Int.sub_self]; rfl) | (rw [show (w23 + 1 - w5) = (w23 - w5) + 1 from by omega]; exact (sm_s (by omega) (by rw [show w5 + (w23 - w5) = w23 from by omega, ← i0_48])).symm)) (by first | (rw [Int.sub_self]; exact mx_c i1_15 PI_0) | (rw [show (w23 + 1 - w5) = (w23 - w5) + 1 from by omega]; first | exact mx_y i1_48 (fun x => by rw [mxI (by omega) (by omega), sm_s (by omega) (by rw [show w5 + (w23 - w5) = w23 from by omega, ← i0_48])]) (by omega) | exact mx_n i1_48 (fun x => by rw [mxI (by omega) (by omega), sm_s (by omega) (by rw [show w5 + (w23 - w5) = w23 from by omega, ← i0_48])]) (by omega) (by omega))) (by omega) (by omega) (by omega) (by omega)  
          exact L48 244 (0) (w5) (w2)  (by omega) (by omega) (by omega) (by first | (rw [Int.sub_self]; rfl) | (rw [show (w23 + 1 - w5) = (w23 - w5) + 1 from by omega]; exact (sm_s (by omega) (by rw [show w5 + (w23 - w5) = w23 from by omega, ← i0_48])).symm)) (by first | (rw [Int.sub_self]; exact mx_c i1_15 PI_0) | (rw [show (w23 + 1 - w5) = (w23 - w5) + 1 from by omega]; first | exact mx_y i1_48 (fun x => by rw [mxI (by omega) (by omega), sm_s (by omega) (by rw [show w5 + (w23 - w5) = w23 from by omega, ← i0_48])]) (by omega) | exact mx_n i1_48 (fun x => by rw [mxI (by omega) (by omega), sm_s (by omega) (by rw [show w5 + (w23 - w5) = w23 from by omega, ← i0_48])]) (by omega) (by omega))) (by omega) (by omega) (by omega) (by omega)  
  exact L15 244 (0) ((-2147483648)) ((-2147483648)) ((-2147483648)) (0)  (by omega) (by omega) (by omega) (by omega) (by omega) (by first | rfl | exact (sm_s (by omega) (by rw [← i0_15, Int.zero_add])).symm) (by first | exact mx_0 (by rintro x ⟨j, m, h1, h2, h3, h4⟩; omega) | exact mx_c i1_48 (mxB (by omega) (by omega) (by omega))) (by first | exact mx_0 (by rintro x ⟨m, h1, h2, h3⟩; omega) | exact mx_y i2_15 (fun x => by rw [mxF (by omega), sm_s (by omega) (by rw [← i0_15, Int.zero_add])]) (by omega) | exact mx_n i2_15 (fun x => by rw [mxF (by omega), sm_s (by omega) (by rw [← i0_15, Int.zero_add])]) (by omega) (by omega)) (by first | exact mx_0 (by rintro x ⟨m, h1, h3⟩; omega) | exact mx_y i3_15 (fun x => by rw [mxL (by omega), hsm]) (by omega) | exact mx_n i3_15 (fun x => by rw [mxL (by omega), hsm]) (by omega) (by omega)) (by omega) (by omega) (by omega)  
-- B: the reference: send, like
theorem y_bits0 {e : Ev} {d : Nat} {P : Option Vl → Mm → Prop} {σ : Mm}   (k : P (some (vI 0)) σ) : WT e (d + 1) 166 [vI 0] σ P := by
  refine WT_in fun K hK => ?_
  have hK : StpY e cX6_bits RX6 (some .int) (WT e (d + 0)) P K := hK
  have hM := hK.1
  have hC := hK.1.1
  show K 0 [some (vI 0), none, none] [] σ
  refine r_iconst hC dX6_bits_0 rfl ?_
  refine r_istore_n hC dX6_bits_1 rfl ?_
  refine r_iconst hC dX6_bits_2 rfl ?_
  refine r_istore_n hC dX6_bits_3 rfl ?_
  refine r_iload_n hC dX6_bits_4 rfl ?_
  refine r_iconst hC dX6_bits_5 rfl ?_
  refine r_icmp_ge (tgt := 23) hC dX6_bits_6 rfl (fun h1 => by omega) (fun h1 => ?_)
  refine r_iload_n hC dX6_bits_9 rfl ?_
  refine r_iload_n hC dX6_bits_10 rfl ?_
  refine r_iload_n hC dX6_bits_11 rfl ?_
  refine r_ishr hC dX6_bits_12 ?_
  rw [show ishr (0) (0) = (0 : Int) from by decide +kernel]
  refine r_iconst hC dX6_bits_13 rfl ?_
  refine r_iand hC dX6_bits_14 ?_
  rw [show iand (0) (1) = (0 : Int) from by decide +kernel]
  refine r_iaddE hC (0) dX6_bits_15 (by omega) (by unfold inR; omega) ?_
  refine r_istore_n hC dX6_bits_16 rfl ?_
  show K _ [_, _, _] _ _
  refine r_iincE hC (1) dX6_bits_17 rfl rfl (by omega) (by unfold inR; omega) ?_
  refine r_goto (tgt := 4) hC dX6_bits_20 rfl ?_
  refine r_iload_n hC dX6_bits_4 rfl ?_
  refine r_iconst hC dX6_bits_5 rfl ?_
  refine r_icmp_ge (tgt := 23) hC dX6_bits_6 rfl (fun h4 => by omega) (fun h4 => ?_)
  refine r_iload_n hC dX6_bits_9 rfl ?_
  refine r_iload_n hC dX6_bits_10 rfl ?_
  refine r_iload_n hC dX6_bits_11 rfl ?_
  refine r_ishr hC dX6_bits_12 ?_
  rw [show ishr (0) (1) = (0 : Int) from by decide +kernel]
  refine r_iconst hC dX6_bits_13 rfl ?_
  refine r_iand hC dX6_bits_14 ?_
  rw [show iand (0) (1) = (0 : Int) from by decide +kernel]
  refine r_iaddE hC (0) dX6_bits_15 (by omega) (by unfold inR; omega) ?_
  refine r_istore_n hC dX6_bits_16 rfl ?_
  refine r_iincE hC (2) dX6_bits_17 rfl rfl (by omega) (by unfold inR; omega) ?_
  show K _ [_, _, _] _ _
  refine r_goto (tgt := 4) hC dX6_bits_20 rfl ?_
  refine r_iload_n hC dX6_bits_4 rfl ?_
  refine r_iconst hC dX6_bits_5 rfl ?_
  refine r_icmp_ge (tgt := 23) hC dX6_bits_6 rfl (fun h7 => by omega) (fun h7 => ?_)
  refine r_iload_n hC dX6_bits_9 rfl ?_
  refine r_iload_n hC dX6_bits_10 rfl ?_
  refine r_iload_n hC dX6_bits_11 rfl ?_
  refine r_ishr hC dX6_bits_12 ?_
  rw [show ishr (0) (2) = (0 : Int) from by decide +kernel]
  refine r_iconst hC dX6_bits_13 rfl ?_
  refine r_iand hC dX6_bits_14 ?_
  rw [show iand (0) (1) = (0 : Int) from by decide +kernel]
  refine r_iaddE hC (0) dX6_bits_15 (by omega) (by unfold inR; omega) ?_
  refine r_istore_n hC dX6_bits_16 rfl ?_
  refine r_iincE hC (3) dX6_bits_17 rfl rfl (by omega) (by unfold inR; omega) ?_
  refine r_goto (tgt := 4) hC dX6_bits_20 rfl ?_
  refine r_iload_n hC dX6_bits_4 rfl ?_
  refine r_iconst hC dX6_bits_5 rfl ?_
  refine r_icmp_ge (tgt := 23) hC dX6_bits_6 rfl (fun h10 => by omega) (fun h10 => ?_)
  refine r_iload_n hC dX6_bits_9 rfl ?_
  refine r_iload_n hC dX6_bits_10 rfl ?_
  refine r_iload_n hC dX6_bits_11 rfl ?_
  refine r_ishr hC dX6_bits_12 ?_
  rw [show ishr (0) (3) = (0 : Int) from by decide +kernel]
  refine r_iconst hC dX6_bits_13 rfl ?_
  refine r_iand hC dX6_bits_14 ?_
  rw [show iand (0) (1) = (0 : Int) from by decide +kernel]
  refine r_iaddE hC (0) dX6_bits_15 (by omega) (by unfold inR; omega) ?_
  refine r_istore_n hC dX6_bits_16 rfl ?_
  show K _ [_, _, _] _ _
  refine r_iincE hC (4) dX6_bits_17 rfl rfl (by omega) (by unfold inR; omega) ?_
  refine r_goto (tgt := 4) hC dX6_bits_20 rfl ?_
  refine r_iload_n hC dX6_bits_4 rfl ?_
  refine r_iconst hC dX6_bits_5 rfl ?_
  refine r_icmp_ge (tgt := 23) hC dX6_bits_6 rfl (fun h13 => ?_) (fun h13 => by omega)
  refine r_iload_n hC dX6_bits_23 rfl ?_
  refine y_iret hK rfl dX6_bits_24 ?_
  exact k
theorem y_bits1 {e : Ev} {d : Nat} {P : Option Vl → Mm → Prop} {σ : Mm}   (k : P (some (vI 1)) σ) : WT e (d + 1) 166 [vI 1] σ P := by
  refine WT_in fun K hK => ?_
  have hK : StpY e cX6_bits RX6 (some .int) (WT e (d + 0)) P K := hK
  have hM := hK.1
  have hC := hK.1.1
  show K 0 [some (vI 1), none, none] [] σ
  refine r_iconst hC dX6_bits_0 rfl ?_
  refine r_istore_n hC dX6_bits_1 rfl ?_
  refine r_iconst hC dX6_bits_2 rfl ?_
  refine r_istore_n hC dX6_bits_3 rfl ?_
  refine r_iload_n hC dX6_bits_4 rfl ?_
  refine r_iconst hC dX6_bits_5 rfl ?_
  refine r_icmp_ge (tgt := 23) hC dX6_bits_6 rfl (fun h1 => by omega) (fun h1 => ?_)
  refine r_iload_n hC dX6_bits_9 rfl ?_
  refine r_iload_n hC dX6_bits_10 rfl ?_
  refine r_iload_n hC dX6_bits_11 rfl ?_
  refine r_ishr hC dX6_bits_12 ?_
  rw [show ishr (1) (0) = (1 : Int) from by decide +kernel]
  refine r_iconst hC dX6_bits_13 rfl ?_
  refine r_iand hC dX6_bits_14 ?_
  rw [show iand (1) (1) = (1 : Int) from by decide +kernel]
  refine r_iaddE hC (1) dX6_bits_15 (by omega) (by unfold inR; omega) ?_
  refine r_istore_n hC dX6_bits_16 rfl ?_
  show K _ [_, _, _] _ _
  refine r_iincE hC (1) dX6_bits_17 rfl rfl (by omega) (by unfold inR; omega) ?_
  refine r_goto (tgt := 4) hC dX6_bits_20 rfl ?_
  refine r_iload_n hC dX6_bits_4 rfl ?_
  refine r_iconst hC dX6_bits_5 rfl ?_
  refine r_icmp_ge (tgt := 23) hC dX6_bits_6 rfl (fun h4 => by omega) (fun h4 => ?_)
  refine r_iload_n hC dX6_bits_9 rfl ?_
  refine r_iload_n hC dX6_bits_10 rfl ?_
  refine r_iload_n hC dX6_bits_11 rfl ?_
  refine r_ishr hC dX6_bits_12 ?_
  rw [show ishr (1) (1) = (0 : Int) from by decide +kernel]
  refine r_iconst hC dX6_bits_13 rfl ?_
  refine r_iand hC dX6_bits_14 ?_
  rw [show iand (0) (1) = (0 : Int) from by decide +kernel]
  refine r_iaddE hC (1) dX6_bits_15 (by omega) (by unfold inR; omega) ?_
  refine r_istore_n hC dX6_bits_16 rfl ?_
  refine r_iincE hC (2) dX6_bits_17 rfl rfl (by omega) (by unfold inR; omega) ?_
  show K _ [_, _, _] _ _
  refine r_goto (tgt := 4) hC dX6_bits_20 rfl ?_
  refine r_iload_n hC dX6_bits_4 rfl ?_
  refine r_iconst hC dX6_bits_5 rfl ?_
  refine r_icmp_ge (tgt := 23) hC dX6_bits_6 rfl (fun h7 => by omega) (fun h7 => ?_)
  refine r_iload_n hC dX6_bits_9 rfl ?_
  refine r_iload_n hC dX6_bits_10 rfl ?_
  refine r_iload_n hC dX6_bits_11 rfl ?_
  refine r_ishr hC dX6_bits_12 ?_
  rw [show ishr (1) (2) = (0 : Int) from by decide +kernel]
  refine r_iconst hC dX6_bits_13 rfl ?_
  refine r_iand hC dX6_bits_14 ?_
  rw [show iand (0) (1) = (0 : Int) from by decide +kernel]
  refine r_iaddE hC (1) dX6_bits_15 (by omega) (by unfold inR; omega) ?_
  refine r_istore_n hC dX6_bits_16 rfl ?_
  refine r_iincE hC (3) dX6_bits_17 rfl rfl (by omega) (by unfold inR; omega) ?_
  refine r_goto (tgt := 4) hC dX6_bits_20 rfl ?_
  refine r_iload_n hC dX6_bits_4 rfl ?_
  refine r_iconst hC dX6_bits_5 rfl ?_
  refine r_icmp_ge (tgt := 23) hC dX6_bits_6 rfl (fun h10 => by omega) (fun h10 => ?_)
  refine r_iload_n hC dX6_bits_9 rfl ?_
  refine r_iload_n hC dX6_bits_10 rfl ?_
  refine r_iload_n hC dX6_bits_11 rfl ?_
  refine r_ishr hC dX6_bits_12 ?_
  rw [show ishr (1) (3) = (0 : Int) from by decide +kernel]
  refine r_iconst hC dX6_bits_13 rfl ?_
  refine r_iand hC dX6_bits_14 ?_
  rw [show iand (0) (1) = (0 : Int) from by decide +kernel]
  refine r_iaddE hC (1) dX6_bits_15 (by omega) (by unfold inR; omega) ?_
  refine r_istore_n hC dX6_bits_16 rfl ?_
  show K _ [_, _, _] _ _
  refine r_iincE hC (4) dX6_bits_17 rfl rfl (by omega) (by unfold inR; omega) ?_
  refine r_goto (tgt := 4) hC dX6_bits_20 rfl ?_
  refine r_iload_n hC dX6_bits_4 rfl ?_
  refine r_iconst hC dX6_bits_5 rfl ?_
  refine r_icmp_ge (tgt := 23) hC dX6_bits_6 rfl (fun h13 => ?_) (fun h13 => by omega)
  refine r_iload_n hC dX6_bits_23 rfl ?_
  refine y_iret hK rfl dX6_bits_24 ?_
  exact k
theorem y_bits2 {e : Ev} {d : Nat} {P : Option Vl → Mm → Prop} {σ : Mm}   (k : P (some (vI 1)) σ) : WT e (d + 1) 166 [vI 2] σ P := by
  refine WT_in fun K hK => ?_
  have hK : StpY e cX6_bits RX6 (some .int) (WT e (d + 0)) P K := hK
  have hM := hK.1
  have hC := hK.1.1
  show K 0 [some (vI 2), none, none] [] σ
  refine r_iconst hC dX6_bits_0 rfl ?_
  refine r_istore_n hC dX6_bits_1 rfl ?_
  refine r_iconst hC dX6_bits_2 rfl ?_
  refine r_istore_n hC dX6_bits_3 rfl ?_
  refine r_iload_n hC dX6_bits_4 rfl ?_
  refine r_iconst hC dX6_bits_5 rfl ?_
  refine r_icmp_ge (tgt := 23) hC dX6_bits_6 rfl (fun h1 => by omega) (fun h1 => ?_)
  refine r_iload_n hC dX6_bits_9 rfl ?_
  refine r_iload_n hC dX6_bits_10 rfl ?_
  refine r_iload_n hC dX6_bits_11 rfl ?_
  refine r_ishr hC dX6_bits_12 ?_
  rw [show ishr (2) (0) = (2 : Int) from by decide +kernel]
  refine r_iconst hC dX6_bits_13 rfl ?_
  refine r_iand hC dX6_bits_14 ?_
  rw [show iand (2) (1) = (0 : Int) from by decide +kernel]
  refine r_iaddE hC (0) dX6_bits_15 (by omega) (by unfold inR; omega) ?_
  refine r_istore_n hC dX6_bits_16 rfl ?_
  show K _ [_, _, _] _ _
  refine r_iincE hC (1) dX6_bits_17 rfl rfl (by omega) (by unfold inR; omega) ?_
  refine r_goto (tgt := 4) hC dX6_bits_20 rfl ?_
  refine r_iload_n hC dX6_bits_4 rfl ?_
  refine r_iconst hC dX6_bits_5 rfl ?_
  refine r_icmp_ge (tgt := 23) hC dX6_bits_6 rfl (fun h4 => by omega) (fun h4 => ?_)
  refine r_iload_n hC dX6_bits_9 rfl ?_
  refine r_iload_n hC dX6_bits_10 rfl ?_
  refine r_iload_n hC dX6_bits_11 rfl ?_
  refine r_ishr hC dX6_bits_12 ?_
  rw [show ishr (2) (1) = (1 : Int) from by decide +kernel]
  refine r_iconst hC dX6_bits_13 rfl ?_
  refine r_iand hC dX6_bits_14 ?_
  rw [show iand (1) (1) = (1 : Int) from by decide +kernel]
  refine r_iaddE hC (1) dX6_bits_15 (by omega) (by unfold inR; omega) ?_
  refine r_istore_n hC dX6_bits_16 rfl ?_
  refine r_iincE hC (2) dX6_bits_17 rfl rfl (by omega) (by unfold inR; omega) ?_
  show K _ [_, _, _] _ _
  refine r_goto (tgt := 4) hC dX6_bits_20 rfl ?_
  refine r_iload_n hC dX6_bits_4 rfl ?_
  refine r_iconst hC dX6_bits_5 rfl ?_
  refine r_icmp_ge (tgt := 23) hC dX6_bits_6 rfl (fun h7 => by omega) (fun h7 => ?_)
  refine r_iload_n hC dX6_bits_9 rfl ?_
  refine r_iload_n hC dX6_bits_10 rfl ?_
  refine r_iload_n hC dX6_bits_11 rfl ?_
  refine r_ishr hC dX6_bits_12 ?_
  rw [show ishr (2) (2) = (0 : Int) from by decide +kernel]
  refine r_iconst hC dX6_bits_13 rfl ?_
  refine r_iand hC dX6_bits_14 ?_
  rw [show iand (0) (1) = (0 : Int) from by decide +kernel]
  refine r_iaddE hC (1) dX6_bits_15 (by omega) (by unfold inR; omega) ?_
  refine r_istore_n hC dX6_bits_16 rfl ?_
  refine r_iincE hC (3) dX6_bits_17 rfl rfl (by omega) (by unfold inR; omega) ?_
  refine r_goto (tgt := 4) hC dX6_bits_20 rfl ?_
  refine r_iload_n hC dX6_bits_4 rfl ?_
  refine r_iconst hC dX6_bits_5 rfl ?_
  refine r_icmp_ge (tgt := 23) hC dX6_bits_6 rfl (fun h10 => by omega) (fun h10 => ?_)
  refine r_iload_n hC dX6_bits_9 rfl ?_
  refine r_iload_n hC dX6_bits_10 rfl ?_
  refine r_iload_n hC dX6_bits_11 rfl ?_
  refine r_ishr hC dX6_bits_12 ?_
  rw [show ishr (2) (3) = (0 : Int) from by decide +kernel]
  refine r_iconst hC dX6_bits_13 rfl ?_
  refine r_iand hC dX6_bits_14 ?_
  rw [show iand (0) (1) = (0 : Int) from by decide +kernel]
  refine r_iaddE hC (1) dX6_bits_15 (by omega) (by unfold inR; omega) ?_
  refine r_istore_n hC dX6_bits_16 rfl ?_
  show K _ [_, _, _] _ _
  refine r_iincE hC (4) dX6_bits_17 rfl rfl (by omega) (by unfold inR; omega) ?_
  refine r_goto (tgt := 4) hC dX6_bits_20 rfl ?_
  refine r_iload_n hC dX6_bits_4 rfl ?_
  refine r_iconst hC dX6_bits_5 rfl ?_
  refine r_icmp_ge (tgt := 23) hC dX6_bits_6 rfl (fun h13 => ?_) (fun h13 => by omega)
  refine r_iload_n hC dX6_bits_23 rfl ?_
  refine y_iret hK rfl dX6_bits_24 ?_
  exact k
theorem y_bits3 {e : Ev} {d : Nat} {P : Option Vl → Mm → Prop} {σ : Mm}   (k : P (some (vI 2)) σ) : WT e (d + 1) 166 [vI 3] σ P := by
  refine WT_in fun K hK => ?_
  have hK : StpY e cX6_bits RX6 (some .int) (WT e (d + 0)) P K := hK
  have hM := hK.1
  have hC := hK.1.1
  show K 0 [some (vI 3), none, none] [] σ
  refine r_iconst hC dX6_bits_0 rfl ?_
  refine r_istore_n hC dX6_bits_1 rfl ?_
  refine r_iconst hC dX6_bits_2 rfl ?_
  refine r_istore_n hC dX6_bits_3 rfl ?_
  refine r_iload_n hC dX6_bits_4 rfl ?_
  refine r_iconst hC dX6_bits_5 rfl ?_
  refine r_icmp_ge (tgt := 23) hC dX6_bits_6 rfl (fun h1 => by omega) (fun h1 => ?_)
  refine r_iload_n hC dX6_bits_9 rfl ?_
  refine r_iload_n hC dX6_bits_10 rfl ?_
  refine r_iload_n hC dX6_bits_11 rfl ?_
  refine r_ishr hC dX6_bits_12 ?_
  rw [show ishr (3) (0) = (3 : Int) from by decide +kernel]
  refine r_iconst hC dX6_bits_13 rfl ?_
  refine r_iand hC dX6_bits_14 ?_
  rw [show iand (3) (1) = (1 : Int) from by decide +kernel]
  refine r_iaddE hC (1) dX6_bits_15 (by omega) (by unfold inR; omega) ?_
  refine r_istore_n hC dX6_bits_16 rfl ?_
  show K _ [_, _, _] _ _
  refine r_iincE hC (1) dX6_bits_17 rfl rfl (by omega) (by unfold inR; omega) ?_
  refine r_goto (tgt := 4) hC dX6_bits_20 rfl ?_
  refine r_iload_n hC dX6_bits_4 rfl ?_
  refine r_iconst hC dX6_bits_5 rfl ?_
  refine r_icmp_ge (tgt := 23) hC dX6_bits_6 rfl (fun h4 => by omega) (fun h4 => ?_)
  refine r_iload_n hC dX6_bits_9 rfl ?_
  refine r_iload_n hC dX6_bits_10 rfl ?_
  refine r_iload_n hC dX6_bits_11 rfl ?_
  refine r_ishr hC dX6_bits_12 ?_
  rw [show ishr (3) (1) = (1 : Int) from by decide +kernel]
  refine r_iconst hC dX6_bits_13 rfl ?_
  refine r_iand hC dX6_bits_14 ?_
  rw [show iand (1) (1) = (1 : Int) from by decide +kernel]
  refine r_iaddE hC (2) dX6_bits_15 (by omega) (by unfold inR; omega) ?_
  refine r_istore_n hC dX6_bits_16 rfl ?_
  refine r_iincE hC (2) dX6_bits_17 rfl rfl (by omega) (by unfold inR; omega) ?_
  show K _ [_, _, _] _ _
  refine r_goto (tgt := 4) hC dX6_bits_20 rfl ?_
  refine r_iload_n hC dX6_bits_4 rfl ?_
  refine r_iconst hC dX6_bits_5 rfl ?_
  refine r_icmp_ge (tgt := 23) hC dX6_bits_6 rfl (fun h7 => by omega) (fun h7 => ?_)
  refine r_iload_n hC dX6_bits_9 rfl ?_
  refine r_iload_n hC dX6_bits_10 rfl ?_
  refine r_iload_n hC dX6_bits_11 rfl ?_
  refine r_ishr hC dX6_bits_12 ?_
  rw [show ishr (3) (2) = (0 : Int) from by decide +kernel]
  refine r_iconst hC dX6_bits_13 rfl ?_
  refine r_iand hC dX6_bits_14 ?_
  rw [show iand (0) (1) = (0 : Int) from by decide +kernel]
  refine r_iaddE hC (2) dX6_bits_15 (by omega) (by unfold inR; omega) ?_
  refine r_istore_n hC dX6_bits_16 rfl ?_
  refine r_iincE hC (3) dX6_bits_17 rfl rfl (by omega) (by unfold inR; omega) ?_
  refine r_goto (tgt := 4) hC dX6_bits_20 rfl ?_
  refine r_iload_n hC dX6_bits_4 rfl ?_
  refine r_iconst hC dX6_bits_5 rfl ?_
  refine r_icmp_ge (tgt := 23) hC dX6_bits_6 rfl (fun h10 => by omega) (fun h10 => ?_)
  refine r_iload_n hC dX6_bits_9 rfl ?_
  refine r_iload_n hC dX6_bits_10 rfl ?_
  refine r_iload_n hC dX6_bits_11 rfl ?_
  refine r_ishr hC dX6_bits_12 ?_
  rw [show ishr (3) (3) = (0 : Int) from by decide +kernel]
  refine r_iconst hC dX6_bits_13 rfl ?_
  refine r_iand hC dX6_bits_14 ?_
  rw [show iand (0) (1) = (0 : Int) from by decide +kernel]
  refine r_iaddE hC (2) dX6_bits_15 (by omega) (by unfold inR; omega) ?_
  refine r_istore_n hC dX6_bits_16 rfl ?_
  show K _ [_, _, _] _ _
  refine r_iincE hC (4) dX6_bits_17 rfl rfl (by omega) (by unfold inR; omega) ?_
  refine r_goto (tgt := 4) hC dX6_bits_20 rfl ?_
  refine r_iload_n hC dX6_bits_4 rfl ?_
  refine r_iconst hC dX6_bits_5 rfl ?_
  refine r_icmp_ge (tgt := 23) hC dX6_bits_6 rfl (fun h13 => ?_) (fun h13 => by omega)
  refine r_iload_n hC dX6_bits_23 rfl ?_
  refine y_iret hK rfl dX6_bits_24 ?_
  exact k
theorem y_bits4 {e : Ev} {d : Nat} {P : Option Vl → Mm → Prop} {σ : Mm}   (k : P (some (vI 1)) σ) : WT e (d + 1) 166 [vI 4] σ P := by
  refine WT_in fun K hK => ?_
  have hK : StpY e cX6_bits RX6 (some .int) (WT e (d + 0)) P K := hK
  have hM := hK.1
  have hC := hK.1.1
  show K 0 [some (vI 4), none, none] [] σ
  refine r_iconst hC dX6_bits_0 rfl ?_
  refine r_istore_n hC dX6_bits_1 rfl ?_
  refine r_iconst hC dX6_bits_2 rfl ?_
  refine r_istore_n hC dX6_bits_3 rfl ?_
  refine r_iload_n hC dX6_bits_4 rfl ?_
  refine r_iconst hC dX6_bits_5 rfl ?_
  refine r_icmp_ge (tgt := 23) hC dX6_bits_6 rfl (fun h1 => by omega) (fun h1 => ?_)
  refine r_iload_n hC dX6_bits_9 rfl ?_
  refine r_iload_n hC dX6_bits_10 rfl ?_
  refine r_iload_n hC dX6_bits_11 rfl ?_
  refine r_ishr hC dX6_bits_12 ?_
  rw [show ishr (4) (0) = (4 : Int) from by decide +kernel]
  refine r_iconst hC dX6_bits_13 rfl ?_
  refine r_iand hC dX6_bits_14 ?_
  rw [show iand (4) (1) = (0 : Int) from by decide +kernel]
  refine r_iaddE hC (0) dX6_bits_15 (by omega) (by unfold inR; omega) ?_
  refine r_istore_n hC dX6_bits_16 rfl ?_
  show K _ [_, _, _] _ _
  refine r_iincE hC (1) dX6_bits_17 rfl rfl (by omega) (by unfold inR; omega) ?_
  refine r_goto (tgt := 4) hC dX6_bits_20 rfl ?_
  refine r_iload_n hC dX6_bits_4 rfl ?_
  refine r_iconst hC dX6_bits_5 rfl ?_
  refine r_icmp_ge (tgt := 23) hC dX6_bits_6 rfl (fun h4 => by omega) (fun h4 => ?_)
  refine r_iload_n hC dX6_bits_9 rfl ?_
  refine r_iload_n hC dX6_bits_10 rfl ?_
  refine r_iload_n hC dX6_bits_11 rfl ?_
  refine r_ishr hC dX6_bits_12 ?_
  rw [show ishr (4) (1) = (2 : Int) from by decide +kernel]
  refine r_iconst hC dX6_bits_13 rfl ?_
  refine r_iand hC dX6_bits_14 ?_
  rw [show iand (2) (1) = (0 : Int) from by decide +kernel]
  refine r_iaddE hC (0) dX6_bits_15 (by omega) (by unfold inR; omega) ?_
  refine r_istore_n hC dX6_bits_16 rfl ?_
  refine r_iincE hC (2) dX6_bits_17 rfl rfl (by omega) (by unfold inR; omega) ?_
  show K _ [_, _, _] _ _
  refine r_goto (tgt := 4) hC dX6_bits_20 rfl ?_
  refine r_iload_n hC dX6_bits_4 rfl ?_
  refine r_iconst hC dX6_bits_5 rfl ?_
  refine r_icmp_ge (tgt := 23) hC dX6_bits_6 rfl (fun h7 => by omega) (fun h7 => ?_)
  refine r_iload_n hC dX6_bits_9 rfl ?_
  refine r_iload_n hC dX6_bits_10 rfl ?_
  refine r_iload_n hC dX6_bits_11 rfl ?_
  refine r_ishr hC dX6_bits_12 ?_
  rw [show ishr (4) (2) = (1 : Int) from by decide +kernel]
  refine r_iconst hC dX6_bits_13 rfl ?_
  refine r_iand hC dX6_bits_14 ?_
  rw [show iand (1) (1) = (1 : Int) from by decide +kernel]
  refine r_iaddE hC (1) dX6_bits_15 (by omega) (by unfold inR; omega) ?_
  refine r_istore_n hC dX6_bits_16 rfl ?_
  refine r_iincE hC (3) dX6_bits_17 rfl rfl (by omega) (by unfold inR; omega) ?_
  refine r_goto (tgt := 4) hC dX6_bits_20 rfl ?_
  refine r_iload_n hC dX6_bits_4 rfl ?_
  refine r_iconst hC dX6_bits_5 rfl ?_
  refine r_icmp_ge (tgt := 23) hC dX6_bits_6 rfl (fun h10 => by omega) (fun h10 => ?_)
  refine r_iload_n hC dX6_bits_9 rfl ?_
  refine r_iload_n hC dX6_bits_10 rfl ?_
  refine r_iload_n hC dX6_bits_11 rfl ?_
  refine r_ishr hC dX6_bits_12 ?_
  rw [show ishr (4) (3) = (0 : Int) from by decide +kernel]
  refine r_iconst hC dX6_bits_13 rfl ?_
  refine r_iand hC dX6_bits_14 ?_
  rw [show iand (0) (1) = (0 : Int) from by decide +kernel]
  refine r_iaddE hC (1) dX6_bits_15 (by omega) (by unfold inR; omega) ?_
  refine r_istore_n hC dX6_bits_16 rfl ?_
  show K _ [_, _, _] _ _
  refine r_iincE hC (4) dX6_bits_17 rfl rfl (by omega) (by unfold inR; omega) ?_
  refine r_goto (tgt := 4) hC dX6_bits_20 rfl ?_
  refine r_iload_n hC dX6_bits_4 rfl ?_
  refine r_iconst hC dX6_bits_5 rfl ?_
  refine r_icmp_ge (tgt := 23) hC dX6_bits_6 rfl (fun h13 => ?_) (fun h13 => by omega)
  refine r_iload_n hC dX6_bits_23 rfl ?_
  refine y_iret hK rfl dX6_bits_24 ?_
  exact k
theorem y_bits5 {e : Ev} {d : Nat} {P : Option Vl → Mm → Prop} {σ : Mm}   (k : P (some (vI 2)) σ) : WT e (d + 1) 166 [vI 5] σ P := by
  refine WT_in fun K hK => ?_
  have hK : StpY e cX6_bits RX6 (some .int) (WT e (d + 0)) P K := hK
  have hM := hK.1
  have hC := hK.1.1
  show K 0 [some (vI 5), none, none] [] σ
  refine r_iconst hC dX6_bits_0 rfl ?_
  refine r_istore_n hC dX6_bits_1 rfl ?_
  refine r_iconst hC dX6_bits_2 rfl ?_
  refine r_istore_n hC dX6_bits_3 rfl ?_
  refine r_iload_n hC dX6_bits_4 rfl ?_
  refine r_iconst hC dX6_bits_5 rfl ?_
  refine r_icmp_ge (tgt := 23) hC dX6_bits_6 rfl (fun h1 => by omega) (fun h1 => ?_)
  refine r_iload_n hC dX6_bits_9 rfl ?_
  refine r_iload_n hC dX6_bits_10 rfl ?_
  refine r_iload_n hC dX6_bits_11 rfl ?_
  refine r_ishr hC dX6_bits_12 ?_
  rw [show ishr (5) (0) = (5 : Int) from by decide +kernel]
  refine r_iconst hC dX6_bits_13 rfl ?_
  refine r_iand hC dX6_bits_14 ?_
  rw [show iand (5) (1) = (1 : Int) from by decide +kernel]
  refine r_iaddE hC (1) dX6_bits_15 (by omega) (by unfold inR; omega) ?_
  refine r_istore_n hC dX6_bits_16 rfl ?_
  show K _ [_, _, _] _ _
  refine r_iincE hC (1) dX6_bits_17 rfl rfl (by omega) (by unfold inR; omega) ?_
  refine r_goto (tgt := 4) hC dX6_bits_20 rfl ?_
  refine r_iload_n hC dX6_bits_4 rfl ?_
  refine r_iconst hC dX6_bits_5 rfl ?_
  refine r_icmp_ge (tgt := 23) hC dX6_bits_6 rfl (fun h4 => by omega) (fun h4 => ?_)
  refine r_iload_n hC dX6_bits_9 rfl ?_
  refine r_iload_n hC dX6_bits_10 rfl ?_
  refine r_iload_n hC dX6_bits_11 rfl ?_
  refine r_ishr hC dX6_bits_12 ?_
  rw [show ishr (5) (1) = (2 : Int) from by decide +kernel]
  refine r_iconst hC dX6_bits_13 rfl ?_
  refine r_iand hC dX6_bits_14 ?_
  rw [show iand (2) (1) = (0 : Int) from by decide +kernel]
  refine r_iaddE hC (1) dX6_bits_15 (by omega) (by unfold inR; omega) ?_
  refine r_istore_n hC dX6_bits_16 rfl ?_
  refine r_iincE hC (2) dX6_bits_17 rfl rfl (by omega) (by unfold inR; omega) ?_
  show K _ [_, _, _] _ _
  refine r_goto (tgt := 4) hC dX6_bits_20 rfl ?_
  refine r_iload_n hC dX6_bits_4 rfl ?_
  refine r_iconst hC dX6_bits_5 rfl ?_
  refine r_icmp_ge (tgt := 23) hC dX6_bits_6 rfl (fun h7 => by omega) (fun h7 => ?_)
  refine r_iload_n hC dX6_bits_9 rfl ?_
  refine r_iload_n hC dX6_bits_10 rfl ?_
  refine r_iload_n hC dX6_bits_11 rfl ?_
  refine r_ishr hC dX6_bits_12 ?_
  rw [show ishr (5) (2) = (1 : Int) from by decide +kernel]
  refine r_iconst hC dX6_bits_13 rfl ?_
  refine r_iand hC dX6_bits_14 ?_
  rw [show iand (1) (1) = (1 : Int) from by decide +kernel]
  refine r_iaddE hC (2) dX6_bits_15 (by omega) (by unfold inR; omega) ?_
  refine r_istore_n hC dX6_bits_16 rfl ?_
  refine r_iincE hC (3) dX6_bits_17 rfl rfl (by omega) (by unfold inR; omega) ?_
  refine r_goto (tgt := 4) hC dX6_bits_20 rfl ?_
  refine r_iload_n hC dX6_bits_4 rfl ?_
  refine r_iconst hC dX6_bits_5 rfl ?_
  refine r_icmp_ge (tgt := 23) hC dX6_bits_6 rfl (fun h10 => by omega) (fun h10 => ?_)
  refine r_iload_n hC dX6_bits_9 rfl ?_
  refine r_iload_n hC dX6_bits_10 rfl ?_
  refine r_iload_n hC dX6_bits_11 rfl ?_
  refine r_ishr hC dX6_bits_12 ?_
  rw [show ishr (5) (3) = (0 : Int) from by decide +kernel]
  refine r_iconst hC dX6_bits_13 rfl ?_
  refine r_iand hC dX6_bits_14 ?_
  rw [show iand (0) (1) = (0 : Int) from by decide +kernel]
  refine r_iaddE hC (2) dX6_bits_15 (by omega) (by unfold inR; omega) ?_
  refine r_istore_n hC dX6_bits_16 rfl ?_
  show K _ [_, _, _] _ _
  refine r_iincE hC (4) dX6_bits_17 rfl rfl (by omega) (by unfold inR; omega) ?_
  refine r_goto (tgt := 4) hC dX6_bits_20 rfl ?_
  refine r_iload_n hC dX6_bits_4 rfl ?_
  refine r_iconst hC dX6_bits_5 rfl ?_
  refine r_icmp_ge (tgt := 23) hC dX6_bits_6 rfl (fun h13 => ?_) (fun h13 => by omega)
  refine r_iload_n hC dX6_bits_23 rfl ?_
  refine y_iret hK rfl dX6_bits_24 ?_
  exact k
theorem y_bits6 {e : Ev} {d : Nat} {P : Option Vl → Mm → Prop} {σ : Mm}   (k : P (some (vI 2)) σ) : WT e (d + 1) 166 [vI 6] σ P := by
  refine WT_in fun K hK => ?_
  have hK : StpY e cX6_bits RX6 (some .int) (WT e (d + 0)) P K := hK
  have hM := hK.1
  have hC := hK.1.1
  show K 0 [some (vI 6), none, none] [] σ
  refine r_iconst hC dX6_bits_0 rfl ?_
  refine r_istore_n hC dX6_bits_1 rfl ?_
  refine r_iconst hC dX6_bits_2 rfl ?_
  refine r_istore_n hC dX6_bits_3 rfl ?_
  refine r_iload_n hC dX6_bits_4 rfl ?_
  refine r_iconst hC dX6_bits_5 rfl ?_
  refine r_icmp_ge (tgt := 23) hC dX6_bits_6 rfl (fun h1 => by omega) (fun h1 => ?_)
  refine r_iload_n hC dX6_bits_9 rfl ?_
  refine r_iload_n hC dX6_bits_10 rfl ?_
  refine r_iload_n hC dX6_bits_11 rfl ?_
  refine r_ishr hC dX6_bits_12 ?_
  rw [show ishr (6) (0) = (6 : Int) from by decide +kernel]
  refine r_iconst hC dX6_bits_13 rfl ?_
  refine r_iand hC dX6_bits_14 ?_
  rw [show iand (6) (1) = (0 : Int) from by decide +kernel]
  refine r_iaddE hC (0) dX6_bits_15 (by omega) (by unfold inR; omega) ?_
  refine r_istore_n hC dX6_bits_16 rfl ?_
  show K _ [_, _, _] _ _
  refine r_iincE hC (1) dX6_bits_17 rfl rfl (by omega) (by unfold inR; omega) ?_
  refine r_goto (tgt := 4) hC dX6_bits_20 rfl ?_
  refine r_iload_n hC dX6_bits_4 rfl ?_
  refine r_iconst hC dX6_bits_5 rfl ?_
  refine r_icmp_ge (tgt := 23) hC dX6_bits_6 rfl (fun h4 => by omega) (fun h4 => ?_)
  refine r_iload_n hC dX6_bits_9 rfl ?_
  refine r_iload_n hC dX6_bits_10 rfl ?_
  refine r_iload_n hC dX6_bits_11 rfl ?_
  refine r_ishr hC dX6_bits_12 ?_
  rw [show ishr (6) (1) = (3 : Int) from by decide +kernel]
  refine r_iconst hC dX6_bits_13 rfl ?_
  refine r_iand hC dX6_bits_14 ?_
  rw [show iand (3) (1) = (1 : Int) from by decide +kernel]
  refine r_iaddE hC (1) dX6_bits_15 (by omega) (by unfold inR; omega) ?_
  refine r_istore_n hC dX6_bits_16 rfl ?_
  refine r_iincE hC (2) dX6_bits_17 rfl rfl (by omega) (by unfold inR; omega) ?_
  show K _ [_, _, _] _ _
  refine r_goto (tgt := 4) hC dX6_bits_20 rfl ?_
  refine r_iload_n hC dX6_bits_4 rfl ?_
  refine r_iconst hC dX6_bits_5 rfl ?_
  refine r_icmp_ge (tgt := 23) hC dX6_bits_6 rfl (fun h7 => by omega) (fun h7 => ?_)
  refine r_iload_n hC dX6_bits_9 rfl ?_
  refine r_iload_n hC dX6_bits_10 rfl ?_
  refine r_iload_n hC dX6_bits_11 rfl ?_
  refine r_ishr hC dX6_bits_12 ?_
  rw [show ishr (6) (2) = (1 : Int) from by decide +kernel]
  refine r_iconst hC dX6_bits_13 rfl ?_
  refine r_iand hC dX6_bits_14 ?_
  rw [show iand (1) (1) = (1 : Int) from by decide +kernel]
  refine r_iaddE hC (2) dX6_bits_15 (by omega) (by unfold inR; omega) ?_
  refine r_istore_n hC dX6_bits_16 rfl ?_
  refine r_iincE hC (3) dX6_bits_17 rfl rfl (by omega) (by unfold inR; omega) ?_
  refine r_goto (tgt := 4) hC dX6_bits_20 rfl ?_
  refine r_iload_n hC dX6_bits_4 rfl ?_
  refine r_iconst hC dX6_bits_5 rfl ?_
  refine r_icmp_ge (tgt := 23) hC dX6_bits_6 rfl (fun h10 => by omega) (fun h10 => ?_)
  refine r_iload_n hC dX6_bits_9 rfl ?_
  refine r_iload_n hC dX6_bits_10 rfl ?_
  refine r_iload_n hC dX6_bits_11 rfl ?_
  refine r_ishr hC dX6_bits_12 ?_
  rw [show ishr (6) (3) = (0 : Int) from by decide +kernel]
  refine r_iconst hC dX6_bits_13 rfl ?_
  refine r_iand hC dX6_bits_14 ?_
  rw [show iand (0) (1) = (0 : Int) from by decide +kernel]
  refine r_iaddE hC (2) dX6_bits_15 (by omega) (by unfold inR; omega) ?_
  refine r_istore_n hC dX6_bits_16 rfl ?_
  show K _ [_, _, _] _ _
  refine r_iincE hC (4) dX6_bits_17 rfl rfl (by omega) (by unfold inR; omega) ?_
  refine r_goto (tgt := 4) hC dX6_bits_20 rfl ?_
  refine r_iload_n hC dX6_bits_4 rfl ?_
  refine r_iconst hC dX6_bits_5 rfl ?_
  refine r_icmp_ge (tgt := 23) hC dX6_bits_6 rfl (fun h13 => ?_) (fun h13 => by omega)
  refine r_iload_n hC dX6_bits_23 rfl ?_
  refine y_iret hK rfl dX6_bits_24 ?_
  exact k
theorem y_bits7 {e : Ev} {d : Nat} {P : Option Vl → Mm → Prop} {σ : Mm}   (k : P (some (vI 3)) σ) : WT e (d + 1) 166 [vI 7] σ P := by
  refine WT_in fun K hK => ?_
  have hK : StpY e cX6_bits RX6 (some .int) (WT e (d + 0)) P K := hK
  have hM := hK.1
  have hC := hK.1.1
  show K 0 [some (vI 7), none, none] [] σ
  refine r_iconst hC dX6_bits_0 rfl ?_
  refine r_istore_n hC dX6_bits_1 rfl ?_
  refine r_iconst hC dX6_bits_2 rfl ?_
  refine r_istore_n hC dX6_bits_3 rfl ?_
  refine r_iload_n hC dX6_bits_4 rfl ?_
  refine r_iconst hC dX6_bits_5 rfl ?_
  refine r_icmp_ge (tgt := 23) hC dX6_bits_6 rfl (fun h1 => by omega) (fun h1 => ?_)
  refine r_iload_n hC dX6_bits_9 rfl ?_
  refine r_iload_n hC dX6_bits_10 rfl ?_
  refine r_iload_n hC dX6_bits_11 rfl ?_
  refine r_ishr hC dX6_bits_12 ?_
  rw [show ishr (7) (0) = (7 : Int) from by decide +kernel]
  refine r_iconst hC dX6_bits_13 rfl ?_
  refine r_iand hC dX6_bits_14 ?_
  rw [show iand (7) (1) = (1 : Int) from by decide +kernel]
  refine r_iaddE hC (1) dX6_bits_15 (by omega) (by unfold inR; omega) ?_
  refine r_istore_n hC dX6_bits_16 rfl ?_
  show K _ [_, _, _] _ _
  refine r_iincE hC (1) dX6_bits_17 rfl rfl (by omega) (by unfold inR; omega) ?_
  refine r_goto (tgt := 4) hC dX6_bits_20 rfl ?_
  refine r_iload_n hC dX6_bits_4 rfl ?_
  refine r_iconst hC dX6_bits_5 rfl ?_
  refine r_icmp_ge (tgt := 23) hC dX6_bits_6 rfl (fun h4 => by omega) (fun h4 => ?_)
  refine r_iload_n hC dX6_bits_9 rfl ?_
  refine r_iload_n hC dX6_bits_10 rfl ?_
  refine r_iload_n hC dX6_bits_11 rfl ?_
  refine r_ishr hC dX6_bits_12 ?_
  rw [show ishr (7) (1) = (3 : Int) from by decide +kernel]
  refine r_iconst hC dX6_bits_13 rfl ?_
  refine r_iand hC dX6_bits_14 ?_
  rw [show iand (3) (1) = (1 : Int) from by decide +kernel]
  refine r_iaddE hC (2) dX6_bits_15 (by omega) (by unfold inR; omega) ?_
  refine r_istore_n hC dX6_bits_16 rfl ?_
  refine r_iincE hC (2) dX6_bits_17 rfl rfl (by omega) (by unfold inR; omega) ?_
  show K _ [_, _, _] _ _
  refine r_goto (tgt := 4) hC dX6_bits_20 rfl ?_
  refine r_iload_n hC dX6_bits_4 rfl ?_
  refine r_iconst hC dX6_bits_5 rfl ?_
  refine r_icmp_ge (tgt := 23) hC dX6_bits_6 rfl (fun h7 => by omega) (fun h7 => ?_)
  refine r_iload_n hC dX6_bits_9 rfl ?_
  refine r_iload_n hC dX6_bits_10 rfl ?_
  refine r_iload_n hC dX6_bits_11 rfl ?_
  refine r_ishr hC dX6_bits_12 ?_
  rw [show ishr (7) (2) = (1 : Int) from by decide +kernel]
  refine r_iconst hC dX6_bits_13 rfl ?_
  refine r_iand hC dX6_bits_14 ?_
  rw [show iand (1) (1) = (1 : Int) from by decide +kernel]
  refine r_iaddE hC (3) dX6_bits_15 (by omega) (by unfold inR; omega) ?_
  refine r_istore_n hC dX6_bits_16 rfl ?_
  refine r_iincE hC (3) dX6_bits_17 rfl rfl (by omega) (by unfold inR; omega) ?_
  refine r_goto (tgt := 4) hC dX6_bits_20 rfl ?_
  refine r_iload_n hC dX6_bits_4 rfl ?_
  refine r_iconst hC dX6_bits_5 rfl ?_
  refine r_icmp_ge (tgt := 23) hC dX6_bits_6 rfl (fun h10 => by omega) (fun h10 => ?_)
  refine r_iload_n hC dX6_bits_9 rfl ?_
  refine r_iload_n hC dX6_bits_10 rfl ?_
  refine r_iload_n hC dX6_bits_11 rfl ?_
  refine r_ishr hC dX6_bits_12 ?_
  rw [show ishr (7) (3) = (0 : Int) from by decide +kernel]
  refine r_iconst hC dX6_bits_13 rfl ?_
  refine r_iand hC dX6_bits_14 ?_
  rw [show iand (0) (1) = (0 : Int) from by decide +kernel]
  refine r_iaddE hC (3) dX6_bits_15 (by omega) (by unfold inR; omega) ?_
  refine r_istore_n hC dX6_bits_16 rfl ?_
  show K _ [_, _, _] _ _
  refine r_iincE hC (4) dX6_bits_17 rfl rfl (by omega) (by unfold inR; omega) ?_
  refine r_goto (tgt := 4) hC dX6_bits_20 rfl ?_
  refine r_iload_n hC dX6_bits_4 rfl ?_
  refine r_iconst hC dX6_bits_5 rfl ?_
  refine r_icmp_ge (tgt := 23) hC dX6_bits_6 rfl (fun h13 => ?_) (fun h13 => by omega)
  refine r_iload_n hC dX6_bits_23 rfl ?_
  refine y_iret hK rfl dX6_bits_24 ?_
  exact k
theorem y_bits8 {e : Ev} {d : Nat} {P : Option Vl → Mm → Prop} {σ : Mm}   (k : P (some (vI 1)) σ) : WT e (d + 1) 166 [vI 8] σ P := by
  refine WT_in fun K hK => ?_
  have hK : StpY e cX6_bits RX6 (some .int) (WT e (d + 0)) P K := hK
  have hM := hK.1
  have hC := hK.1.1
  show K 0 [some (vI 8), none, none] [] σ
  refine r_iconst hC dX6_bits_0 rfl ?_
  refine r_istore_n hC dX6_bits_1 rfl ?_
  refine r_iconst hC dX6_bits_2 rfl ?_
  refine r_istore_n hC dX6_bits_3 rfl ?_
  refine r_iload_n hC dX6_bits_4 rfl ?_
  refine r_iconst hC dX6_bits_5 rfl ?_
  refine r_icmp_ge (tgt := 23) hC dX6_bits_6 rfl (fun h1 => by omega) (fun h1 => ?_)
  refine r_iload_n hC dX6_bits_9 rfl ?_
  refine r_iload_n hC dX6_bits_10 rfl ?_
  refine r_iload_n hC dX6_bits_11 rfl ?_
  refine r_ishr hC dX6_bits_12 ?_
  rw [show ishr (8) (0) = (8 : Int) from by decide +kernel]
  refine r_iconst hC dX6_bits_13 rfl ?_
  refine r_iand hC dX6_bits_14 ?_
  rw [show iand (8) (1) = (0 : Int) from by decide +kernel]
  refine r_iaddE hC (0) dX6_bits_15 (by omega) (by unfold inR; omega) ?_
  refine r_istore_n hC dX6_bits_16 rfl ?_
  show K _ [_, _, _] _ _
  refine r_iincE hC (1) dX6_bits_17 rfl rfl (by omega) (by unfold inR; omega) ?_
  refine r_goto (tgt := 4) hC dX6_bits_20 rfl ?_
  refine r_iload_n hC dX6_bits_4 rfl ?_
  refine r_iconst hC dX6_bits_5 rfl ?_
  refine r_icmp_ge (tgt := 23) hC dX6_bits_6 rfl (fun h4 => by omega) (fun h4 => ?_)
  refine r_iload_n hC dX6_bits_9 rfl ?_
  refine r_iload_n hC dX6_bits_10 rfl ?_
  refine r_iload_n hC dX6_bits_11 rfl ?_
  refine r_ishr hC dX6_bits_12 ?_
  rw [show ishr (8) (1) = (4 : Int) from by decide +kernel]
  refine r_iconst hC dX6_bits_13 rfl ?_
  refine r_iand hC dX6_bits_14 ?_
  rw [show iand (4) (1) = (0 : Int) from by decide +kernel]
  refine r_iaddE hC (0) dX6_bits_15 (by omega) (by unfold inR; omega) ?_
  refine r_istore_n hC dX6_bits_16 rfl ?_
  refine r_iincE hC (2) dX6_bits_17 rfl rfl (by omega) (by unfold inR; omega) ?_
  show K _ [_, _, _] _ _
  refine r_goto (tgt := 4) hC dX6_bits_20 rfl ?_
  refine r_iload_n hC dX6_bits_4 rfl ?_
  refine r_iconst hC dX6_bits_5 rfl ?_
  refine r_icmp_ge (tgt := 23) hC dX6_bits_6 rfl (fun h7 => by omega) (fun h7 => ?_)
  refine r_iload_n hC dX6_bits_9 rfl ?_
  refine r_iload_n hC dX6_bits_10 rfl ?_
  refine r_iload_n hC dX6_bits_11 rfl ?_
  refine r_ishr hC dX6_bits_12 ?_
  rw [show ishr (8) (2) = (2 : Int) from by decide +kernel]
  refine r_iconst hC dX6_bits_13 rfl ?_
  refine r_iand hC dX6_bits_14 ?_
  rw [show iand (2) (1) = (0 : Int) from by decide +kernel]
  refine r_iaddE hC (0) dX6_bits_15 (by omega) (by unfold inR; omega) ?_
  refine r_istore_n hC dX6_bits_16 rfl ?_
  refine r_iincE hC (3) dX6_bits_17 rfl rfl (by omega) (by unfold inR; omega) ?_
  refine r_goto (tgt := 4) hC dX6_bits_20 rfl ?_
  refine r_iload_n hC dX6_bits_4 rfl ?_
  refine r_iconst hC dX6_bits_5 rfl ?_
  refine r_icmp_ge (tgt := 23) hC dX6_bits_6 rfl (fun h10 => by omega) (fun h10 => ?_)
  refine r_iload_n hC dX6_bits_9 rfl ?_
  refine r_iload_n hC dX6_bits_10 rfl ?_
  refine r_iload_n hC dX6_bits_11 rfl ?_
  refine r_ishr hC dX6_bits_12 ?_
  rw [show ishr (8) (3) = (1 : Int) from by decide +kernel]
  refine r_iconst hC dX6_bits_13 rfl ?_
  refine r_iand hC dX6_bits_14 ?_
  rw [show iand (1) (1) = (1 : Int) from by decide +kernel]
  refine r_iaddE hC (1) dX6_bits_15 (by omega) (by unfold inR; omega) ?_
  refine r_istore_n hC dX6_bits_16 rfl ?_
  show K _ [_, _, _] _ _
  refine r_iincE hC (4) dX6_bits_17 rfl rfl (by omega) (by unfold inR; omega) ?_
  refine r_goto (tgt := 4) hC dX6_bits_20 rfl ?_
  refine r_iload_n hC dX6_bits_4 rfl ?_
  refine r_iconst hC dX6_bits_5 rfl ?_
  refine r_icmp_ge (tgt := 23) hC dX6_bits_6 rfl (fun h13 => ?_) (fun h13 => by omega)
  refine r_iload_n hC dX6_bits_23 rfl ?_
  refine y_iret hK rfl dX6_bits_24 ?_
  exact k
theorem y_bits9 {e : Ev} {d : Nat} {P : Option Vl → Mm → Prop} {σ : Mm}   (k : P (some (vI 2)) σ) : WT e (d + 1) 166 [vI 9] σ P := by
  refine WT_in fun K hK => ?_
  have hK : StpY e cX6_bits RX6 (some .int) (WT e (d + 0)) P K := hK
  have hM := hK.1
  have hC := hK.1.1
  show K 0 [some (vI 9), none, none] [] σ
  refine r_iconst hC dX6_bits_0 rfl ?_
  refine r_istore_n hC dX6_bits_1 rfl ?_
  refine r_iconst hC dX6_bits_2 rfl ?_
  refine r_istore_n hC dX6_bits_3 rfl ?_
  refine r_iload_n hC dX6_bits_4 rfl ?_
  refine r_iconst hC dX6_bits_5 rfl ?_
  refine r_icmp_ge (tgt := 23) hC dX6_bits_6 rfl (fun h1 => by omega) (fun h1 => ?_)
  refine r_iload_n hC dX6_bits_9 rfl ?_
  refine r_iload_n hC dX6_bits_10 rfl ?_
  refine r_iload_n hC dX6_bits_11 rfl ?_
  refine r_ishr hC dX6_bits_12 ?_
  rw [show ishr (9) (0) = (9 : Int) from by decide +kernel]
  refine r_iconst hC dX6_bits_13 rfl ?_
  refine r_iand hC dX6_bits_14 ?_
  rw [show iand (9) (1) = (1 : Int) from by decide +kernel]
  refine r_iaddE hC (1) dX6_bits_15 (by omega) (by unfold inR; omega) ?_
  refine r_istore_n hC dX6_bits_16 rfl ?_
  show K _ [_, _, _] _ _
  refine r_iincE hC (1) dX6_bits_17 rfl rfl (by omega) (by unfold inR; omega) ?_
  refine r_goto (tgt := 4) hC dX6_bits_20 rfl ?_
  refine r_iload_n hC dX6_bits_4 rfl ?_
  refine r_iconst hC dX6_bits_5 rfl ?_
  refine r_icmp_ge (tgt := 23) hC dX6_bits_6 rfl (fun h4 => by omega) (fun h4 => ?_)
  refine r_iload_n hC dX6_bits_9 rfl ?_
  refine r_iload_n hC dX6_bits_10 rfl ?_
  refine r_iload_n hC dX6_bits_11 rfl ?_
  refine r_ishr hC dX6_bits_12 ?_
  rw [show ishr (9) (1) = (4 : Int) from by decide +kernel]
  refine r_iconst hC dX6_bits_13 rfl ?_
  refine r_iand hC dX6_bits_14 ?_
  rw [show iand (4) (1) = (0 : Int) from by decide +kernel]
  refine r_iaddE hC (1) dX6_bits_15 (by omega) (by unfold inR; omega) ?_
  refine r_istore_n hC dX6_bits_16 rfl ?_
  refine r_iincE hC (2) dX6_bits_17 rfl rfl (by omega) (by unfold inR; omega) ?_
  show K _ [_, _, _] _ _
  refine r_goto (tgt := 4) hC dX6_bits_20 rfl ?_
  refine r_iload_n hC dX6_bits_4 rfl ?_
  refine r_iconst hC dX6_bits_5 rfl ?_
  refine r_icmp_ge (tgt := 23) hC dX6_bits_6 rfl (fun h7 => by omega) (fun h7 => ?_)
  refine r_iload_n hC dX6_bits_9 rfl ?_
  refine r_iload_n hC dX6_bits_10 rfl ?_
  refine r_iload_n hC dX6_bits_11 rfl ?_
  refine r_ishr hC dX6_bits_12 ?_
  rw [show ishr (9) (2) = (2 : Int) from by decide +kernel]
  refine r_iconst hC dX6_bits_13 rfl ?_
  refine r_iand hC dX6_bits_14 ?_
  rw [show iand (2) (1) = (0 : Int) from by decide +kernel]
  refine r_iaddE hC (1) dX6_bits_15 (by omega) (by unfold inR; omega) ?_
  refine r_istore_n hC dX6_bits_16 rfl ?_
  refine r_iincE hC (3) dX6_bits_17 rfl rfl (by omega) (by unfold inR; omega) ?_
  refine r_goto (tgt := 4) hC dX6_bits_20 rfl ?_
  refine r_iload_n hC dX6_bits_4 rfl ?_
  refine r_iconst hC dX6_bits_5 rfl ?_
  refine r_icmp_ge (tgt := 23) hC dX6_bits_6 rfl (fun h10 => by omega) (fun h10 => ?_)
  refine r_iload_n hC dX6_bits_9 rfl ?_
  refine r_iload_n hC dX6_bits_10 rfl ?_
  refine r_iload_n hC dX6_bits_11 rfl ?_
  refine r_ishr hC dX6_bits_12 ?_
  rw [show ishr (9) (3) = (1 : Int) from by decide +kernel]
  refine r_iconst hC dX6_bits_13 rfl ?_
  refine r_iand hC dX6_bits_14 ?_
  rw [show iand (1) (1) = (1 : Int) from by decide +kernel]
  refine r_iaddE hC (2) dX6_bits_15 (by omega) (by unfold inR; omega) ?_
  refine r_istore_n hC dX6_bits_16 rfl ?_
  show K _ [_, _, _] _ _
  refine r_iincE hC (4) dX6_bits_17 rfl rfl (by omega) (by unfold inR; omega) ?_
  refine r_goto (tgt := 4) hC dX6_bits_20 rfl ?_
  refine r_iload_n hC dX6_bits_4 rfl ?_
  refine r_iconst hC dX6_bits_5 rfl ?_
  refine r_icmp_ge (tgt := 23) hC dX6_bits_6 rfl (fun h13 => ?_) (fun h13 => by omega)
  refine r_iload_n hC dX6_bits_23 rfl ?_
  refine y_iret hK rfl dX6_bits_24 ?_
  exact k
theorem y_bits10 {e : Ev} {d : Nat} {P : Option Vl → Mm → Prop} {σ : Mm}   (k : P (some (vI 2)) σ) : WT e (d + 1) 166 [vI 10] σ P := by
  refine WT_in fun K hK => ?_
  have hK : StpY e cX6_bits RX6 (some .int) (WT e (d + 0)) P K := hK
  have hM := hK.1
  have hC := hK.1.1
  show K 0 [some (vI 10), none, none] [] σ
  refine r_iconst hC dX6_bits_0 rfl ?_
  refine r_istore_n hC dX6_bits_1 rfl ?_
  refine r_iconst hC dX6_bits_2 rfl ?_
  refine r_istore_n hC dX6_bits_3 rfl ?_
  refine r_iload_n hC dX6_bits_4 rfl ?_
  refine r_iconst hC dX6_bits_5 rfl ?_
  refine r_icmp_ge (tgt := 23) hC dX6_bits_6 rfl (fun h1 => by omega) (fun h1 => ?_)
  refine r_iload_n hC dX6_bits_9 rfl ?_
  refine r_iload_n hC dX6_bits_10 rfl ?_
  refine r_iload_n hC dX6_bits_11 rfl ?_
  refine r_ishr hC dX6_bits_12 ?_
  rw [show ishr (10) (0) = (10 : Int) from by decide +kernel]
  refine r_iconst hC dX6_bits_13 rfl ?_
  refine r_iand hC dX6_bits_14 ?_
  rw [show iand (10) (1) = (0 : Int) from by decide +kernel]
  refine r_iaddE hC (0) dX6_bits_15 (by omega) (by unfold inR; omega) ?_
  refine r_istore_n hC dX6_bits_16 rfl ?_
  show K _ [_, _, _] _ _
  refine r_iincE hC (1) dX6_bits_17 rfl rfl (by omega) (by unfold inR; omega) ?_
  refine r_goto (tgt := 4) hC dX6_bits_20 rfl ?_
  refine r_iload_n hC dX6_bits_4 rfl ?_
  refine r_iconst hC dX6_bits_5 rfl ?_
  refine r_icmp_ge (tgt := 23) hC dX6_bits_6 rfl (fun h4 => by omega) (fun h4 => ?_)
  refine r_iload_n hC dX6_bits_9 rfl ?_
  refine r_iload_n hC dX6_bits_10 rfl ?_
  refine r_iload_n hC dX6_bits_11 rfl ?_
  refine r_ishr hC dX6_bits_12 ?_
  rw [show ishr (10) (1) = (5 : Int) from by decide +kernel]
  refine r_iconst hC dX6_bits_13 rfl ?_
  refine r_iand hC dX6_bits_14 ?_
  rw [show iand (5) (1) = (1 : Int) from by decide +kernel]
  refine r_iaddE hC (1) dX6_bits_15 (by omega) (by unfold inR; omega) ?_
  refine r_istore_n hC dX6_bits_16 rfl ?_
  refine r_iincE hC (2) dX6_bits_17 rfl rfl (by omega) (by unfold inR; omega) ?_
  show K _ [_, _, _] _ _
  refine r_goto (tgt := 4) hC dX6_bits_20 rfl ?_
  refine r_iload_n hC dX6_bits_4 rfl ?_
  refine r_iconst hC dX6_bits_5 rfl ?_
  refine r_icmp_ge (tgt := 23) hC dX6_bits_6 rfl (fun h7 => by omega) (fun h7 => ?_)
  refine r_iload_n hC dX6_bits_9 rfl ?_
  refine r_iload_n hC dX6_bits_10 rfl ?_
  refine r_iload_n hC dX6_bits_11 rfl ?_
  refine r_ishr hC dX6_bits_12 ?_
  rw [show ishr (10) (2) = (2 : Int) from by decide +kernel]
  refine r_iconst hC dX6_bits_13 rfl ?_
  refine r_iand hC dX6_bits_14 ?_
  rw [show iand (2) (1) = (0 : Int) from by decide +kernel]
  refine r_iaddE hC (1) dX6_bits_15 (by omega) (by unfold inR; omega) ?_
  refine r_istore_n hC dX6_bits_16 rfl ?_
  refine r_iincE hC (3) dX6_bits_17 rfl rfl (by omega) (by unfold inR; omega) ?_
  refine r_goto (tgt := 4) hC dX6_bits_20 rfl ?_
  refine r_iload_n hC dX6_bits_4 rfl ?_
  refine r_iconst hC dX6_bits_5 rfl ?_
  refine r_icmp_ge (tgt := 23) hC dX6_bits_6 rfl (fun h10 => by omega) (fun h10 => ?_)
  refine r_iload_n hC dX6_bits_9 rfl ?_
  refine r_iload_n hC dX6_bits_10 rfl ?_
  refine r_iload_n hC dX6_bits_11 rfl ?_
  refine r_ishr hC dX6_bits_12 ?_
  rw [show ishr (10) (3) = (1 : Int) from by decide +kernel]
  refine r_iconst hC dX6_bits_13 rfl ?_
  refine r_iand hC dX6_bits_14 ?_
  rw [show iand (1) (1) = (1 : Int) from by decide +kernel]
  refine r_iaddE hC (2) dX6_bits_15 (by omega) (by unfold inR; omega) ?_
  refine r_istore_n hC dX6_bits_16 rfl ?_
  show K _ [_, _, _] _ _
  refine r_iincE hC (4) dX6_bits_17 rfl rfl (by omega) (by unfold inR; omega) ?_
  refine r_goto (tgt := 4) hC dX6_bits_20 rfl ?_
  refine r_iload_n hC dX6_bits_4 rfl ?_
  refine r_iconst hC dX6_bits_5 rfl ?_
  refine r_icmp_ge (tgt := 23) hC dX6_bits_6 rfl (fun h13 => ?_) (fun h13 => by omega)
  refine r_iload_n hC dX6_bits_23 rfl ?_
  refine y_iret hK rfl dX6_bits_24 ?_
  exact k
theorem y_bits11 {e : Ev} {d : Nat} {P : Option Vl → Mm → Prop} {σ : Mm}   (k : P (some (vI 3)) σ) : WT e (d + 1) 166 [vI 11] σ P := by
  refine WT_in fun K hK => ?_
  have hK : StpY e cX6_bits RX6 (some .int) (WT e (d + 0)) P K := hK
  have hM := hK.1
  have hC := hK.1.1
  show K 0 [some (vI 11), none, none] [] σ
  refine r_iconst hC dX6_bits_0 rfl ?_
  refine r_istore_n hC dX6_bits_1 rfl ?_
  refine r_iconst hC dX6_bits_2 rfl ?_
  refine r_istore_n hC dX6_bits_3 rfl ?_
  refine r_iload_n hC dX6_bits_4 rfl ?_
  refine r_iconst hC dX6_bits_5 rfl ?_
  refine r_icmp_ge (tgt := 23) hC dX6_bits_6 rfl (fun h1 => by omega) (fun h1 => ?_)
  refine r_iload_n hC dX6_bits_9 rfl ?_
  refine r_iload_n hC dX6_bits_10 rfl ?_
  refine r_iload_n hC dX6_bits_11 rfl ?_
  refine r_ishr hC dX6_bits_12 ?_
  rw [show ishr (11) (0) = (11 : Int) from by decide +kernel]
  refine r_iconst hC dX6_bits_13 rfl ?_
  refine r_iand hC dX6_bits_14 ?_
  rw [show iand (11) (1) = (1 : Int) from by decide +kernel]
  refine r_iaddE hC (1) dX6_bits_15 (by omega) (by unfold inR; omega) ?_
  refine r_istore_n hC dX6_bits_16 rfl ?_
  show K _ [_, _, _] _ _
  refine r_iincE hC (1) dX6_bits_17 rfl rfl (by omega) (by unfold inR; omega) ?_
  refine r_goto (tgt := 4) hC dX6_bits_20 rfl ?_
  refine r_iload_n hC dX6_bits_4 rfl ?_
  refine r_iconst hC dX6_bits_5 rfl ?_
  refine r_icmp_ge (tgt := 23) hC dX6_bits_6 rfl (fun h4 => by omega) (fun h4 => ?_)
  refine r_iload_n hC dX6_bits_9 rfl ?_
  refine r_iload_n hC dX6_bits_10 rfl ?_
  refine r_iload_n hC dX6_bits_11 rfl ?_
  refine r_ishr hC dX6_bits_12 ?_
  rw [show ishr (11) (1) = (5 : Int) from by decide +kernel]
  refine r_iconst hC dX6_bits_13 rfl ?_
  refine r_iand hC dX6_bits_14 ?_
  rw [show iand (5) (1) = (1 : Int) from by decide +kernel]
  refine r_iaddE hC (2) dX6_bits_15 (by omega) (by unfold inR; omega) ?_
  refine r_istore_n hC dX6_bits_16 rfl ?_
  refine r_iincE hC (2) dX6_bits_17 rfl rfl (by omega) (by unfold inR; omega) ?_
  show K _ [_, _, _] _ _
  refine r_goto (tgt := 4) hC dX6_bits_20 rfl ?_
  refine r_iload_n hC dX6_bits_4 rfl ?_
  refine r_iconst hC dX6_bits_5 rfl ?_
  refine r_icmp_ge (tgt := 23) hC dX6_bits_6 rfl (fun h7 => by omega) (fun h7 => ?_)
  refine r_iload_n hC dX6_bits_9 rfl ?_
  refine r_iload_n hC dX6_bits_10 rfl ?_
  refine r_iload_n hC dX6_bits_11 rfl ?_
  refine r_ishr hC dX6_bits_12 ?_
  rw [show ishr (11) (2) = (2 : Int) from by decide +kernel]
  refine r_iconst hC dX6_bits_13 rfl ?_
  refine r_iand hC dX6_bits_14 ?_
  rw [show iand (2) (1) = (0 : Int) from by decide +kernel]
  refine r_iaddE hC (2) dX6_bits_15 (by omega) (by unfold inR; omega) ?_
  refine r_istore_n hC dX6_bits_16 rfl ?_
  refine r_iincE hC (3) dX6_bits_17 rfl rfl (by omega) (by unfold inR; omega) ?_
  refine r_goto (tgt := 4) hC dX6_bits_20 rfl ?_
  refine r_iload_n hC dX6_bits_4 rfl ?_
  refine r_iconst hC dX6_bits_5 rfl ?_
  refine r_icmp_ge (tgt := 23) hC dX6_bits_6 rfl (fun h10 => by omega) (fun h10 => ?_)
  refine r_iload_n hC dX6_bits_9 rfl ?_
  refine r_iload_n hC dX6_bits_10 rfl ?_
  refine r_iload_n hC dX6_bits_11 rfl ?_
  refine r_ishr hC dX6_bits_12 ?_
  rw [show ishr (11) (3) = (1 : Int) from by decide +kernel]
  refine r_iconst hC dX6_bits_13 rfl ?_
  refine r_iand hC dX6_bits_14 ?_
  rw [show iand (1) (1) = (1 : Int) from by decide +kernel]
  refine r_iaddE hC (3) dX6_bits_15 (by omega) (by unfold inR; omega) ?_
  refine r_istore_n hC dX6_bits_16 rfl ?_
  show K _ [_, _, _] _ _
  refine r_iincE hC (4) dX6_bits_17 rfl rfl (by omega) (by unfold inR; omega) ?_
  refine r_goto (tgt := 4) hC dX6_bits_20 rfl ?_
  refine r_iload_n hC dX6_bits_4 rfl ?_
  refine r_iconst hC dX6_bits_5 rfl ?_
  refine r_icmp_ge (tgt := 23) hC dX6_bits_6 rfl (fun h13 => ?_) (fun h13 => by omega)
  refine r_iload_n hC dX6_bits_23 rfl ?_
  refine y_iret hK rfl dX6_bits_24 ?_
  exact k
theorem y_bits12 {e : Ev} {d : Nat} {P : Option Vl → Mm → Prop} {σ : Mm}   (k : P (some (vI 2)) σ) : WT e (d + 1) 166 [vI 12] σ P := by
  refine WT_in fun K hK => ?_
  have hK : StpY e cX6_bits RX6 (some .int) (WT e (d + 0)) P K := hK
  have hM := hK.1
  have hC := hK.1.1
  show K 0 [some (vI 12), none, none] [] σ
  refine r_iconst hC dX6_bits_0 rfl ?_
  refine r_istore_n hC dX6_bits_1 rfl ?_
  refine r_iconst hC dX6_bits_2 rfl ?_
  refine r_istore_n hC dX6_bits_3 rfl ?_
  refine r_iload_n hC dX6_bits_4 rfl ?_
  refine r_iconst hC dX6_bits_5 rfl ?_
  refine r_icmp_ge (tgt := 23) hC dX6_bits_6 rfl (fun h1 => by omega) (fun h1 => ?_)
  refine r_iload_n hC dX6_bits_9 rfl ?_
  refine r_iload_n hC dX6_bits_10 rfl ?_
  refine r_iload_n hC dX6_bits_11 rfl ?_
  refine r_ishr hC dX6_bits_12 ?_
  rw [show ishr (12) (0) = (12 : Int) from by decide +kernel]
  refine r_iconst hC dX6_bits_13 rfl ?_
  refine r_iand hC dX6_bits_14 ?_
  rw [show iand (12) (1) = (0 : Int) from by decide +kernel]
  refine r_iaddE hC (0) dX6_bits_15 (by omega) (by unfold inR; omega) ?_
  refine r_istore_n hC dX6_bits_16 rfl ?_
  show K _ [_, _, _] _ _
  refine r_iincE hC (1) dX6_bits_17 rfl rfl (by omega) (by unfold inR; omega) ?_
  refine r_goto (tgt := 4) hC dX6_bits_20 rfl ?_
  refine r_iload_n hC dX6_bits_4 rfl ?_
  refine r_iconst hC dX6_bits_5 rfl ?_
  refine r_icmp_ge (tgt := 23) hC dX6_bits_6 rfl (fun h4 => by omega) (fun h4 => ?_)
  refine r_iload_n hC dX6_bits_9 rfl ?_
  refine r_iload_n hC dX6_bits_10 rfl ?_
  refine r_iload_n hC dX6_bits_11 rfl ?_
  refine r_ishr hC dX6_bits_12 ?_
  rw [show ishr (12) (1) = (6 : Int) from by decide +kernel]
  refine r_iconst hC dX6_bits_13 rfl ?_
  refine r_iand hC dX6_bits_14 ?_
  rw [show iand (6) (1) = (0 : Int) from by decide +kernel]
  refine r_iaddE hC (0) dX6_bits_15 (by omega) (by unfold inR; omega) ?_
  refine r_istore_n hC dX6_bits_16 rfl ?_
  refine r_iincE hC (2) dX6_bits_17 rfl rfl (by omega) (by unfold inR; omega) ?_
  show K _ [_, _, _] _ _
  refine r_goto (tgt := 4) hC dX6_bits_20 rfl ?_
  refine r_iload_n hC dX6_bits_4 rfl ?_
  refine r_iconst hC dX6_bits_5 rfl ?_
  refine r_icmp_ge (tgt := 23) hC dX6_bits_6 rfl (fun h7 => by omega) (fun h7 => ?_)
  refine r_iload_n hC dX6_bits_9 rfl ?_
  refine r_iload_n hC dX6_bits_10 rfl ?_
  refine r_iload_n hC dX6_bits_11 rfl ?_
  refine r_ishr hC dX6_bits_12 ?_
  rw [show ishr (12) (2) = (3 : Int) from by decide +kernel]
  refine r_iconst hC dX6_bits_13 rfl ?_
  refine r_iand hC dX6_bits_14 ?_
  rw [show iand (3) (1) = (1 : Int) from by decide +kernel]
  refine r_iaddE hC (1) dX6_bits_15 (by omega) (by unfold inR; omega) ?_
  refine r_istore_n hC dX6_bits_16 rfl ?_
  refine r_iincE hC (3) dX6_bits_17 rfl rfl (by omega) (by unfold inR; omega) ?_
  refine r_goto (tgt := 4) hC dX6_bits_20 rfl ?_
  refine r_iload_n hC dX6_bits_4 rfl ?_
  refine r_iconst hC dX6_bits_5 rfl ?_
  refine r_icmp_ge (tgt := 23) hC dX6_bits_6 rfl (fun h10 => by omega) (fun h10 => ?_)
  refine r_iload_n hC dX6_bits_9 rfl ?_
  refine r_iload_n hC dX6_bits_10 rfl ?_
  refine r_iload_n hC dX6_bits_11 rfl ?_
  refine r_ishr hC dX6_bits_12 ?_
  rw [show ishr (12) (3) = (1 : Int) from by decide +kernel]
  refine r_iconst hC dX6_bits_13 rfl ?_
  refine r_iand hC dX6_bits_14 ?_
  rw [show iand (1) (1) = (1 : Int) from by decide +kernel]
  refine r_iaddE hC (2) dX6_bits_15 (by omega) (by unfold inR; omega) ?_
  refine r_istore_n hC dX6_bits_16 rfl ?_
  show K _ [_, _, _] _ _
  refine r_iincE hC (4) dX6_bits_17 rfl rfl (by omega) (by unfold inR; omega) ?_
  refine r_goto (tgt := 4) hC dX6_bits_20 rfl ?_
  refine r_iload_n hC dX6_bits_4 rfl ?_
  refine r_iconst hC dX6_bits_5 rfl ?_
  refine r_icmp_ge (tgt := 23) hC dX6_bits_6 rfl (fun h13 => ?_) (fun h13 => by omega)
  refine r_iload_n hC dX6_bits_23 rfl ?_
  refine y_iret hK rfl dX6_bits_24 ?_
  exact k
theorem y_bits13 {e : Ev} {d : Nat} {P : Option Vl → Mm → Prop} {σ : Mm}   (k : P (some (vI 3)) σ) : WT e (d + 1) 166 [vI 13] σ P := by
  refine WT_in fun K hK => ?_
  have hK : StpY e cX6_bits RX6 (some .int) (WT e (d + 0)) P K := hK
  have hM := hK.1
  have hC := hK.1.1
  show K 0 [some (vI 13), none, none] [] σ
  refine r_iconst hC dX6_bits_0 rfl ?_
  refine r_istore_n hC dX6_bits_1 rfl ?_
  refine r_iconst hC dX6_bits_2 rfl ?_
  refine r_istore_n hC dX6_bits_3 rfl ?_
  refine r_iload_n hC dX6_bits_4 rfl ?_
  refine r_iconst hC dX6_bits_5 rfl ?_
  refine r_icmp_ge (tgt := 23) hC dX6_bits_6 rfl (fun h1 => by omega) (fun h1 => ?_)
  refine r_iload_n hC dX6_bits_9 rfl ?_
  refine r_iload_n hC dX6_bits_10 rfl ?_
  refine r_iload_n hC dX6_bits_11 rfl ?_
  refine r_ishr hC dX6_bits_12 ?_
  rw [show ishr (13) (0) = (13 : Int) from by decide +kernel]
  refine r_iconst hC dX6_bits_13 rfl ?_
  refine r_iand hC dX6_bits_14 ?_
  rw [show iand (13) (1) = (1 : Int) from by decide +kernel]
  refine r_iaddE hC (1) dX6_bits_15 (by omega) (by unfold inR; omega) ?_
  refine r_istore_n hC dX6_bits_16 rfl ?_
  show K _ [_, _, _] _ _
  refine r_iincE hC (1) dX6_bits_17 rfl rfl (by omega) (by unfold inR; omega) ?_
  refine r_goto (tgt := 4) hC dX6_bits_20 rfl ?_
  refine r_iload_n hC dX6_bits_4 rfl ?_
  refine r_iconst hC dX6_bits_5 rfl ?_
  refine r_icmp_ge (tgt := 23) hC dX6_bits_6 rfl (fun h4 => by omega) (fun h4 => ?_)
  refine r_iload_n hC dX6_bits_9 rfl ?_
  refine r_iload_n hC dX6_bits_10 rfl ?_
  refine r_iload_n hC dX6_bits_11 rfl ?_
  refine r_ishr hC dX6_bits_12 ?_
  rw [show ishr (13) (1) = (6 : Int) from by decide +kernel]
  refine r_iconst hC dX6_bits_13 rfl ?_
  refine r_iand hC dX6_bits_14 ?_
  rw [show iand (6) (1) = (0 : Int) from by decide +kernel]
  refine r_iaddE hC (1) dX6_bits_15 (by omega) (by unfold inR; omega) ?_
  refine r_istore_n hC dX6_bits_16 rfl ?_
  refine r_iincE hC (2) dX6_bits_17 rfl rfl (by omega) (by unfold inR; omega) ?_
  show K _ [_, _, _] _ _
  refine r_goto (tgt := 4) hC dX6_bits_20 rfl ?_
  refine r_iload_n hC dX6_bits_4 rfl ?_
  refine r_iconst hC dX6_bits_5 rfl ?_
  refine r_icmp_ge (tgt := 23) hC dX6_bits_6 rfl (fun h7 => by omega) (fun h7 => ?_)
  refine r_iload_n hC dX6_bits_9 rfl ?_
  refine r_iload_n hC dX6_bits_10 rfl ?_
  refine r_iload_n hC dX6_bits_11 rfl ?_
  refine r_ishr hC dX6_bits_12 ?_
  rw [show ishr (13) (2) = (3 : Int) from by decide +kernel]
  refine r_iconst hC dX6_bits_13 rfl ?_
  refine r_iand hC dX6_bits_14 ?_
  rw [show iand (3) (1) = (1 : Int) from by decide +kernel]
  refine r_iaddE hC (2) dX6_bits_15 (by omega) (by unfold inR; omega) ?_
  refine r_istore_n hC dX6_bits_16 rfl ?_
  refine r_iincE hC (3) dX6_bits_17 rfl rfl (by omega) (by unfold inR; omega) ?_
  refine r_goto (tgt := 4) hC dX6_bits_20 rfl ?_
  refine r_iload_n hC dX6_bits_4 rfl ?_
  refine r_iconst hC dX6_bits_5 rfl ?_
  refine r_icmp_ge (tgt := 23) hC dX6_bits_6 rfl (fun h10 => by omega) (fun h10 => ?_)
  refine r_iload_n hC dX6_bits_9 rfl ?_
  refine r_iload_n hC dX6_bits_10 rfl ?_
  refine r_iload_n hC dX6_bits_11 rfl ?_
  refine r_ishr hC dX6_bits_12 ?_
  rw [show ishr (13) (3) = (1 : Int) from by decide +kernel]
  refine r_iconst hC dX6_bits_13 rfl ?_
  refine r_iand hC dX6_bits_14 ?_
  rw [show iand (1) (1) = (1 : Int) from by decide +kernel]
  refine r_iaddE hC (3) dX6_bits_15 (by omega) (by unfold inR; omega) ?_
  refine r_istore_n hC dX6_bits_16 rfl ?_
  show K _ [_, _, _] _ _
  refine r_iincE hC (4) dX6_bits_17 rfl rfl (by omega) (by unfold inR; omega) ?_
  refine r_goto (tgt := 4) hC dX6_bits_20 rfl ?_
  refine r_iload_n hC dX6_bits_4 rfl ?_
  refine r_iconst hC dX6_bits_5 rfl ?_
  refine r_icmp_ge (tgt := 23) hC dX6_bits_6 rfl (fun h13 => ?_) (fun h13 => by omega)
  refine r_iload_n hC dX6_bits_23 rfl ?_
  refine y_iret hK rfl dX6_bits_24 ?_
  exact k
theorem y_bits14 {e : Ev} {d : Nat} {P : Option Vl → Mm → Prop} {σ : Mm}   (k : P (some (vI 3)) σ) : WT e (d + 1) 166 [vI 14] σ P := by
  refine WT_in fun K hK => ?_
  have hK : StpY e cX6_bits RX6 (some .int) (WT e (d + 0)) P K := hK
  have hM := hK.1
  have hC := hK.1.1
  show K 0 [some (vI 14), none, none] [] σ
  refine r_iconst hC dX6_bits_0 rfl ?_
  refine r_istore_n hC dX6_bits_1 rfl ?_
  refine r_iconst hC dX6_bits_2 rfl ?_
  refine r_istore_n hC dX6_bits_3 rfl ?_
  refine r_iload_n hC dX6_bits_4 rfl ?_
  refine r_iconst hC dX6_bits_5 rfl ?_
  refine r_icmp_ge (tgt := 23) hC dX6_bits_6 rfl (fun h1 => by omega) (fun h1 => ?_)
  refine r_iload_n hC dX6_bits_9 rfl ?_
  refine r_iload_n hC dX6_bits_10 rfl ?_
  refine r_iload_n hC dX6_bits_11 rfl ?_
  refine r_ishr hC dX6_bits_12 ?_
  rw [show ishr (14) (0) = (14 : Int) from by decide +kernel]
  refine r_iconst hC dX6_bits_13 rfl ?_
  refine r_iand hC dX6_bits_14 ?_
  rw [show iand (14) (1) = (0 : Int) from by decide +kernel]
  refine r_iaddE hC (0) dX6_bits_15 (by omega) (by unfold inR; omega) ?_
  refine r_istore_n hC dX6_bits_16 rfl ?_
  show K _ [_, _, _] _ _
  refine r_iincE hC (1) dX6_bits_17 rfl rfl (by omega) (by unfold inR; omega) ?_
  refine r_goto (tgt := 4) hC dX6_bits_20 rfl ?_
  refine r_iload_n hC dX6_bits_4 rfl ?_
  refine r_iconst hC dX6_bits_5 rfl ?_
  refine r_icmp_ge (tgt := 23) hC dX6_bits_6 rfl (fun h4 => by omega) (fun h4 => ?_)
  refine r_iload_n hC dX6_bits_9 rfl ?_
  refine r_iload_n hC dX6_bits_10 rfl ?_
  refine r_iload_n hC dX6_bits_11 rfl ?_
  refine r_ishr hC dX6_bits_12 ?_
  rw [show ishr (14) (1) = (7 : Int) from by decide +kernel]
  refine r_iconst hC dX6_bits_13 rfl ?_
  refine r_iand hC dX6_bits_14 ?_
  rw [show iand (7) (1) = (1 : Int) from by decide +kernel]
  refine r_iaddE hC (1) dX6_bits_15 (by omega) (by unfold inR; omega) ?_
  refine r_istore_n hC dX6_bits_16 rfl ?_
  refine r_iincE hC (2) dX6_bits_17 rfl rfl (by omega) (by unfold inR; omega) ?_
  show K _ [_, _, _] _ _
  refine r_goto (tgt := 4) hC dX6_bits_20 rfl ?_
  refine r_iload_n hC dX6_bits_4 rfl ?_
  refine r_iconst hC dX6_bits_5 rfl ?_
  refine r_icmp_ge (tgt := 23) hC dX6_bits_6 rfl (fun h7 => by omega) (fun h7 => ?_)
  refine r_iload_n hC dX6_bits_9 rfl ?_
  refine r_iload_n hC dX6_bits_10 rfl ?_
  refine r_iload_n hC dX6_bits_11 rfl ?_
  refine r_ishr hC dX6_bits_12 ?_
  rw [show ishr (14) (2) = (3 : Int) from by decide +kernel]
  refine r_iconst hC dX6_bits_13 rfl ?_
  refine r_iand hC dX6_bits_14 ?_
  rw [show iand (3) (1) = (1 : Int) from by decide +kernel]
  refine r_iaddE hC (2) dX6_bits_15 (by omega) (by unfold inR; omega) ?_
  refine r_istore_n hC dX6_bits_16 rfl ?_
  refine r_iincE hC (3) dX6_bits_17 rfl rfl (by omega) (by unfold inR; omega) ?_
  refine r_goto (tgt := 4) hC dX6_bits_20 rfl ?_
  refine r_iload_n hC dX6_bits_4 rfl ?_
  refine r_iconst hC dX6_bits_5 rfl ?_
  refine r_icmp_ge (tgt := 23) hC dX6_bits_6 rfl (fun h10 => by omega) (fun h10 => ?_)
  refine r_iload_n hC dX6_bits_9 rfl ?_
  refine r_iload_n hC dX6_bits_10 rfl ?_
  refine r_iload_n hC dX6_bits_11 rfl ?_
  refine r_ishr hC dX6_bits_12 ?_
  rw [show ishr (14) (3) = (1 : Int) from by decide +kernel]
  refine r_iconst hC dX6_bits_13 rfl ?_
  refine r_iand hC dX6_bits_14 ?_
  rw [show iand (1) (1) = (1 : Int) from by decide +kernel]
  refine r_iaddE hC (3) dX6_bits_15 (by omega) (by unfold inR; omega) ?_
  refine r_istore_n hC dX6_bits_16 rfl ?_
  show K _ [_, _, _] _ _
  refine r_iincE hC (4) dX6_bits_17 rfl rfl (by omega) (by unfold inR; omega) ?_
  refine r_goto (tgt := 4) hC dX6_bits_20 rfl ?_
  refine r_iload_n hC dX6_bits_4 rfl ?_
  refine r_iconst hC dX6_bits_5 rfl ?_
  refine r_icmp_ge (tgt := 23) hC dX6_bits_6 rfl (fun h13 => ?_) (fun h13 => by omega)
  refine r_iload_n hC dX6_bits_23 rfl ?_
  refine y_iret hK rfl dX6_bits_24 ?_
  exact k
theorem y_bits15 {e : Ev} {d : Nat} {P : Option Vl → Mm → Prop} {σ : Mm}   (k : P (some (vI 4)) σ) : WT e (d + 1) 166 [vI 15] σ P := by
  refine WT_in fun K hK => ?_
  have hK : StpY e cX6_bits RX6 (some .int) (WT e (d + 0)) P K := hK
  have hM := hK.1
  have hC := hK.1.1
  show K 0 [some (vI 15), none, none] [] σ
  refine r_iconst hC dX6_bits_0 rfl ?_
  refine r_istore_n hC dX6_bits_1 rfl ?_
  refine r_iconst hC dX6_bits_2 rfl ?_
  refine r_istore_n hC dX6_bits_3 rfl ?_
  refine r_iload_n hC dX6_bits_4 rfl ?_
  refine r_iconst hC dX6_bits_5 rfl ?_
  refine r_icmp_ge (tgt := 23) hC dX6_bits_6 rfl (fun h1 => by omega) (fun h1 => ?_)
  refine r_iload_n hC dX6_bits_9 rfl ?_
  refine r_iload_n hC dX6_bits_10 rfl ?_
  refine r_iload_n hC dX6_bits_11 rfl ?_
  refine r_ishr hC dX6_bits_12 ?_
  rw [show ishr (15) (0) = (15 : Int) from by decide +kernel]
  refine r_iconst hC dX6_bits_13 rfl ?_
  refine r_iand hC dX6_bits_14 ?_
  rw [show iand (15) (1) = (1 : Int) from by decide +kernel]
  refine r_iaddE hC (1) dX6_bits_15 (by omega) (by unfold inR; omega) ?_
  refine r_istore_n hC dX6_bits_16 rfl ?_
  show K _ [_, _, _] _ _
  refine r_iincE hC (1) dX6_bits_17 rfl rfl (by omega) (by unfold inR; omega) ?_
  refine r_goto (tgt := 4) hC dX6_bits_20 rfl ?_
  refine r_iload_n hC dX6_bits_4 rfl ?_
  refine r_iconst hC dX6_bits_5 rfl ?_
  refine r_icmp_ge (tgt := 23) hC dX6_bits_6 rfl (fun h4 => by omega) (fun h4 => ?_)
  refine r_iload_n hC dX6_bits_9 rfl ?_
  refine r_iload_n hC dX6_bits_10 rfl ?_
  refine r_iload_n hC dX6_bits_11 rfl ?_
  refine r_ishr hC dX6_bits_12 ?_
  rw [show ishr (15) (1) = (7 : Int) from by decide +kernel]
  refine r_iconst hC dX6_bits_13 rfl ?_
  refine r_iand hC dX6_bits_14 ?_
  rw [show iand (7) (1) = (1 : Int) from by decide +kernel]
  refine r_iaddE hC (2) dX6_bits_15 (by omega) (by unfold inR; omega) ?_
  refine r_istore_n hC dX6_bits_16 rfl ?_
  refine r_iincE hC (2) dX6_bits_17 rfl rfl (by omega) (by unfold inR; omega) ?_
  show K _ [_, _, _] _ _
  refine r_goto (tgt := 4) hC dX6_bits_20 rfl ?_
  refine r_iload_n hC dX6_bits_4 rfl ?_
  refine r_iconst hC dX6_bits_5 rfl ?_
  refine r_icmp_ge (tgt := 23) hC dX6_bits_6 rfl (fun h7 => by omega) (fun h7 => ?_)
  refine r_iload_n hC dX6_bits_9 rfl ?_
  refine r_iload_n hC dX6_bits_10 rfl ?_
  refine r_iload_n hC dX6_bits_11 rfl ?_
  refine r_ishr hC dX6_bits_12 ?_
  rw [show ishr (15) (2) = (3 : Int) from by decide +kernel]
  refine r_iconst hC dX6_bits_13 rfl ?_
  refine r_iand hC dX6_bits_14 ?_
  rw [show iand (3) (1) = (1 : Int) from by decide +kernel]
  refine r_iaddE hC (3) dX6_bits_15 (by omega) (by unfold inR; omega) ?_
  refine r_istore_n hC dX6_bits_16 rfl ?_
  refine r_iincE hC (3) dX6_bits_17 rfl rfl (by omega) (by unfold inR; omega) ?_
  refine r_goto (tgt := 4) hC dX6_bits_20 rfl ?_
  refine r_iload_n hC dX6_bits_4 rfl ?_
  refine r_iconst hC dX6_bits_5 rfl ?_
  refine r_icmp_ge (tgt := 23) hC dX6_bits_6 rfl (fun h10 => by omega) (fun h10 => ?_)
  refine r_iload_n hC dX6_bits_9 rfl ?_
  refine r_iload_n hC dX6_bits_10 rfl ?_
  refine r_iload_n hC dX6_bits_11 rfl ?_
  refine r_ishr hC dX6_bits_12 ?_
  rw [show ishr (15) (3) = (1 : Int) from by decide +kernel]
  refine r_iconst hC dX6_bits_13 rfl ?_
  refine r_iand hC dX6_bits_14 ?_
  rw [show iand (1) (1) = (1 : Int) from by decide +kernel]
  refine r_iaddE hC (4) dX6_bits_15 (by omega) (by unfold inR; omega) ?_
  refine r_istore_n hC dX6_bits_16 rfl ?_
  show K _ [_, _, _] _ _
  refine r_iincE hC (4) dX6_bits_17 rfl rfl (by omega) (by unfold inR; omega) ?_
  refine r_goto (tgt := 4) hC dX6_bits_20 rfl ?_
  refine r_iload_n hC dX6_bits_4 rfl ?_
  refine r_iconst hC dX6_bits_5 rfl ?_
  refine r_icmp_ge (tgt := 23) hC dX6_bits_6 rfl (fun h13 => ?_) (fun h13 => by omega)
  refine r_iload_n hC dX6_bits_23 rfl ?_
  refine y_iret hK rfl dX6_bits_24 ?_
  exact k
theorem y_bits {e : Ev} {d : Nat} {P : Option Vl → Mm → Prop} {σ : Mm} {a : Int} (b_a : 0 ≤ a ∧ a ≤ 15) (k : P (some (vI (a % 2 + a / 2 % 2 + a / 4 % 2 + a / 8 % 2))) σ) : WT e (d + 1) 166 [vI a] σ P := by
  rcases (by omega : a = 0 ∨ a = 1 ∨ a = 2 ∨ a = 3 ∨ a = 4 ∨ a = 5 ∨ a = 6 ∨ a = 7 ∨ a = 8 ∨ a = 9 ∨ a = 10 ∨ a = 11 ∨ a = 12 ∨ a = 13 ∨ a = 14 ∨ a = 15) with rfl | rfl | rfl | rfl | rfl | rfl | rfl | rfl | rfl | rfl | rfl | rfl | rfl | rfl | rfl | rfl
  · exact y_bits0 k
  · exact y_bits1 k
  · exact y_bits2 k
  · exact y_bits3 k
  · exact y_bits4 k
  · exact y_bits5 k
  · exact y_bits6 k
  · exact y_bits7 k
  · exact y_bits8 k
  · exact y_bits9 k
  · exact y_bits10 k
  · exact y_bits11 k
  · exact y_bits12 k
  · exact y_bits13 k
  · exact y_bits14 k
  · exact y_bits15 k
theorem y_send {eb : Bool} {n : Nat} {d : Nat} {P : Option Vl → Mm → Prop} {σ : Mm} {t0 t1 t2 t3 t4 : Int} (qg0 : σ 30 0 8 = (n : Int)) (qg1 : σ 38 0 0 = t0) (qg2 : σ 38 0 1 = t1) (qg3 : σ 38 0 2 = t2) (qg4 : σ 38 0 3 = t3) (qg5 : σ 38 0 4 = t4) (hn1 : 1 ≤ n) (hn : n ≤ 242)  (k : ∀ ρ : Mm, Gx (fun c x y => c = 38 ∧ x = 0) σ ρ → ρ 38 0 0 = (ltr (σ 36 0) (σ 37 0) 0 n) → ρ 38 0 1 = (ltr (σ 36 0) (σ 37 0) 1 n) → ρ 38 0 2 = (ltr (σ 36 0) (σ 37 0) 2 n) → ρ 38 0 3 = (ltr (σ 36 0) (σ 37 0) 3 n) → ρ 38 0 4 = (apt (ltr (σ 36 0) (σ 37 0) 0 n) (ltr (σ 36 0) (σ 37 0) 1 n) (ltr (σ 36 0) (σ 37 0) 2 n) (ltr (σ 36 0) (σ 37 0) 3 n)) → P none ρ) : WT (true, eb, true) (d + 2) 165 [vR 30 0] σ P := by
  refine WT_in fun K hK => ?_
  have hK : StpY (true, eb, true) cX6_send RX6 (none) (WT (true, eb, true) (d + 1)) P K := hK
  have hM := hK.1
  have hC := hK.1.1
  show K 0 [some (vR 30 0), none, none, none, none] [] σ
  refine r_iconst hC dX6_send_0 rfl ?_
  refine r_istore_n hC dX6_send_1 rfl ?_
  refine r_iconst hC dX6_send_2 rfl ?_
  refine r_istore_n hC dX6_send_3 rfl ?_
  refine r_iload_n hC dX6_send_4 rfl ?_
  refine r_iconst hC dX6_send_5 rfl ?_
  refine r_icmp_ge (tgt := 72) hC dX6_send_6 rfl (fun h1 => by omega) (fun h1 => ?_)
  refine r_iload_n hC dX6_send_9 rfl ?_
  refine r_istore_n hC dX6_send_10 rfl ?_
  show K _ [_, _, _, _, _] _ _
  refine r_iconst hC dX6_send_11 rfl ?_
  refine r_istore hC dX6_send_12 rfl ?_
  have L14 : ∀ (n14 : Nat) (w2 w3 : Int), 0 ≤ w2 ∧ w2 ≤ 3 → 0 ≤ w3 ∧ w3 ≤ 242 → ((w2) = ltr (σ 36 0) (σ 37 0) (0) ((w3)).toNat) → ((w3) ≤ (n : Int)) → 242 - w3 < (n14 : Int) → K 14 [some (vR 30 0), some (vI 0), some (vI 0), some (vI w2), some (vI w3)] [] σ := by
    intro n14
    induction n14 with
    | zero => intro w2 w3  f_w2 f_w3 i0_14 i1_14 hm  ; omega
    | succ n14 ih14 =>
      intro w2 w3  f_w2 f_w3 i0_14 i1_14 hm14  
      refine r_iload hC dX6_send_14 rfl ?_
      refine r_aload_n hC dX6_send_16 rfl ?_
      refine z_getI (jz := 8) hM dX6_send_17 fl_RX6_105 rfl rfl rfl (fun v4 h_v4 o_v4 t_v4 => ?_)
      have e_v4 : (n : Int) = v4 := ((t_v4 ((by simp [Tk, Tb, DL, DR]))).trans qg0).symm
      subst e_v4
      refine r_icmp_ge (tgt := 53) hC dX6_send_20 rfl (fun h5 => ?_) (fun h5 => ?_)
      · have hsnd0 : w2 = ltr (σ 36 0) (σ 37 0) 0 n := at_nat (n := n) (f := fun m => ltr (σ 36 0) (σ 37 0) 0 m) i0_14 (by omega)
        refine r_aload_n hC dX6_send_53 rfl ?_
        refine z_getR hM dX6_send_54 fl_RX6_31 rfl rfl (vld_of (n := 1) rfl (by omega) (by omega)) ?_
        refine r_iload_n hC dX6_send_57 rfl ?_
        refine r_iload_n hC dX6_send_58 rfl ?_
        refine z_iastG hM dX6_send_59 rfl (by omega) (by omega) (by simp [Tl, DL, DF]) (by first | trivial | (simp only [Okv]; omega) | (simp [Okv]; try omega)) (fun ρ6 a_ρ6 q_ρ6 => ?_)
        refine r_iload_n hC dX6_send_60 rfl ?_
        refine r_iconst hC dX6_send_61 rfl ?_
        refine r_iload_n hC dX6_send_62 rfl ?_
        refine r_ishl hC dX6_send_63 ?_
        have f_v7 := ishl_fr 1 w2
        refine r_ior hC dX6_send_64 ?_
        have f_v8 := ior_fr 0 (ishl 1 w2)
        refine r_istore_n hC dX6_send_65 rfl ?_
        refine r_iincE hC (1) dX6_send_66 rfl rfl (by omega) (by unfold inR; omega) ?_
        refine r_goto (tgt := 4) hC dX6_send_69 rfl ?_
        refine r_iload_n hC dX6_send_4 rfl ?_
        refine r_iconst hC dX6_send_5 rfl ?_
        refine r_icmp_ge (tgt := 72) hC dX6_send_6 rfl (fun h9 => by omega) (fun h9 => ?_)
        refine r_iload_n hC dX6_send_9 rfl ?_
        refine r_istore_n hC dX6_send_10 rfl ?_
        show K _ [_, _, _, _, _] _ _
        refine r_iconst hC dX6_send_11 rfl ?_
        refine r_istore hC dX6_send_12 rfl ?_
        have L14 : ∀ (n14 : Nat) (w10 w11 : Int), 0 ≤ w10 ∧ w10 ≤ 3 → 0 ≤ w11 ∧ w11 ≤ 242 → ((w10) = ltr (σ 36 0) (σ 37 0) (1) ((w11)).toNat) → ((w11) ≤ (n : Int)) → 242 - w11 < (n14 : Int) → K 14 [some (vR 30 0), some (vI (ior 0 (ishl 1 w2))), some (vI 1), some (vI w10), some (vI w11)] [] ρ6 := by
          intro n14
          induction n14 with
          | zero => intro w10 w11  f_w10 f_w11 i0_14 i1_14 hm  ; omega
          | succ n14 ih14 =>
            intro w10 w11  f_w10 f_w11 i0_14 i1_14 hm14  
            refine r_iload hC dX6_send_14 rfl ?_
            refine r_aload_n hC dX6_send_16 rfl ?_
            refine z_getI (jz := 8) hM dX6_send_17 fl_RX6_105 rfl rfl rfl (fun v12 h_v12 o_v12 t_v12 => ?_)
            have e_v12 : (n : Int) = v12 := ((t_v12 ((by simp [Tk, Tb, DL, DR]))).trans ((a_ρ6 _ _ _ (by omega)).trans qg0)).symm
            subst e_v12
            refine r_icmp_ge (tgt := 53) hC dX6_send_20 rfl (fun h13 => ?_) (fun h13 => ?_)
            · have hsnd1 : w10 = ltr (σ 36 0) (σ 37 0) 1 n := at_nat (n := n) (f := fun m => ltr (σ 36 0) (σ 37 0) 1 m) i0_14 (by omega)
              refine r_aload_n hC dX6_send_53 rfl ?_
              refine z_getR hM dX6_send_54 fl_RX6_31 rfl rfl (vld_of (n := 1) rfl (by omega) (by omega)) ?_
              refine r_iload_n hC dX6_send_57 rfl ?_
              refine r_iload_n hC dX6_send_58 rfl ?_
              refine z_iastG hM dX6_send_59 rfl (by omega) (by omega) (by simp [Tl, DL, DF]) (by first | trivial | (simp only [Okv]; omega) | (simp [Okv]; try omega)) (fun ρ14 a_ρ14 q_ρ14 => ?_)
              refine r_iload_n hC dX6_send_60 rfl ?_
              refine r_iconst hC dX6_send_61 rfl ?_
              refine r_iload_n hC dX6_send_62 rfl ?_
              refine r_ishl hC dX6_send_63 ?_
              have f_v15 := ishl_fr 1 w10
              refine r_ior hC dX6_send_64 ?_
              have f_v16 := ior_fr (ior 0 (ishl 1 w2)) (ishl 1 w10)
              refine r_istore_n hC dX6_send_65 rfl ?_
              refine r_iincE hC (2) dX6_send_66 rfl rfl (by omega) (by unfold inR; omega) ?_
              refine r_goto (tgt := 4) hC dX6_send_69 rfl ?_
              refine r_iload_n hC dX6_send_4 rfl ?_
              refine r_iconst hC dX6_send_5 rfl ?_
              refine r_icmp_ge (tgt := 72) hC dX6_send_6 rfl (fun h17 => by omega) (fun h17 => ?_)
              refine r_iload_n hC dX6_send_9 rfl ?_
              refine r_istore_n hC dX6_send_10 rfl ?_
              show K _ [_, _, _, _, _] _ _
              refine r_iconst hC dX6_send_11 rfl ?_
              refine r_istore hC dX6_send_12 rfl ?_
              have L14 : ∀ (n14 : Nat) (w18 w19 : Int), 0 ≤ w18 ∧ w18 ≤ 3 → 0 ≤ w19 ∧ w19 ≤ 242 → ((w18) = ltr (σ 36 0) (σ 37 0) (2) ((w19)).toNat) → ((w19) ≤ (n : Int)) → 242 - w19 < (n14 : Int) → K 14 [some (vR 30 0), some (vI (ior (ior 0 (ishl 1 w2)) (ishl 1 w10))), some (vI 2), some (vI w18), some (vI w19)] [] ρ14 := by
                intro n14
                induction n14 with
                | zero => intro w18 w19  f_w18 f_w19 i0_14 i1_14 hm  ; omega
                | succ n14 ih14 =>
                  intro w18 w19  f_w18 f_w19 i0_14 i1_14 hm14  
                  refine r_iload hC dX6_send_14 rfl ?_
                  refine r_aload_n hC dX6_send_16 rfl ?_
                  refine z_getI (jz := 8) hM dX6_send_17 fl_RX6_105 rfl rfl rfl (fun v20 h_v20 o_v20 t_v20 => ?_)
                  have e_v20 : (n : Int) = v20 := ((t_v20 ((by simp [Tk, Tb, DL, DR]))).trans ((a_ρ14 _ _ _ (by omega)).trans ((a_ρ6 _ _ _ (by omega)).trans qg0))).symm
                  subst e_v20
                  refine r_icmp_ge (tgt := 53) hC dX6_send_20 rfl (fun h21 => ?_) (fun h21 => ?_)
                  · have hsnd2 : w18 = ltr (σ 36 0) (σ 37 0) 2 n := at_nat (n := n) (f := fun m => ltr (σ 36 0) (σ 37 0) 2 m) i0_14 (by omega)
                    refine r_aload_n hC dX6_send_53 rfl ?_
                    refine z_getR hM dX6_send_54 fl_RX6_31 rfl rfl (vld_of (n := 1) rfl (by omega) (by omega)) ?_
                    refine r_iload_n hC dX6_send_57 rfl ?_
                    refine r_iload_n hC dX6_send_58 rfl ?_
                    refine z_iastG hM dX6_send_59 rfl (by omega) (by omega) (by simp [Tl, DL, DF]) (by first | trivial | (simp only [Okv]; omega) | (simp [Okv]; try omega)) (fun ρ22 a_ρ22 q_ρ22 => ?_)
                    refine r_iload_n hC dX6_send_60 rfl ?_
                    refine r_iconst hC dX6_send_61 rfl ?_
                    refine r_iload_n hC dX6_send_62 rfl ?_
                    refine r_ishl hC dX6_send_63 ?_
                    have f_v23 := ishl_fr 1 w18
                    refine r_ior hC dX6_send_64 ?_
                    have f_v24 := ior_fr (ior (ior 0 (ishl 1 w2)) (ishl 1 w10)) (ishl 1 w18)
                    refine r_istore_n hC dX6_send_65 rfl ?_
                    refine r_iincE hC (3) dX6_send_66 rfl rfl (by omega) (by unfold inR; omega) ?_
                    refine r_goto (tgt := 4) hC dX6_send_69 rfl ?_
                    refine r_iload_n hC dX6_send_4 rfl ?_
                    refine r_iconst hC dX6_send_5 rfl ?_
                    refine r_icmp_ge (tgt := 72) hC dX6_send_6 rfl (fun h25 => by omega) (fun h25 => ?_)
                    refine r_iload_n hC dX6_send_9 rfl ?_
                    refine r_istore_n hC dX6_send_10 rfl ?_
                    show K _ [_, _, _, _, _] _ _
                    refine r_iconst hC dX6_send_11 rfl ?_
                    refine r_istore hC dX6_send_12 rfl ?_
                    have L14 : ∀ (n14 : Nat) (w26 w27 : Int), 0 ≤ w26 ∧ w26 ≤ 3 → 0 ≤ w27 ∧ w27 ≤ 242 → ((w26) = ltr (σ 36 0) (σ 37 0) (3) ((w27)).toNat) → ((w27) ≤ (n : Int)) → 242 - w27 < (n14 : Int) → K 14 [some (vR 30 0), some (vI (ior (ior (ior 0 (ishl 1 w2)) (ishl 1 w10)) (ishl 1 w18))), some (vI 3), some (vI w26), some (vI w27)] [] ρ22 := by
                      intro n14
                      induction n14 with
                      | zero => intro w26 w27  f_w26 f_w27 i0_14 i1_14 hm  ; omega
                      | succ n14 ih14 =>
                        intro w26 w27  f_w26 f_w27 i0_14 i1_14 hm14  
                        refine r_iload hC dX6_send_14 rfl ?_
                        refine r_aload_n hC dX6_send_16 rfl ?_
                        refine z_getI (jz := 8) hM dX6_send_17 fl_RX6_105 rfl rfl rfl (fun v28 h_v28 o_v28 t_v28 => ?_)
                        have e_v28 : (n : Int) = v28 := ((t_v28 ((by simp [Tk, Tb, DL, DR]))).trans ((a_ρ22 _ _ _ (by omega)).trans ((a_ρ14 _ _ _ (by omega)).trans ((a_ρ6 _ _ _ (by omega)).trans qg0)))).symm
                        subst e_v28
                        refine r_icmp_ge (tgt := 53) hC dX6_send_20 rfl (fun h29 => ?_) (fun h29 => ?_)
                        · have hsnd3 : w26 = ltr (σ 36 0) (σ 37 0) 3 n := at_nat (n := n) (f := fun m => ltr (σ 36 0) (σ 37 0) 3 m) i0_14 (by omega)
                          refine r_aload_n hC dX6_send_53 rfl ?_
                          refine z_getR hM dX6_send_54 fl_RX6_31 rfl rfl (vld_of (n := 1) rfl (by omega) (by omega)) ?_
                          refine r_iload_n hC dX6_send_57 rfl ?_
                          refine r_iload_n hC dX6_send_58 rfl ?_
                          refine z_iastG hM dX6_send_59 rfl (by omega) (by omega) (by simp [Tl, DL, DF]) (by first | trivial | (simp only [Okv]; omega) | (simp [Okv]; try omega)) (fun ρ30 a_ρ30 q_ρ30 => ?_)
                          refine r_iload_n hC dX6_send_60 rfl ?_
                          refine r_iconst hC dX6_send_61 rfl ?_
                          refine r_iload_n hC dX6_send_62 rfl ?_
                          refine r_ishl hC dX6_send_63 ?_
                          have f_v31 := ishl_fr 1 w26
                          refine r_ior hC dX6_send_64 ?_
                          have f_v32 := ior_fr (ior (ior (ior 0 (ishl 1 w2)) (ishl 1 w10)) (ishl 1 w18)) (ishl 1 w26)
                          refine r_istore_n hC dX6_send_65 rfl ?_
                          refine r_iincE hC (4) dX6_send_66 rfl rfl (by omega) (by unfold inR; omega) ?_
                          refine r_goto (tgt := 4) hC dX6_send_69 rfl ?_
                          refine r_iload_n hC dX6_send_4 rfl ?_
                          refine r_iconst hC dX6_send_5 rfl ?_
                          refine r_icmp_ge (tgt := 72) hC dX6_send_6 rfl (fun h33 => ?_) (fun h33 => by omega)
                          refine r_aload_n hC dX6_send_72 rfl ?_
                          refine z_getR hM dX6_send_73 fl_RX6_31 rfl rfl (vld_of (n := 1) rfl (by omega) (by omega)) ?_
                          refine r_iconst hC dX6_send_76 rfl ?_
                          refine r_iload_n hC dX6_send_77 rfl ?_
                          refine z_ins1 hM dX6_send_78 tl_RX6_167 rfl (Nat.le_of_ble_eq_true rfl) (Nat.le_of_ble_eq_true rfl) ?_
                          have hE := reach_ok (by omega : 0 ≤ w2 ∧ w2 ≤ 3) (by omega : 0 ≤ w10 ∧ w10 ≤ 3) (by omega : 0 ≤ w18 ∧ w18 ≤ 3) (by omega : 0 ≤ w26 ∧ w26 ≤ 3)
                          refine y_bits ⟨hE.1, hE.2.1⟩ ?_
                          refine z_iastG hM dX6_send_81 rfl (by omega) (by omega) (by simp [Tl, DL, DF]) (by first | trivial | (simp only [Okv]; omega) | (simp [Okv]; try omega)) (fun ρ34 a_ρ34 q_ρ34 => ?_)
                          refine y_vret hK rfl dX6_send_82 ?_
                          have hs0 : w2 = ltr (σ 36 0) (σ 37 0) 0 n := hsnd0
                          have hs1 : w10 = ltr (σ 36 0) (σ 37 0) 1 n := hsnd1
                          have hs2 : w18 = ltr (σ 36 0) (σ 37 0) 2 n := hsnd2
                          have hs3 : w26 = ltr (σ 36 0) (σ 37 0) 3 n := hsnd3
                          exact k _ ((((((Gx.rf).al a_ρ6 (by first | (simp; done) | omega | (simp; omega))).al a_ρ14 (by first | (simp; done) | omega | (simp; omega))).al a_ρ22 (by first | (simp; done) | omega | (simp; omega))).al a_ρ30 (by first | (simp; done) | omega | (simp; omega))).al a_ρ34 (by first | (simp; done) | omega | (simp; omega))) (by have hq := ((a_ρ34 _ _ _ (by omega)).trans ((a_ρ30 _ _ _ (by omega)).trans ((a_ρ22 _ _ _ (by omega)).trans ((a_ρ14 _ _ _ (by omega)).trans q_ρ6)))); exact hq.trans hs0) (by have hq := ((a_ρ34 _ _ _ (by omega)).trans ((a_ρ30 _ _ _ (by omega)).trans ((a_ρ22 _ _ _ (by omega)).trans q_ρ14))); exact hq.trans hs1) (by have hq := ((a_ρ34 _ _ _ (by omega)).trans ((a_ρ30 _ _ _ (by omega)).trans q_ρ22)); exact hq.trans hs2) (by have hq := ((a_ρ34 _ _ _ (by omega)).trans q_ρ30); exact hq.trans hs3) (by have hq := q_ρ34; refine hq.trans (hE.2.2.trans ?_); rw [hs0, hs1, hs2, hs3])
                        · refine r_aload_n hC dX6_send_23 rfl ?_
                          refine z_getR hM dX6_send_24 fl_RX6_25 rfl rfl (vld_of (n := 1) rfl (by omega) (by omega)) ?_
                          refine r_aload_n hC dX6_send_27 rfl ?_
                          refine z_getR hM dX6_send_28 fl_RX6_28 rfl rfl (vld_of (n := 1) rfl (by omega) (by omega)) ?_
                          refine r_iload hC dX6_send_31 rfl ?_
                          refine z_iald hM dX6_send_33 rfl (by omega) (by omega) (fun v35 h_v35 o_v35 t_v35 => ?_)
                          have w_v35 := ((t_v35 (Or.inr (Or.inr (Or.inr ⟨rfl, by first | exact True.intro | exact (rfl : true = true)⟩)))).trans ((show Gx (fun c x y => c = 38 ∧ x = 0) σ ρ22 from (((Gx.rf).al a_ρ6 (by first | (simp; done) | omega | (simp; omega))).al a_ρ14 (by first | (simp; done) | omega | (simp; omega))).al a_ρ22 (by first | (simp; done) | omega | (simp; omega))) 37 0 _ (by omega))).symm
                          subst w_v35
                          refine r_bipush hC dX6_send_34 rfl ?_
                          refine z_ins2 hM dX6_send_36 tl_RX6_164 rfl (Nat.le_of_ble_eq_true rfl) (Nat.le_of_ble_eq_true rfl) ?_
                          refine y_rest (by omega) (fun h36 => ?_)
                          refine z_iald hM dX6_send_39 rfl (by omega) (by omega) (fun v37 h_v37 o_v37 t_v37 => ?_)
                          have w_v37 := ((t_v37 (Or.inl trivial)).trans ((show Gx (fun c x y => c = 38 ∧ x = 0) σ ρ22 from (((Gx.rf).al a_ρ6 (by first | (simp; done) | omega | (simp; omega))).al a_ρ14 (by first | (simp; done) | omega | (simp; omega))).al a_ρ22 (by first | (simp; done) | omega | (simp; omega))) 36 0 _ (by omega))).symm
                          subst w_v37
                          refine r_iconst hC dX6_send_40 rfl ?_
                          refine r_iload_n hC dX6_send_41 rfl ?_
                          refine r_imulE hC ((2 * w26)) dX6_send_42 (by omega) (by unfold inR; omega) ?_
                          refine r_ishr hC dX6_send_43 ?_
                          have f_v38 := ishr_fr (σ 36 0 ((σ 37 0 w27) % 8)) (2 * w26)
                          refine r_iconst hC dX6_send_44 rfl ?_
                          refine r_iand hC dX6_send_45 ?_
                          have f_v39 := iand_rng (a := (ishr (σ 36 0 ((σ 37 0 w27) % 8)) (2 * w26))) (b := 3) (by omega) (inR_lit rfl)
                          refine r_istore_n hC dX6_send_46 rfl ?_
                          refine r_iincE hC ((w27 + 1)) dX6_send_47 rfl rfl (by omega) (by unfold inR; omega) ?_
                          refine r_goto (tgt := 14) hC dX6_send_50 rfl ?_
                          exact ih14 ((iand (ishr (σ 36 0 ((σ 37 0 w27) % 8)) (2 * w26)) 3)) ((w27 + 1))  (by omega) (by omega) (by first | rfl | (rw [ltr_stepI (by omega), ← i0_14]; rfl)) (by omega) (by omega)  
                    exact L14 244 (3) (0)  (by omega) (by omega) (by first | rfl | (rw [ltr_stepI (by omega), ← i0_14]; rfl)) (by omega) (by omega)  
                  · refine r_aload_n hC dX6_send_23 rfl ?_
                    refine z_getR hM dX6_send_24 fl_RX6_25 rfl rfl (vld_of (n := 1) rfl (by omega) (by omega)) ?_
                    refine r_aload_n hC dX6_send_27 rfl ?_
                    refine z_getR hM dX6_send_28 fl_RX6_28 rfl rfl (vld_of (n := 1) rfl (by omega) (by omega)) ?_
                    refine r_iload hC dX6_send_31 rfl ?_
                    refine z_iald hM dX6_send_33 rfl (by omega) (by omega) (fun v40 h_v40 o_v40 t_v40 => ?_)
                    have w_v40 := ((t_v40 (Or.inr (Or.inr (Or.inr ⟨rfl, by first | exact True.intro | exact (rfl : true = true)⟩)))).trans ((show Gx (fun c x y => c = 38 ∧ x = 0) σ ρ14 from ((Gx.rf).al a_ρ6 (by first | (simp; done) | omega | (simp; omega))).al a_ρ14 (by first | (simp; done) | omega | (simp; omega))) 37 0 _ (by omega))).symm
                    subst w_v40
                    refine r_bipush hC dX6_send_34 rfl ?_
                    refine z_ins2 hM dX6_send_36 tl_RX6_164 rfl (Nat.le_of_ble_eq_true rfl) (Nat.le_of_ble_eq_true rfl) ?_
                    refine y_rest (by omega) (fun h41 => ?_)
                    refine z_iald hM dX6_send_39 rfl (by omega) (by omega) (fun v42 h_v42 o_v42 t_v42 => ?_)
                    have w_v42 := ((t_v42 (Or.inl trivial)).trans ((show Gx (fun c x y => c = 38 ∧ x = 0) σ ρ14 from ((Gx.rf).al a_ρ6 (by first | (simp; done) | omega | (simp; omega))).al a_ρ14 (by first | (simp; done) | omega | (simp; omega))) 36 0 _ (by omega))).symm
                    subst w_v42
                    refine r_iconst hC dX6_send_40 rfl ?_
                    refine r_iload_n hC dX6_send_41 rfl ?_
                    refine r_imulE hC ((2 * w18)) dX6_send_42 (by omega) (by unfold inR; omega) ?_
                    refine r_ishr hC dX6_send_43 ?_
                    have f_v43 := ishr_fr (σ 36 0 ((σ 37 0 w19) % 8)) (2 * w18)
                    refine r_iconst hC dX6_send_44 rfl ?_
                    refine r_iand hC dX6_send_45 ?_
                    have f_v44 := iand_rng (a := (ishr (σ 36 0 ((σ 37 0 w19) % 8)) (2 * w18))) (b := 3) (by omega) (inR_lit rfl)
                    refine r_istore_n hC dX6_send_46 rfl ?_
                    refine r_iincE hC ((w19 + 1)) dX6_send_47 rfl rfl (by omega) (by unfold inR; omega) ?_
                    refine r_goto (tgt := 14) hC dX6_send_50 rfl ?_
                    exact ih14 ((iand (ishr (σ 36 0 ((σ 37 0 w19) % 8)) (2 * w18)) 3)) ((w19 + 1))  (by omega) (by omega) (by first | rfl | (rw [ltr_stepI (by omega), ← i0_14]; rfl)) (by omega) (by omega)  
              exact L14 244 (2) (0)  (by omega) (by omega) (by first | rfl | (rw [ltr_stepI (by omega), ← i0_14]; rfl)) (by omega) (by omega)  
            · refine r_aload_n hC dX6_send_23 rfl ?_
              refine z_getR hM dX6_send_24 fl_RX6_25 rfl rfl (vld_of (n := 1) rfl (by omega) (by omega)) ?_
              refine r_aload_n hC dX6_send_27 rfl ?_
              refine z_getR hM dX6_send_28 fl_RX6_28 rfl rfl (vld_of (n := 1) rfl (by omega) (by omega)) ?_
              refine r_iload hC dX6_send_31 rfl ?_
              refine z_iald hM dX6_send_33 rfl (by omega) (by omega) (fun v45 h_v45 o_v45 t_v45 => ?_)
              have w_v45 := ((t_v45 (Or.inr (Or.inr (Or.inr ⟨rfl, by first | exact True.intro | exact (rfl : true = true)⟩)))).trans ((show Gx (fun c x y => c = 38 ∧ x = 0) σ ρ6 from (Gx.rf).al a_ρ6 (by first | (simp; done) | omega | (simp; omega))) 37 0 _ (by omega))).symm
              subst w_v45
              refine r_bipush hC dX6_send_34 rfl ?_
              refine z_ins2 hM dX6_send_36 tl_RX6_164 rfl (Nat.le_of_ble_eq_true rfl) (Nat.le_of_ble_eq_true rfl) ?_
              refine y_rest (by omega) (fun h46 => ?_)
              refine z_iald hM dX6_send_39 rfl (by omega) (by omega) (fun v47 h_v47 o_v47 t_v47 => ?_)
              have w_v47 := ((t_v47 (Or.inl trivial)).trans ((show Gx (fun c x y => c = 38 ∧ x = 0) σ ρ6 from (Gx.rf).al a_ρ6 (by first | (simp; done) | omega | (simp; omega))) 36 0 _ (by omega))).symm
              subst w_v47
              refine r_iconst hC dX6_send_40 rfl ?_
              refine r_iload_n hC dX6_send_41 rfl ?_
              refine r_imulE hC ((2 * w10)) dX6_send_42 (by omega) (by unfold inR; omega) ?_
              refine r_ishr hC dX6_send_43 ?_
              have f_v48 := ishr_fr (σ 36 0 ((σ 37 0 w11) % 8)) (2 * w10)
              refine r_iconst hC dX6_send_44 rfl ?_
              refine r_iand hC dX6_send_45 ?_
              have f_v49 := iand_rng (a := (ishr (σ 36 0 ((σ 37 0 w11) % 8)) (2 * w10))) (b := 3) (by omega) (inR_lit rfl)
              refine r_istore_n hC dX6_send_46 rfl ?_
              refine r_iincE hC ((w11 + 1)) dX6_send_47 rfl rfl (by omega) (by unfold inR; omega) ?_
              refine r_goto (tgt := 14) hC dX6_send_50 rfl ?_
              exact ih14 ((iand (ishr (σ 36 0 ((σ 37 0 w11) % 8)) (2 * w10)) 3)) ((w11 + 1))  (by omega) (by omega) (by first | rfl | (rw [ltr_stepI (by omega), ← i0_14]; rfl)) (by omega) (by omega)  
        exact L14 244 (1) (0)  (by omega) (by omega) (by first | rfl | (rw [ltr_stepI (by omega), ← i0_14]; rfl)) (by omega) (by omega)  
      · refine r_aload_n hC dX6_send_23 rfl ?_
        refine z_getR hM dX6_send_24 fl_RX6_25 rfl rfl (vld_of (n := 1) rfl (by omega) (by omega)) ?_
        refine r_aload_n hC dX6_send_27 rfl ?_
        refine z_getR hM dX6_send_28 fl_RX6_28 rfl rfl (vld_of (n := 1) rfl (by omega) (by omega)) ?_
        refine r_iload hC dX6_send_31 rfl ?_
        refine z_iald hM dX6_send_33 rfl (by omega) (by omega) (fun v50 h_v50 o_v50 t_v50 => ?_)
        have w_v50 := ((t_v50 (Or.inr (Or.inr (Or.inr ⟨rfl, by first | exact True.intro | exact (rfl : true = true)⟩)))).trans (rfl)).symm
        subst w_v50
        refine r_bipush hC dX6_send_34 rfl ?_
        refine z_ins2 hM dX6_send_36 tl_RX6_164 rfl (Nat.le_of_ble_eq_true rfl) (Nat.le_of_ble_eq_true rfl) ?_
        refine y_rest (by omega) (fun h51 => ?_)
        refine z_iald hM dX6_send_39 rfl (by omega) (by omega) (fun v52 h_v52 o_v52 t_v52 => ?_)
        have w_v52 := ((t_v52 (Or.inl trivial)).trans (rfl)).symm
        subst w_v52
        refine r_iconst hC dX6_send_40 rfl ?_
        refine r_iload_n hC dX6_send_41 rfl ?_
        refine r_imulE hC ((2 * w2)) dX6_send_42 (by omega) (by unfold inR; omega) ?_
        refine r_ishr hC dX6_send_43 ?_
        have f_v53 := ishr_fr (σ 36 0 ((σ 37 0 w3) % 8)) (2 * w2)
        refine r_iconst hC dX6_send_44 rfl ?_
        refine r_iand hC dX6_send_45 ?_
        have f_v54 := iand_rng (a := (ishr (σ 36 0 ((σ 37 0 w3) % 8)) (2 * w2))) (b := 3) (by omega) (inR_lit rfl)
        refine r_istore_n hC dX6_send_46 rfl ?_
        refine r_iincE hC ((w3 + 1)) dX6_send_47 rfl rfl (by omega) (by unfold inR; omega) ?_
        refine r_goto (tgt := 14) hC dX6_send_50 rfl ?_
        exact ih14 ((iand (ishr (σ 36 0 ((σ 37 0 w3) % 8)) (2 * w2)) 3)) ((w3 + 1))  (by omega) (by omega) (by first | rfl | (rw [ltr_stepI (by omega), ← i0_14]; rfl)) (by omega) (by omega)  
  exact L14 244 (0) (0)  (by omega) (by omega) (by first | rfl | (rw [ltr_stepI (by omega), ← i0_14]; rfl)) (by omega) (by omega)  
theorem y_alikeFrom {eb : Bool} {n : Nat} {d : Nat} {P : Option Vl → Mm → Prop} {σ : Mm} {i : Int} (b_i : 0 ≤ i ∧ i ≤ 241) (qg0 : σ 30 0 8 = (n : Int)) (hn : n ≤ 242) (hi : i < (n : Int))  (k : ∀ t : Int, (0 ≤ t ∧ i + t ≤ (n : Int)) → 1 ≤ t → (∀ j : Int, i ≤ j → j < i + t → σ 37 0 j = σ 37 0 i) → (i + t = (n : Int) ∨ σ 37 0 (i + t) ≠ σ 37 0 i) → P (some (vI t)) σ) : WT (true, eb, true) (d + 1) 168 [vR 30 0, vI i] σ P := by
  refine WT_in fun K hK => ?_
  have hK : StpY (true, eb, true) cX6_alikeFrom RX6 (some .int) (WT (true, eb, true) (d + 0)) P K := hK
  have hM := hK.1
  have hC := hK.1.1
  show K 0 [some (vR 30 0), some (vI i), none] [] σ
  refine r_iload_n hC dX6_alikeFrom_0 rfl ?_
  refine r_istore_n hC dX6_alikeFrom_1 rfl ?_
  have L2 : ∀ (n2 : Nat) (w1 : Int), 0 ≤ w1 ∧ w1 ≤ 242 → (i ≤ (w1)) → ((w1) ≤ (n : Int)) → (∀ j : Int, i ≤ j → j < (w1) → σ 37 0 j = σ 37 0 i) → 242 - w1 < (n2 : Int) → K 2 [some (vR 30 0), some (vI i), some (vI w1)] [] σ := by
    intro n2
    induction n2 with
    | zero => intro w1  f_w1 i0_2 i1_2 i2_2 hm  ; omega
    | succ n2 ih2 =>
      intro w1  f_w1 i0_2 i1_2 i2_2 hm2  
      refine r_iload_n hC dX6_alikeFrom_2 rfl ?_
      refine r_aload_n hC dX6_alikeFrom_3 rfl ?_
      refine z_getI (jz := 8) hM dX6_alikeFrom_4 fl_RX6_105 rfl rfl rfl (fun v2 h_v2 o_v2 t_v2 => ?_)
      have e_v2 : (n : Int) = v2 := ((t_v2 ((by simp [Tk, Tb, DL, DR]))).trans qg0).symm
      subst e_v2
      refine r_icmp_ge (tgt := 31) hC dX6_alikeFrom_7 rfl (fun h3 => ?_) (fun h3 => ?_)
      · refine r_iload_n hC dX6_alikeFrom_31 rfl ?_
        refine r_iload_n hC dX6_alikeFrom_32 rfl ?_
        refine r_isubE hC ((w1 - i)) dX6_alikeFrom_33 (by omega) (by unfold inR; omega) ?_
        refine y_iret hK rfl dX6_alikeFrom_34 ?_
        have hne : i ≠ w1 := by rintro rfl; omega
        exact k (w1 - i) (by omega) (by omega) (fun j h0 h1 => i2_2 j h0 (by omega)) (by rw [show i + (w1 - i) = w1 from by omega]; omega)
      · refine r_aload_n hC dX6_alikeFrom_10 rfl ?_
        refine z_getR hM dX6_alikeFrom_11 fl_RX6_28 rfl rfl (vld_of (n := 1) rfl (by omega) (by omega)) ?_
        refine r_iload_n hC dX6_alikeFrom_14 rfl ?_
        refine z_iald hM dX6_alikeFrom_15 rfl (by omega) (by omega) (fun v4 h_v4 o_v4 t_v4 => ?_)
        have w_v4 := ((t_v4 (Or.inr (Or.inr (Or.inr ⟨rfl, by first | exact True.intro | exact (rfl : true = true)⟩)))).trans (rfl)).symm
        subst w_v4
        refine r_aload_n hC dX6_alikeFrom_16 rfl ?_
        refine z_getR hM dX6_alikeFrom_17 fl_RX6_28 rfl rfl (vld_of (n := 1) rfl (by omega) (by omega)) ?_
        refine r_iload_n hC dX6_alikeFrom_20 rfl ?_
        refine z_iald hM dX6_alikeFrom_21 rfl (by omega) (by omega) (fun v5 h_v5 o_v5 t_v5 => ?_)
        have w_v5 := ((t_v5 (Or.inr (Or.inr (Or.inr ⟨rfl, by first | exact True.intro | exact (rfl : true = true)⟩)))).trans (rfl)).symm
        subst w_v5
        refine r_icmp_ne (tgt := 31) hC dX6_alikeFrom_22 rfl (fun h6 => ?_) (fun h6 => ?_)
        · refine r_iload_n hC dX6_alikeFrom_31 rfl ?_
          refine r_iload_n hC dX6_alikeFrom_32 rfl ?_
          refine r_isubE hC ((w1 - i)) dX6_alikeFrom_33 (by omega) (by unfold inR; omega) ?_
          refine y_iret hK rfl dX6_alikeFrom_34 ?_
          have hne : i ≠ w1 := by rintro rfl; omega
          exact k (w1 - i) (by omega) (by omega) (fun j h0 h1 => i2_2 j h0 (by omega)) (by rw [show i + (w1 - i) = w1 from by omega]; omega)
        · refine r_iincE hC ((w1 + 1)) dX6_alikeFrom_25 rfl rfl (by omega) (by unfold inR; omega) ?_
          refine r_goto (tgt := 2) hC dX6_alikeFrom_28 rfl ?_
          exact ih2 ((w1 + 1))  (by omega) (by omega) (by omega) (by first | (intro j h0 h1; omega) | (intro j h0 h1; rcases (by omega : j < w1 ∨ j = w1) with h | h; exact i2_2 j h0 h; subst h; assumption)) (by omega)  
  exact L2 244 (i)  (by omega) (by omega) (by omega) (by first | (intro j h0 h1; omega) | (intro j h0 h1; rcases (by omega : j < w1 ∨ j = w1) with h | h; exact i2_2 j h0 h; subst h; assumption)) (by omega)  
theorem lke_row {v : Int → Int} {i t : Int} (h0 : 0 ≤ i) (ht : 1 ≤ t) (hb : i = 0 ∨ v i ≠ v (i - 1)) (hv : ∀ j : Int, i ≤ j → j < i + t → v j = v i) : lke v (i + t).toNat = (max (lke v i.toNat).1 t, if t > (lke v i.toNat).1 then v i else (lke v i.toNat).2.1, (lke v i.toNat).2.2.1 + 1, if (lke v i.toNat).2.2.1 + 1 = 1 then t else (lke v i.toNat).2.2.2.1, t) := by
  have h := lke_run v i.toNat (by rw [Int.toNat_of_nonneg h0]; omega) t.toNat (by omega) (fun j hj => by rw [Int.toNat_of_nonneg h0]; exact hv _ (by omega) (by omega))
  rw [show (i + t).toNat = i.toNat + t.toNat from by omega, h, Int.toNat_of_nonneg h0, Int.toNat_of_nonneg (show 0 ≤ t by omega)]
theorem lke_rows {v : Int → Int} : ∀ n : Nat, 1 ≤ n → 1 ≤ (lke v n).2.2.1
  | 0, h => by omega
  | n + 1, _ => by
    have hb := (lke_b v n).1
    show (1 : Int) ≤ (if (decide (0 < n) && decide (v n = v (n - 1))) then (lke v n).2.2.1 else (lke v n).2.2.1 + 1)
    by_cases hn : n = 0
    · subst hn
      rw [if_neg (by simp)]
      omega
    · have := lke_rows (v := v) n (by omega)
      split <;> omega
/-- once another row has begun the first one's length stays -/
theorem lke_fst {v : Int → Int} {t : Nat} (h1 : 1 ≤ t) (hv : ∀ j : Int, 0 ≤ j → j < (t : Int) → v j = v 0) : ∀ m : Nat, (m = 0 ∨ v t ≠ v 0) → (lke v (t + m)).2.2.2.1 = t ∧ (1 ≤ m → 2 ≤ (lke v (t + m)).2.2.1)
  | 0, _ => by
    have h := lke_run v 0 (Or.inl rfl) t h1 (fun j hj => by show v ((0 : Int) + j) = v 0; rw [Int.zero_add]; exact hv _ (by omega) (by omega))
    rw [Nat.zero_add] at h
    rw [Nat.add_zero, h]
    refine ⟨?_, fun q => by omega⟩
    show (if (lke v 0).2.2.1 + 1 = 1 then (t : Int) else (lke v 0).2.2.2.1) = (t : Int)
    exact if_pos rfl
  | m + 1, hm => by
    have hne : v t ≠ v 0 := by rcases hm with q | q; omega; exact q
    obtain ⟨i1, i2⟩ := lke_fst h1 hv m (Or.inr hne)
    have hr := lke_rows (v := v) (t + m) (by omega)
    have e : lke v (t + m + 1) = (let s := lke v (t + m); let same : Bool := decide (0 < t + m) && decide (v ((t + m : Nat) : Int) = v (((t + m : Nat) : Int) - 1)); let l := if same then s.2.2.2.2 + 1 else 1; let r := if same then s.2.2.1 else s.2.2.1 + 1; (if l > s.1 then l else s.1, if l > s.1 then v ((t + m : Nat) : Int) else s.2.1, r, if r = 1 then l else s.2.2.2.1, l)) := rfl
    have hge : 2 ≤ (if (decide (0 < t + m) && decide (v ((t + m : Nat) : Int) = v (((t + m : Nat) : Int) - 1))) then (lke v (t + m)).2.2.1 else (lke v (t + m)).2.2.1 + 1) := by
      by_cases hm0 : m = 0
      · subst hm0
        have : (decide (0 < t + 0) && decide (v ((t + 0 : Nat) : Int) = v (((t + 0 : Nat) : Int) - 1))) = false := by
          have q := hv ((t : Int) - 1) (by omega) (by omega)
          rw [Nat.add_zero, q]
          simp [hne]
        rw [if_neg (by rw [this]; simp)]
        omega
      · have := i2 (by omega)
        split <;> omega
    rw [show t + (m + 1) = t + m + 1 from rfl, e]
    refine ⟨?_, fun _ => hge⟩
    show (if (if (decide (0 < t + m) && decide (v ((t + m : Nat) : Int) = v (((t + m : Nat) : Int) - 1))) then (lke v (t + m)).2.2.1 else (lke v (t + m)).2.2.1 + 1) = 1 then _ else (lke v (t + m)).2.2.2.1) = (t : Int)
    rw [if_neg (by omega), i1]
theorem lke_nx {v : Int → Int} {n : Nat} {i t : Int} (hv : ∀ j : Int, i ≤ j → j < i + t → v j = v i) (he : i + t = (n : Int) ∨ v (i + t) ≠ v i) (ht : 1 ≤ t) : i + t = 0 ∨ v (i + t) ≠ v (i + t - 1) ∨ i + t = (n : Int) := by
  rcases he with h | h
  · exact Or.inr (Or.inr h)
  · rw [hv (i + t - 1) (by omega) (by omega)]
    exact Or.inr (Or.inl h)
theorem y_like {eb : Bool} {n : Nat} {d : Nat} {P : Option Vl → Mm → Prop} {σ : Mm} {t0 t1 t2 t3 t4 t5 t6 : Int} (qg0 : σ 30 0 8 = (n : Int)) (qg1 : σ 38 0 0 = t0) (qg2 : σ 38 0 1 = t1) (qg3 : σ 38 0 2 = t2) (qg4 : σ 38 0 3 = t3) (qg5 : σ 38 0 4 = t4) (qg6 : σ 38 0 5 = t5) (qg7 : σ 38 0 6 = t6) (hn1 : 1 ≤ n) (hn : n ≤ 242)  (k : ∀ ρ : Mm, Gx (fun c x y => c = 38 ∧ x = 0) σ ρ → ρ 38 0 0 = ((lke (σ 37 0) n).1) → ρ 38 0 1 = ((lke (σ 37 0) n).2.1) → ρ 38 0 2 = ((lke (σ 37 0) n).2.2.1) → ρ 38 0 3 = ((lke (σ 37 0) n).2.2.2.1) → ρ 38 0 4 = ((lke (σ 37 0) n).2.2.2.2) → ρ 38 0 5 = (σ 37 0 0) → ρ 38 0 6 = (σ 37 0 ((n : Int) - 1)) → P none ρ) : WT (true, eb, true) (d + 2) 169 [vR 30 0] σ P := by
  refine WT_in fun K hK => ?_
  have hK : StpY (true, eb, true) cX6_like RX6 (none) (WT (true, eb, true) (d + 1)) P K := hK
  have hM := hK.1
  have hC := hK.1.1
  show K 0 [some (vR 30 0), none, none, none, none, none] [] σ
  have hn1N : 1 ≤ (n : Int) ∧ (n : Int) ≤ 242 := by omega
  refine r_iconst hC dX6_like_0 rfl ?_
  refine r_istore_n hC dX6_like_1 rfl ?_
  refine r_iconst hC dX6_like_2 rfl ?_
  refine r_istore_n hC dX6_like_3 rfl ?_
  refine r_iconst hC dX6_like_4 rfl ?_
  refine r_istore_n hC dX6_like_5 rfl ?_
  show K _ [_, _, _, _, _, _] _ _
  refine r_iconst hC dX6_like_6 rfl ?_
  refine r_istore hC dX6_like_7 rfl ?_
  refine r_iconst hC dX6_like_9 rfl ?_
  refine r_istore hC dX6_like_10 rfl ?_
  have L12 : ∀ (n12 : Nat) (w1 w2 w3 w4 w5 : Int), 0 ≤ w1 ∧ w1 ≤ 242 → 0 ≤ w2 ∧ w2 ≤ 242 → -2147483648 ≤ w3 ∧ w3 ≤ 2147483647 → 0 ≤ w4 ∧ w4 ≤ 242 → 0 ≤ w5 ∧ w5 ≤ 242 → ((w1) = (lke (σ 37 0) ((w5)).toNat).2.2.1) → ((w2) = (lke (σ 37 0) ((w5)).toNat).1) → ((w3) = (lke (σ 37 0) ((w5)).toNat).2.1) → ((w4) = (lke (σ 37 0) ((w5)).toNat).2.2.2.2) → ((w5) = 0 ∨ σ 37 0 (w5) ≠ σ 37 0 ((w5) - 1) ∨ (w5) = (n : Int)) → ((w1) ≤ (w5)) → ((w5) ≤ (n : Int)) → ((w2) ≤ (w5)) → 242 - w5 < (n12 : Int) → K 12 [some (vR 30 0), some (vI w1), some (vI w2), some (vI w3), some (vI w4), some (vI w5)] [] σ := by
    intro n12
    induction n12 with
    | zero => intro w1 w2 w3 w4 w5  f_w1 f_w2 f_w3 f_w4 f_w5 i0_12 i1_12 i2_12 i3_12 i4_12 i5_12 i6_12 i7_12 hm  ; omega
    | succ n12 ih12 =>
      intro w1 w2 w3 w4 w5  f_w1 f_w2 f_w3 f_w4 f_w5 i0_12 i1_12 i2_12 i3_12 i4_12 i5_12 i6_12 i7_12 hm12  
      refine r_iload hC dX6_like_12 rfl ?_
      refine r_aload_n hC dX6_like_14 rfl ?_
      refine z_getI (jz := 8) hM dX6_like_15 fl_RX6_105 rfl rfl rfl (fun v6 h_v6 o_v6 t_v6 => ?_)
      have e_v6 : (n : Int) = v6 := ((t_v6 ((by simp [Tk, Tb, DL, DR]))).trans qg0).symm
      subst e_v6
      refine r_icmp_ge (tgt := 62) hC dX6_like_18 rfl (fun h7 => ?_) (fun h7 => ?_)
      · refine r_aload_n hC dX6_like_62 rfl ?_
        refine z_getR hM dX6_like_63 fl_RX6_31 rfl rfl (vld_of (n := 1) rfl (by omega) (by omega)) ?_
        refine r_iconst hC dX6_like_66 rfl ?_
        refine r_iload_n hC dX6_like_67 rfl ?_
        refine z_iastG hM dX6_like_68 rfl (by omega) (by omega) (by simp [Tl, DL, DF]) (by first | trivial | (simp only [Okv]; omega) | (simp [Okv]; try omega)) (fun ρ8 a_ρ8 q_ρ8 => ?_)
        refine r_aload_n hC dX6_like_69 rfl ?_
        refine z_getR hM dX6_like_70 fl_RX6_31 rfl rfl (vld_of (n := 1) rfl (by omega) (by omega)) ?_
        refine r_iconst hC dX6_like_73 rfl ?_
        refine r_iload_n hC dX6_like_74 rfl ?_
        refine z_iastG hM dX6_like_75 rfl (by omega) (by omega) (by simp [Tl, DL, DF]) (by first | trivial | (simp only [Okv]; omega) | (simp [Okv]; try omega)) (fun ρ9 a_ρ9 q_ρ9 => ?_)
        refine r_aload_n hC dX6_like_76 rfl ?_
        refine z_getR hM dX6_like_77 fl_RX6_31 rfl rfl (vld_of (n := 1) rfl (by omega) (by omega)) ?_
        refine r_iconst hC dX6_like_80 rfl ?_
        refine r_iload_n hC dX6_like_81 rfl ?_
        refine z_iastG hM dX6_like_82 rfl (by omega) (by omega) (by simp [Tl, DL, DF]) (by first | trivial | (simp only [Okv]; omega) | (simp [Okv]; try omega)) (fun ρ10 a_ρ10 q_ρ10 => ?_)
        refine r_aload_n hC dX6_like_83 rfl ?_
        refine z_getR hM dX6_like_84 fl_RX6_31 rfl rfl (vld_of (n := 1) rfl (by omega) (by omega)) ?_
        refine r_iconst hC dX6_like_87 rfl ?_
        refine r_aload_n hC dX6_like_88 rfl ?_
        refine r_iconst hC dX6_like_89 rfl ?_
        refine z_inv1 hM dX6_like_90 vl_RX6_170 rfl rfl rfl (Nat.le_of_ble_eq_true rfl) (Nat.le_of_ble_eq_true rfl) ?_
        refine y_alikeFrom (n := n) (by omega) ((a_ρ10 _ _ _ (by omega)).trans ((a_ρ9 _ _ _ (by omega)).trans ((a_ρ8 _ _ _ (by omega)).trans qg0))) hn (by omega) (fun v11 h_v11 p_v11 v_v11 e_v11 => ?_)
        rw [show (ρ10 37 0) = σ 37 0 from funext fun j => (show Gx (fun c x y => c = 38 ∧ x = 0) σ ρ10 from (((Gx.rf).al a_ρ8 (by first | (simp; done) | omega | (simp; omega))).al a_ρ9 (by first | (simp; done) | omega | (simp; omega))).al a_ρ10 (by first | (simp; done) | omega | (simp; omega))) 37 0 j (by omega)] at v_v11 e_v11
        have v_LX := v_v11
        have e_LX := e_v11
        refine z_iastG hM dX6_like_93 rfl (by omega) (by omega) (by simp [Tl, DL, DF]) (by first | trivial | (simp only [Okv]; omega) | (simp [Okv]; try omega)) (fun ρ12 a_ρ12 q_ρ12 => ?_)
        refine r_aload_n hC dX6_like_94 rfl ?_
        refine z_getR hM dX6_like_95 fl_RX6_31 rfl rfl (vld_of (n := 1) rfl (by omega) (by omega)) ?_
        refine r_iconst hC dX6_like_98 rfl ?_
        refine r_iload hC dX6_like_99 rfl ?_
        refine z_iastG hM dX6_like_101 rfl (by omega) (by omega) (by simp [Tl, DL, DF]) (by first | trivial | (simp only [Okv]; omega) | (simp [Okv]; try omega)) (fun ρ13 a_ρ13 q_ρ13 => ?_)
        refine r_aload_n hC dX6_like_102 rfl ?_
        refine z_getR hM dX6_like_103 fl_RX6_31 rfl rfl (vld_of (n := 1) rfl (by omega) (by omega)) ?_
        refine r_iconst hC dX6_like_106 rfl ?_
        refine r_aload_n hC dX6_like_107 rfl ?_
        refine z_getR hM dX6_like_108 fl_RX6_28 rfl rfl (vld_of (n := 1) rfl (by omega) (by omega)) ?_
        refine r_iconst hC dX6_like_111 rfl ?_
        refine z_iald hM dX6_like_112 rfl (by omega) (by omega) (fun v14 h_v14 o_v14 t_v14 => ?_)
        have w_v14 := ((t_v14 (Or.inr (Or.inr (Or.inr ⟨rfl, by first | exact True.intro | exact (rfl : true = true)⟩)))).trans ((show Gx (fun c x y => c = 38 ∧ x = 0) σ ρ13 from (((((Gx.rf).al a_ρ8 (by first | (simp; done) | omega | (simp; omega))).al a_ρ9 (by first | (simp; done) | omega | (simp; omega))).al a_ρ10 (by first | (simp; done) | omega | (simp; omega))).al a_ρ12 (by first | (simp; done) | omega | (simp; omega))).al a_ρ13 (by first | (simp; done) | omega | (simp; omega))) 37 0 _ (by omega))).symm
        subst w_v14
        refine z_iastG hM dX6_like_113 rfl (by omega) (by omega) (by simp [Tl, DL, DF]) (by first | trivial | (simp only [Okv]; omega) | (simp [Okv]; try omega)) (fun ρ15 a_ρ15 q_ρ15 => ?_)
        refine r_aload_n hC dX6_like_114 rfl ?_
        refine z_getR hM dX6_like_115 fl_RX6_31 rfl rfl (vld_of (n := 1) rfl (by omega) (by omega)) ?_
        refine r_bipush hC dX6_like_118 rfl ?_
        refine r_aload_n hC dX6_like_120 rfl ?_
        refine z_getR hM dX6_like_121 fl_RX6_28 rfl rfl (vld_of (n := 1) rfl (by omega) (by omega)) ?_
        refine r_aload_n hC dX6_like_124 rfl ?_
        refine z_getI (jz := 8) hM dX6_like_125 fl_RX6_105 rfl rfl rfl (fun v16 h_v16 o_v16 t_v16 => ?_)
        have e_v16 : (n : Int) = v16 := ((t_v16 ((by simp [Tk, Tb, DL, DR]))).trans ((a_ρ15 _ _ _ (by omega)).trans ((a_ρ13 _ _ _ (by omega)).trans ((a_ρ12 _ _ _ (by omega)).trans ((a_ρ10 _ _ _ (by omega)).trans ((a_ρ9 _ _ _ (by omega)).trans ((a_ρ8 _ _ _ (by omega)).trans qg0))))))).symm
        subst e_v16
        refine r_iconst hC dX6_like_128 rfl ?_
        refine r_isubE hC (((n : Int) - 1)) dX6_like_129 (by omega) (by unfold inR; omega) ?_
        refine z_iald hM dX6_like_130 rfl (by omega) (by omega) (fun v17 h_v17 o_v17 t_v17 => ?_)
        have w_v17 := ((t_v17 (Or.inr (Or.inr (Or.inr ⟨rfl, by first | exact True.intro | exact (rfl : true = true)⟩)))).trans ((show Gx (fun c x y => c = 38 ∧ x = 0) σ ρ15 from ((((((Gx.rf).al a_ρ8 (by first | (simp; done) | omega | (simp; omega))).al a_ρ9 (by first | (simp; done) | omega | (simp; omega))).al a_ρ10 (by first | (simp; done) | omega | (simp; omega))).al a_ρ12 (by first | (simp; done) | omega | (simp; omega))).al a_ρ13 (by first | (simp; done) | omega | (simp; omega))).al a_ρ15 (by first | (simp; done) | omega | (simp; omega))) 37 0 _ (by omega))).symm
        subst w_v17
        refine z_iastG hM dX6_like_131 rfl (by omega) (by omega) (by simp [Tl, DL, DF]) (by first | trivial | (simp only [Okv]; omega) | (simp [Okv]; try omega)) (fun ρ18 a_ρ18 q_ρ18 => ?_)
        refine y_vret hK rfl dX6_like_132 ?_
        have hn_ : (w5).toNat = n := by omega
        rw [hn_] at i0_12 i1_12 i2_12 i3_12
        have hf := lke_fst (v := σ 37 0) (t := (v11).toNat) (by omega) (fun j h0 h1 => v_v11 j (by omega) (by omega)) (n - (v11).toNat) (by
          rw [show (((v11).toNat : Nat) : Int) = v11 from by omega]
          rw [Int.zero_add] at e_v11
          rcases e_v11 with h | h
          · exact Or.inl (by omega)
          · exact Or.inr h)
        rw [show (v11).toNat + (n - (v11).toNat) = n from by omega] at hf
        exact k _ ((((((((Gx.rf).al a_ρ8 (by first | (simp; done) | omega | (simp; omega))).al a_ρ9 (by first | (simp; done) | omega | (simp; omega))).al a_ρ10 (by first | (simp; done) | omega | (simp; omega))).al a_ρ12 (by first | (simp; done) | omega | (simp; omega))).al a_ρ13 (by first | (simp; done) | omega | (simp; omega))).al a_ρ15 (by first | (simp; done) | omega | (simp; omega))).al a_ρ18 (by first | (simp; done) | omega | (simp; omega))) (by have hq := ((a_ρ18 _ _ _ (by omega)).trans ((a_ρ15 _ _ _ (by omega)).trans ((a_ρ13 _ _ _ (by omega)).trans ((a_ρ12 _ _ _ (by omega)).trans ((a_ρ10 _ _ _ (by omega)).trans ((a_ρ9 _ _ _ (by omega)).trans q_ρ8)))))); exact hq.trans i1_12) (by have hq := ((a_ρ18 _ _ _ (by omega)).trans ((a_ρ15 _ _ _ (by omega)).trans ((a_ρ13 _ _ _ (by omega)).trans ((a_ρ12 _ _ _ (by omega)).trans ((a_ρ10 _ _ _ (by omega)).trans q_ρ9))))); exact hq.trans i2_12) (by have hq := ((a_ρ18 _ _ _ (by omega)).trans ((a_ρ15 _ _ _ (by omega)).trans ((a_ρ13 _ _ _ (by omega)).trans ((a_ρ12 _ _ _ (by omega)).trans q_ρ10)))); exact hq.trans i0_12) (by have hq := ((a_ρ18 _ _ _ (by omega)).trans ((a_ρ15 _ _ _ (by omega)).trans ((a_ρ13 _ _ _ (by omega)).trans q_ρ12))); rw [hf.1]; omega) (by have hq := ((a_ρ18 _ _ _ (by omega)).trans ((a_ρ15 _ _ _ (by omega)).trans q_ρ13)); exact hq.trans i3_12) (by have hq := ((a_ρ18 _ _ _ (by omega)).trans q_ρ15); first | exact hq | exact hq.trans (a_ρ8 _ _ _ (by omega)) | exact hq.trans ((a_ρ9 _ _ _ (by omega)).trans (a_ρ8 _ _ _ (by omega))) | exact hq.trans ((a_ρ10 _ _ _ (by omega)).trans ((a_ρ9 _ _ _ (by omega)).trans (a_ρ8 _ _ _ (by omega)))) | exact hq.trans ((a_ρ12 _ _ _ (by omega)).trans ((a_ρ10 _ _ _ (by omega)).trans ((a_ρ9 _ _ _ (by omega)).trans (a_ρ8 _ _ _ (by omega))))) | exact hq.trans ((a_ρ13 _ _ _ (by omega)).trans ((a_ρ12 _ _ _ (by omega)).trans ((a_ρ10 _ _ _ (by omega)).trans ((a_ρ9 _ _ _ (by omega)).trans (a_ρ8 _ _ _ (by omega)))))) | exact hq.trans ((a_ρ15 _ _ _ (by omega)).trans ((a_ρ13 _ _ _ (by omega)).trans ((a_ρ12 _ _ _ (by omega)).trans ((a_ρ10 _ _ _ (by omega)).trans ((a_ρ9 _ _ _ (by omega)).trans (a_ρ8 _ _ _ (by omega))))))) | exact hq.trans ((a_ρ18 _ _ _ (by omega)).trans ((a_ρ15 _ _ _ (by omega)).trans ((a_ρ13 _ _ _ (by omega)).trans ((a_ρ12 _ _ _ (by omega)).trans ((a_ρ10 _ _ _ (by omega)).trans ((a_ρ9 _ _ _ (by omega)).trans (a_ρ8 _ _ _ (by omega))))))))) (by have hq := q_ρ18; first | exact hq | exact hq.trans (a_ρ8 _ _ _ (by omega)) | exact hq.trans ((a_ρ9 _ _ _ (by omega)).trans (a_ρ8 _ _ _ (by omega))) | exact hq.trans ((a_ρ10 _ _ _ (by omega)).trans ((a_ρ9 _ _ _ (by omega)).trans (a_ρ8 _ _ _ (by omega)))) | exact hq.trans ((a_ρ12 _ _ _ (by omega)).trans ((a_ρ10 _ _ _ (by omega)).trans ((a_ρ9 _ _ _ (by omega)).trans (a_ρ8 _ _ _ (by omega))))) | exact hq.trans ((a_ρ13 _ _ _ (by omega)).trans ((a_ρ12 _ _ _ (by omega)).trans ((a_ρ10 _ _ _ (by omega)).trans ((a_ρ9 _ _ _ (by omega)).trans (a_ρ8 _ _ _ (by omega)))))) | exact hq.trans ((a_ρ15 _ _ _ (by omega)).trans ((a_ρ13 _ _ _ (by omega)).trans ((a_ρ12 _ _ _ (by omega)).trans ((a_ρ10 _ _ _ (by omega)).trans ((a_ρ9 _ _ _ (by omega)).trans (a_ρ8 _ _ _ (by omega))))))) | exact hq.trans ((a_ρ18 _ _ _ (by omega)).trans ((a_ρ15 _ _ _ (by omega)).trans ((a_ρ13 _ _ _ (by omega)).trans ((a_ρ12 _ _ _ (by omega)).trans ((a_ρ10 _ _ _ (by omega)).trans ((a_ρ9 _ _ _ (by omega)).trans (a_ρ8 _ _ _ (by omega)))))))))
      · refine r_aload_n hC dX6_like_21 rfl ?_
        have i4_12 : w5 = 0 ∨ σ 37 0 w5 ≠ σ 37 0 (w5 - 1) := by rcases i4_12 with h | h | h; exact Or.inl h; exact Or.inr h; omega
        refine r_iload hC dX6_like_22 rfl ?_
        refine z_inv1 hM dX6_like_24 vl_RX6_170 rfl rfl rfl (Nat.le_of_ble_eq_true rfl) (Nat.le_of_ble_eq_true rfl) ?_
        refine y_alikeFrom (n := n) (by omega) qg0 hn (by omega) (fun v19 h_v19 p_v19 v_v19 e_v19 => ?_)
        have v_LX := v_v19
        have e_LX := e_v19
        refine r_istore hC dX6_like_27 rfl ?_
        have hrow := lke_row (v := σ 37 0) (i := w5) (t := v19) (by omega) (by omega) i4_12 v_v19
        refine r_iincE hC ((w1 + 1)) dX6_like_29 rfl rfl (by omega) (by unfold inR; omega) ?_
        refine r_iload hC dX6_like_32 rfl ?_
        refine r_iload_n hC dX6_like_34 rfl ?_
        refine r_icmp_gt (tgt := 41) hC dX6_like_35 rfl (fun h20 => ?_) (fun h20 => ?_)
        · refine r_iload hC dX6_like_41 rfl ?_
          refine r_istore_n hC dX6_like_43 rfl ?_
          refine r_aload_n hC dX6_like_44 rfl ?_
          refine z_getR hM dX6_like_45 fl_RX6_28 rfl rfl (vld_of (n := 1) rfl (by omega) (by omega)) ?_
          refine r_iload hC dX6_like_48 rfl ?_
          refine z_iald hM dX6_like_50 rfl (by omega) (by omega) (fun v21 h_v21 o_v21 t_v21 => ?_)
          have w_v21 := ((t_v21 (Or.inr (Or.inr (Or.inr ⟨rfl, by first | exact True.intro | exact (rfl : true = true)⟩)))).trans (rfl)).symm
          subst w_v21
          refine r_istore_n hC dX6_like_51 rfl ?_
          refine r_iload hC dX6_like_52 rfl ?_
          refine r_iload hC dX6_like_54 rfl ?_
          refine r_iaddE hC ((w5 + v19)) dX6_like_56 (by omega) (by unfold inR; omega) ?_
          refine r_istore hC dX6_like_57 rfl ?_
          refine r_goto (tgt := 12) hC dX6_like_59 rfl ?_
          exact ih12 ((w1 + 1)) (v19) ((σ 37 0 w5)) (v19) ((w5 + v19))  (by omega) (by omega) (by omega) (by omega) (by omega) (by first | rfl | (rw [hrow, ← i0_12])) (by first | rfl | (rw [hrow, ← i1_12]; dsimp only; omega)) (by first | rfl | (rw [hrow, ← i1_12, ← i2_12]; dsimp only; first | exact (if_pos (by omega)).symm | exact (if_neg (by omega)).symm)) (by first | rfl | (rw [hrow])) (by first | exact Or.inl rfl | exact lke_nx v_LX e_LX (by omega)) (by omega) (by omega) (by omega) (by omega)  
        · refine r_goto (tgt := 52) hC dX6_like_38 rfl ?_
          refine r_iload hC dX6_like_52 rfl ?_
          refine r_iload hC dX6_like_54 rfl ?_
          refine r_iaddE hC ((w5 + v19)) dX6_like_56 (by omega) (by unfold inR; omega) ?_
          refine r_istore hC dX6_like_57 rfl ?_
          refine r_goto (tgt := 12) hC dX6_like_59 rfl ?_
          exact ih12 ((w1 + 1)) (w2) (w3) (v19) ((w5 + v19))  (by omega) (by omega) (by omega) (by omega) (by omega) (by first | rfl | (rw [hrow, ← i0_12])) (by first | rfl | (rw [hrow, ← i1_12]; dsimp only; omega)) (by first | rfl | (rw [hrow, ← i1_12, ← i2_12]; dsimp only; first | exact (if_pos (by omega)).symm | exact (if_neg (by omega)).symm)) (by first | rfl | (rw [hrow])) (by first | exact Or.inl rfl | exact lke_nx v_LX e_LX (by omega)) (by omega) (by omega) (by omega) (by omega)  
  exact L12 244 (0) (0) (0) (0) (0)  (by omega) (by omega) (by omega) (by omega) (by omega) (by first | rfl | (rw [hrow, ← i0_12])) (by first | rfl | (rw [hrow, ← i1_12]; dsimp only; omega)) (by first | rfl | (rw [hrow, ← i1_12, ← i2_12]; dsimp only; first | exact (if_pos (by omega)).symm | exact (if_neg (by omega)).symm)) (by first | rfl | (rw [hrow])) (by first | exact Or.inl rfl | exact lke_nx v_LX e_LX (by omega)) (by omega) (by omega) (by omega) (by omega)  
-- B: the reference: comes, and its row
theorem y_goThrough {eb : Bool} {n : Nat} {d : Nat} {P : Option Vl → Mm → Prop} {σ : Mm} {o : Int} (b_o : 0 ≤ o ∧ o ≤ 9) (q8 : σ 30 0 8 = (n : Int)) (hn1 : 1 ≤ n) (hn : n ≤ 242) (hb : Bd (σ 37 0) n)  (k : ∀ ρ : Mm, Gx (fun c x y => c = 38 ∧ x = 0) σ ρ → (∀ k : Int, 0 ≤ k → k < numF o → ρ 38 0 k = cmN (σ 36 0) (σ 35 0) o (σ 37 0) n k) → P none ρ) : WT (true, eb, true) (d + 3) 158 [vR 30 0, vI o] σ P := by
  refine WT_in fun K hK => ?_
  have hK : StpY (true, eb, true) cX6_goThrough RX6 (none) (WT (true, eb, true) (d + 2)) P K := hK
  have hM := hK.1
  have hC := hK.1.1
  show K 0 [some (vR 30 0), some (vI o)] [] σ
  refine r_iload_n hC dX6_goThrough_0 rfl ?_
  rcases (by omega : (o < 0 ∨ 8 < o) ∨ o = 0 ∨ o = 1 ∨ o = 2 ∨ o = 3 ∨ o = 4 ∨ o = 5 ∨ o = 6 ∨ o = 7 ∨ o = 8) with h1 | h1 | h1 | h1 | h1 | h1 | h1 | h1 | h1 | h1
  · refine r_tableOut (tgt := 115) hC dX6_goThrough_1 h1 rfl ?_
    refine r_aload_n hC dX6_goThrough_115 rfl ?_
    refine z_inv0 hM dX6_goThrough_116 vl_RX6_157 rfl rfl rfl (Nat.le_of_ble_eq_true rfl) (Nat.le_of_ble_eq_true rfl) ?_
    have hk_ : o = 9 := by omega
    refine y_multiply (n := n) (t0 := σ 38 0 0) q8 rfl hn1 hn (fun ρ2 g_ρ2 e0 => ?_)
    have hall : ∀ k : Int, 0 ≤ k → k < numF o → ρ2 38 0 k = cmN (σ 36 0) (σ 35 0) o (σ 37 0) n k := by
      rw [hk_]
      intro k h0 h1
      have hN : numF 9 = 1 := rfl
      rw [hN] at h1
      rcases (by omega : k = 0) with rfl
      · exact e0
    refine y_vret hK rfl dX6_goThrough_119 ?_
    exact k _ g_ρ2 hall
  · refine r_tableIn (tgt := 52) (off := 51) hC dX6_goThrough_1 (by omega) (by omega) (by rw [h1]; rfl) rfl ?_
    refine r_aload_n hC dX6_goThrough_52 rfl ?_
    refine z_inv0 hM dX6_goThrough_53 vl_RX6_130 rfl rfl rfl (Nat.le_of_ble_eq_true rfl) (Nat.le_of_ble_eq_true rfl) ?_
    have hk_ : o = 0 := h1
    refine y_greatest (n := n) (t0 := σ 38 0 0) (t1 := σ 38 0 1) (t2 := σ 38 0 2) (t3 := σ 38 0 3) q8 rfl rfl rfl rfl hn1 hn (fun ρ3 g_ρ3 e0 e1 e2 e3 => ?_)
    have hall : ∀ k : Int, 0 ≤ k → k < numF o → ρ3 38 0 k = cmN (σ 36 0) (σ 35 0) o (σ 37 0) n k := by
      rw [hk_]
      intro k h0 h1
      have hN : numF 0 = 4 := rfl
      rw [hN] at h1
      rcases (by omega : k = 0 ∨ k = 1 ∨ k = 2 ∨ k = 3) with rfl | rfl | rfl | rfl
      · exact e0
      · exact e1
      · exact e2
      · exact e3
    refine r_goto (tgt := 119) hC dX6_goThrough_56 rfl ?_
    refine y_vret hK rfl dX6_goThrough_119 ?_
    exact k _ g_ρ3 hall
  · refine r_tableIn (tgt := 59) (off := 58) hC dX6_goThrough_1 (by omega) (by omega) (by rw [h1]; rfl) rfl ?_
    refine r_aload_n hC dX6_goThrough_59 rfl ?_
    refine z_inv0 hM dX6_goThrough_60 vl_RX6_133 rfl rfl rfl (Nat.le_of_ble_eq_true rfl) (Nat.le_of_ble_eq_true rfl) ?_
    have hk_ : o = 1 := h1
    refine y_share (n := n) (t0 := σ 38 0 0) (t1 := σ 38 0 1) q8 rfl rfl hn1 hn hb (fun ρ4 g_ρ4 e0 e1 => ?_)
    have hall : ∀ k : Int, 0 ≤ k → k < numF o → ρ4 38 0 k = cmN (σ 36 0) (σ 35 0) o (σ 37 0) n k := by
      rw [hk_]
      intro k h0 h1
      have hN : numF 1 = 2 := rfl
      rw [hN] at h1
      rcases (by omega : k = 0 ∨ k = 1) with rfl | rfl
      · exact e0
      · exact e1
    refine r_goto (tgt := 119) hC dX6_goThrough_63 rfl ?_
    refine y_vret hK rfl dX6_goThrough_119 ?_
    exact k _ g_ρ4 hall
  · refine r_tableIn (tgt := 66) (off := 65) hC dX6_goThrough_1 (by omega) (by omega) (by rw [h1]; rfl) rfl ?_
    refine r_aload_n hC dX6_goThrough_66 rfl ?_
    refine z_inv0 hM dX6_goThrough_67 vl_RX6_136 rfl rfl rfl (Nat.le_of_ble_eq_true rfl) (Nat.le_of_ble_eq_true rfl) ?_
    have hk_ : o = 2 := h1
    refine y_line (n := n) (t0 := σ 38 0 0) (t1 := σ 38 0 1) q8 rfl rfl hn1 hn hb (fun ρ5 g_ρ5 e0 e1 => ?_)
    have hall : ∀ k : Int, 0 ≤ k → k < numF o → ρ5 38 0 k = cmN (σ 36 0) (σ 35 0) o (σ 37 0) n k := by
      rw [hk_]
      intro k h0 h1
      have hN : numF 2 = 2 := rfl
      rw [hN] at h1
      rcases (by omega : k = 0 ∨ k = 1) with rfl | rfl
      · exact e0
      · exact e1
    refine r_goto (tgt := 119) hC dX6_goThrough_70 rfl ?_
    refine y_vret hK rfl dX6_goThrough_119 ?_
    exact k _ g_ρ5 hall
  · refine r_tableIn (tgt := 73) (off := 72) hC dX6_goThrough_1 (by omega) (by omega) (by rw [h1]; rfl) rfl ?_
    refine r_aload_n hC dX6_goThrough_73 rfl ?_
    refine z_inv0 hM dX6_goThrough_74 vl_RX6_139 rfl rfl rfl (Nat.le_of_ble_eq_true rfl) (Nat.le_of_ble_eq_true rfl) ?_
    have hk_ : o = 3 := h1
    refine y_run (n := n) (t0 := σ 38 0 0) (t1 := σ 38 0 1) (t2 := σ 38 0 2) (t3 := σ 38 0 3) q8 rfl rfl rfl rfl hn1 hn hb (fun ρ6 g_ρ6 e0 e1 e2 e3 => ?_)
    have hall : ∀ k : Int, 0 ≤ k → k < numF o → ρ6 38 0 k = cmN (σ 36 0) (σ 35 0) o (σ 37 0) n k := by
      rw [hk_]
      intro k h0 h1
      have hN : numF 3 = 4 := rfl
      rw [hN] at h1
      rcases (by omega : k = 0 ∨ k = 1 ∨ k = 2 ∨ k = 3) with rfl | rfl | rfl | rfl
      · exact e0
      · exact e1
      · exact e2
      · exact e3
    refine r_goto (tgt := 119) hC dX6_goThrough_77 rfl ?_
    refine y_vret hK rfl dX6_goThrough_119 ?_
    exact k _ g_ρ6 hall
  · refine r_tableIn (tgt := 80) (off := 79) hC dX6_goThrough_1 (by omega) (by omega) (by rw [h1]; rfl) rfl ?_
    refine r_aload_n hC dX6_goThrough_80 rfl ?_
    refine z_inv0 hM dX6_goThrough_81 vl_RX6_142 rfl rfl rfl (Nat.le_of_ble_eq_true rfl) (Nat.le_of_ble_eq_true rfl) ?_
    have hk_ : o = 4 := h1
    refine y_send (n := n) (t0 := σ 38 0 0) (t1 := σ 38 0 1) (t2 := σ 38 0 2) (t3 := σ 38 0 3) (t4 := σ 38 0 4) q8 rfl rfl rfl rfl rfl hn1 hn (fun ρ7 g_ρ7 e0 e1 e2 e3 e4 => ?_)
    have hall : ∀ k : Int, 0 ≤ k → k < numF o → ρ7 38 0 k = cmN (σ 36 0) (σ 35 0) o (σ 37 0) n k := by
      rw [hk_]
      intro k h0 h1
      have hN : numF 4 = 5 := rfl
      rw [hN] at h1
      rcases (by omega : k = 0 ∨ k = 1 ∨ k = 2 ∨ k = 3 ∨ k = 4) with rfl | rfl | rfl | rfl | rfl
      · exact e0
      · exact e1
      · exact e2
      · exact e3
      · exact e4.trans (if_neg (show ¬ n = 0 by omega)).symm
    refine r_goto (tgt := 119) hC dX6_goThrough_84 rfl ?_
    refine y_vret hK rfl dX6_goThrough_119 ?_
    exact k _ g_ρ7 hall
  · refine r_tableIn (tgt := 87) (off := 86) hC dX6_goThrough_1 (by omega) (by omega) (by rw [h1]; rfl) rfl ?_
    refine r_aload_n hC dX6_goThrough_87 rfl ?_
    refine z_inv0 hM dX6_goThrough_88 vl_RX6_145 rfl rfl rfl (Nat.le_of_ble_eq_true rfl) (Nat.le_of_ble_eq_true rfl) ?_
    have hk_ : o = 5 := h1
    refine y_nest (n := n) (t0 := σ 38 0 0) (t1 := σ 38 0 1) (t2 := σ 38 0 2) (t3 := σ 38 0 3) q8 rfl rfl rfl rfl hn1 hn (fun ρ8 g_ρ8 e0 e1 e2 e3 => ?_)
    have hall : ∀ k : Int, 0 ≤ k → k < numF o → ρ8 38 0 k = cmN (σ 36 0) (σ 35 0) o (σ 37 0) n k := by
      rw [hk_]
      intro k h0 h1
      have hN : numF 5 = 4 := rfl
      rw [hN] at h1
      rcases (by omega : k = 0 ∨ k = 1 ∨ k = 2 ∨ k = 3) with rfl | rfl | rfl | rfl
      · exact e0
      · exact e1
      · exact e2
      · exact e3
    refine r_goto (tgt := 119) hC dX6_goThrough_91 rfl ?_
    refine y_vret hK rfl dX6_goThrough_119 ?_
    exact k _ g_ρ8 hall
  · refine r_tableIn (tgt := 94) (off := 93) hC dX6_goThrough_1 (by omega) (by omega) (by rw [h1]; rfl) rfl ?_
    refine r_aload_n hC dX6_goThrough_94 rfl ?_
    refine z_inv0 hM dX6_goThrough_95 vl_RX6_148 rfl rfl rfl (Nat.le_of_ble_eq_true rfl) (Nat.le_of_ble_eq_true rfl) ?_
    have hk_ : o = 6 := h1
    refine y_like (n := n) (t0 := σ 38 0 0) (t1 := σ 38 0 1) (t2 := σ 38 0 2) (t3 := σ 38 0 3) (t4 := σ 38 0 4) (t5 := σ 38 0 5) (t6 := σ 38 0 6) q8 rfl rfl rfl rfl rfl rfl rfl hn1 hn (fun ρ9 g_ρ9 e0 e1 e2 e3 e4 e5 e6 => ?_)
    have hall : ∀ k : Int, 0 ≤ k → k < numF o → ρ9 38 0 k = cmN (σ 36 0) (σ 35 0) o (σ 37 0) n k := by
      rw [hk_]
      intro k h0 h1
      have hN : numF 6 = 7 := rfl
      rw [hN] at h1
      rcases (by omega : k = 0 ∨ k = 1 ∨ k = 2 ∨ k = 3 ∨ k = 4 ∨ k = 5 ∨ k = 6) with rfl | rfl | rfl | rfl | rfl | rfl | rfl
      · exact e0
      · exact e1
      · exact e2
      · exact e3
      · exact e4
      · exact e5.trans (if_neg (show ¬ n = 0 by omega)).symm
      · exact e6.trans (if_neg (show ¬ n = 0 by omega)).symm
    refine r_goto (tgt := 119) hC dX6_goThrough_98 rfl ?_
    refine y_vret hK rfl dX6_goThrough_119 ?_
    exact k _ g_ρ9 hall
  · refine r_tableIn (tgt := 101) (off := 100) hC dX6_goThrough_1 (by omega) (by omega) (by rw [h1]; rfl) rfl ?_
    refine r_aload_n hC dX6_goThrough_101 rfl ?_
    refine z_inv0 hM dX6_goThrough_102 vl_RX6_151 rfl rfl rfl (Nat.le_of_ble_eq_true rfl) (Nat.le_of_ble_eq_true rfl) ?_
    have hk_ : o = 7 := h1
    refine y_steps (n := n) (t0 := σ 38 0 0) (t1 := σ 38 0 1) (t2 := σ 38 0 2) (t3 := σ 38 0 3) (t4 := σ 38 0 4) q8 rfl rfl rfl rfl rfl hn1 hn (fun ρ10 g_ρ10 e0 e1 e2 e3 e4 => ?_)
    have hall : ∀ k : Int, 0 ≤ k → k < numF o → ρ10 38 0 k = cmN (σ 36 0) (σ 35 0) o (σ 37 0) n k := by
      rw [hk_]
      intro k h0 h1
      have hN : numF 7 = 5 := rfl
      rw [hN] at h1
      rcases (by omega : k = 0 ∨ k = 1 ∨ k = 2 ∨ k = 3 ∨ k = 4) with rfl | rfl | rfl | rfl | rfl
      · exact e0
      · exact e1
      · exact e2.trans (if_neg (show ¬ n = 0 by omega)).symm
      · exact e3.trans (if_neg (show ¬ n = 0 by omega)).symm
      · exact e4
    refine r_goto (tgt := 119) hC dX6_goThrough_105 rfl ?_
    refine y_vret hK rfl dX6_goThrough_119 ?_
    exact k _ g_ρ10 hall
  · refine r_tableIn (tgt := 108) (off := 107) hC dX6_goThrough_1 (by omega) (by omega) (by rw [h1]; rfl) rfl ?_
    refine r_aload_n hC dX6_goThrough_108 rfl ?_
    refine z_inv0 hM dX6_goThrough_109 vl_RX6_154 rfl rfl rfl (Nat.le_of_ble_eq_true rfl) (Nat.le_of_ble_eq_true rfl) ?_
    have hk_ : o = 8 := h1
    refine y_spread (n := n) (t0 := σ 38 0 0) (t1 := σ 38 0 1) (t2 := σ 38 0 2) q8 rfl rfl rfl hn1 hn (fun ρ11 g_ρ11 e0 e1 e2 => ?_)
    have hall : ∀ k : Int, 0 ≤ k → k < numF o → ρ11 38 0 k = cmN (σ 36 0) (σ 35 0) o (σ 37 0) n k := by
      rw [hk_]
      intro k h0 h1
      have hN : numF 8 = 3 := rfl
      rw [hN] at h1
      rcases (by omega : k = 0 ∨ k = 1 ∨ k = 2) with rfl | rfl | rfl
      · exact e0
      · exact e1
      · exact e2
    refine r_goto (tgt := 119) hC dX6_goThrough_112 rfl ?_
    refine y_vret hK rfl dX6_goThrough_119 ?_
    exact k _ g_ρ11 hall
def RWP (ρ : Mm) (u : Int → Int) (n : Nat) : Prop := ρ 30 0 8 = (n : Int) ∧ ∀ j : Int, 0 ≤ j → j < (n : Int) → ρ 37 0 j = u j
theorem RWP.nil {ρ : Mm} {u : Int → Int} (h : ρ 30 0 8 = 0) : RWP ρ u 0 := ⟨h, fun j h0 h1 => by omega⟩
theorem RWP.ext {ρ ρ2 : Mm} {u : Int → Int} {n : Nat} (h : RWP ρ u n) (h8 : ρ2 30 0 8 = ρ 30 0 8) (h37 : ∀ j : Int, ρ2 37 0 j = ρ 37 0 j) : RWP ρ2 u n := ⟨h8.trans h.1, fun j a b => (h37 j).trans (h.2 j a b)⟩
theorem RWP.cg {ρ : Mm} {u v : Int → Int} {n : Nat} (h : RWP ρ u n) (e : ∀ j : Int, 0 ≤ j → j < (n : Int) → u j = v j) : RWP ρ v n := ⟨h.1, fun j a b => (h.2 j a b).trans (e j a b)⟩
theorem Bd.cg {u v : Int → Int} {n : Nat} (h : Bd u n) (e : ∀ j : Int, 0 ≤ j → j < (n : Int) → v j = u j) : Bd v n := fun j a b => by rw [e j a b]; exact h j a b
theorem y_comes {eb : Bool} {n : Nat} {u : Int → Int} {d : Nat} {P : Option Vl → Mm → Prop} {σ : Mm} {o w : Int} (b_o : 0 ≤ o ∧ o ≤ 9) (b_w : 0 ≤ w ∧ w ≤ 6) (hw : w < numF o) (hn : n ≤ 242) (hR : RWP σ u n) (hb : Bd u n)  (k : ∀ ρ : Mm, Gx (fun c x y => c = 38 ∧ x = 0) σ ρ → P (some (vI ((cm (σ 36 0) (σ 35 0) o u n w)))) ρ) : WT (true, eb, true) (d + 4) 159 [vR 30 0, vI o, vI w] σ P := by
  refine WT_in fun K hK => ?_
  have hK : StpY (true, eb, true) cX6_comes RX6 (some .int) (WT (true, eb, true) (d + 3)) P K := hK
  have hM := hK.1
  have hC := hK.1.1
  show K 0 [some (vR 30 0), some (vI o), some (vI w)] [] σ
  refine r_aload_n hC dX6_comes_0 rfl ?_
  refine z_getI (jz := 8) hM dX6_comes_1 fl_RX6_105 rfl rfl rfl (fun v1 h_v1 o_v1 t_v1 => ?_)
  have w_v1 := ((t_v1 (Or.inr (Or.inr (Or.inr ⟨rfl, rfl⟩)))).trans (rfl)).symm
  subst w_v1
  have q_v1 : 0 ≤ (σ 30 0 8) ∧ (σ 30 0 8) ≤ 242 := o_v1 rfl
  refine r_if_ne (tgt := 10) hC dX6_comes_4 rfl (fun h2 => ?_) (fun h2 => ?_)
  · refine r_aload_n hC dX6_comes_10 rfl ?_
    refine r_iload_n hC dX6_comes_11 rfl ?_
    refine z_inv1 hM dX6_comes_12 vl_RX6_161 rfl rfl rfl (Nat.le_of_ble_eq_true rfl) (Nat.le_of_ble_eq_true rfl) ?_
    have hbu : Bd (σ 37 0) n := hb.cg hR.2
    refine y_goThrough (by omega) hR.1 (by have := hR.1; omega) hn hbu (fun ρ3 g_ρ3 c_ρ3 => ?_)
    refine r_aload_n hC dX6_comes_15 rfl ?_
    refine z_getR hM dX6_comes_16 fl_RX6_31 rfl rfl (vld_of (n := 1) rfl (by omega) (by omega)) ?_
    refine r_iload_n hC dX6_comes_19 rfl ?_
    refine z_iald hM dX6_comes_20 rfl (by omega) (by omega) (fun v4 h_v4 o_v4 t_v4 => ?_)
    have w_v4 := ((t_v4 (Or.inr (Or.inr (Or.inr ⟨rfl, by first | exact True.intro | exact (rfl : true = true)⟩)))).trans (rfl)).symm
    subst w_v4
    refine y_iret hK rfl dX6_comes_21 ?_
    have e : (cm (σ 36 0) (σ 35 0) o u n w) = (ρ3 38 0 w) := by
      rw [c_ρ3 w (by omega) (by omega)]
      exact (if_neg (by have := hR.1; omega)).trans (cmN_c (fun j a b => (hR.2 j a b).symm))
    rw [e] at k
    exact k _ g_ρ3
  · refine r_ldc hC dX6_comes_7 co_RX6_160 rfl ?_
    refine y_iret hK rfl dX6_comes_9 ?_
    have e : (cm (σ 36 0) (σ 35 0) o u n w) = -2147483648 := if_pos (Or.inl (by have := hR.1; omega))
    rw [e] at k
    exact k σ Gx.rf
theorem y_clearRow {eb : Bool} {d : Nat} {P : Option Vl → Mm → Prop} {σ : Mm}   (k : P none (mu σ 30 0 8 0)) : WT (true, eb, true) (d + 1) 152 [vR 30 0] σ P := by
  refine WT_in fun K hK => ?_
  have hK : StpY (true, eb, true) cX6_clearRow RX6 (none) (WT (true, eb, true) (d + 0)) P K := hK
  have hM := hK.1
  have hC := hK.1.1
  show K 0 [some (vR 30 0)] [] σ
  refine r_aload_n hC dX6_clearRow_0 rfl ?_
  refine r_iconst hC dX6_clearRow_1 rfl ?_
  refine z_putIT (jz := 8) hM dX6_clearRow_2 fw_RX6_105 rfl rfl rfl ⟨Or.inr (by simp [DL]), Or.inr (by simp [DF])⟩ (by first | trivial | (simp only [Okv]; omega) | (simp [Okv]; try omega)) ?_
  refine y_vret hK rfl dX6_clearRow_5 ?_
  exact k
theorem y_put {eb : Bool} {n : Nat} {u : Int → Int} {d : Nat} {P : Option Vl → Mm → Prop} {σ : Mm} {v : Int}  (hn : n ≤ 241) (hR : RWP σ u n) (hv : v = u n)  (k : ∀ ρ : Mm, Gx (fun c x y => c = 30 ∧ x = 0 ∧ y = 8 ∨ c = 37 ∧ x = 0) σ ρ → RWP ρ u (n + 1) → P none ρ) : WT (true, eb, true) (d + 1) 153 [vR 30 0, vI v] σ P := by
  refine WT_in fun K hK => ?_
  have hK : StpY (true, eb, true) cX6_put RX6 (none) (WT (true, eb, true) (d + 0)) P K := hK
  have hM := hK.1
  have hC := hK.1.1
  show K 0 [some (vR 30 0), some (vI v)] [] σ
  refine r_rngz hC (fun g0 => ?_)
  have r_v : -2147483648 ≤ v ∧ v ≤ 2147483647 := inR_le (g0 (vI v) (by simp))
  have h8 := hR.1
  refine r_aload_n hC dX6_put_0 rfl ?_
  refine z_getR hM dX6_put_1 fl_RX6_28 rfl rfl (vld_of (n := 1) rfl (by omega) (by omega)) ?_
  refine r_aload_n hC dX6_put_4 rfl ?_
  refine z_getI (jz := 8) hM dX6_put_5 fl_RX6_105 rfl rfl rfl (fun v1 h_v1 o_v1 t_v1 => ?_)
  have w_v1 := ((t_v1 (Or.inr (Or.inr (Or.inr ⟨rfl, rfl⟩)))).trans (rfl)).symm
  subst w_v1
  have q_v1 : 0 ≤ (σ 30 0 8) ∧ (σ 30 0 8) ≤ 242 := o_v1 rfl
  refine r_iload_n hC dX6_put_8 rfl ?_
  refine z_iastT hM dX6_put_9 rfl (by omega) (by omega) ⟨Or.inr (by simp [DL]), Or.inr (by simp [DF])⟩ (by first | trivial | (simp only [Okv]; omega) | (simp [Okv]; try omega)) ?_
  refine r_aload_n hC dX6_put_10 rfl ?_
  refine r_dup hC dX6_put_11 rfl ?_
  refine z_getI (jz := 8) hM dX6_put_12 fl_RX6_105 rfl rfl rfl (fun v2 h_v2 o_v2 t_v2 => ?_)
  have w_v2 := ((t_v2 (Or.inr (Or.inr (Or.inr ⟨rfl, rfl⟩)))).trans ((mu_ne (by omega)).trans (rfl))).symm
  subst w_v2
  have q_v2 : 0 ≤ (σ 30 0 8) ∧ (σ 30 0 8) ≤ 242 := o_v2 rfl
  refine r_iconst hC dX6_put_15 rfl ?_
  refine r_iaddE hC (((σ 30 0 8) + 1)) dX6_put_16 (by omega) (by unfold inR; omega) ?_
  refine z_putIT (jz := 8) hM dX6_put_17 fw_RX6_105 rfl rfl rfl ⟨Or.inr (by simp [DL]), Or.inr (by simp [DF])⟩ (by first | trivial | (simp only [Okv]; omega) | (simp [Okv]; try omega)) ?_
  refine y_vret hK rfl dX6_put_20 ?_
  refine k _ (fun c x y h => (mu_ne (by omega)).trans (mu_ne (by omega))) ⟨(mu_self _ _ _ _ _).trans (by omega), fun j a b => (mu_ne (by omega)).trans ?_⟩
  by_cases hj : j = σ 30 0 8
  · subst hj
    rw [mu_self, hv, h8]
  · rw [mu_ne (by omega)]
    exact hR.2 j a (by omega)
theorem y_putFrom {eb : Bool} {n : Nat} {u : Int → Int} {d : Nat} {P : Option Vl → Mm → Prop} {σ : Mm} {l f z : Int} (b_l : 0 ≤ l ∧ l ≤ 7) (b_f : 0 ≤ f ∧ f ≤ 121) (b_z : -2147483648 ≤ z ∧ z ≤ 120) (hn : (n : Int) ≤ 242) (hz : f ≤ z → (n : Int) + (z + 1 - f) ≤ 242) (hR : RWP σ u n) (hu : ∀ j : Int, f ≤ j → j ≤ z → u ((n : Int) + (j - f)) = σ 33 0 (121 * l + j))  (k : ∀ ρ : Mm, Gx (fun c x y => c = 30 ∧ x = 0 ∧ y = 8 ∨ c = 37 ∧ x = 0) σ ρ → RWP ρ u (n + (z + 1 - f).toNat) → P none ρ) : WT (true, eb, true) (d + 2) 154 [vR 30 0, vI l, vI f, vI z] σ P := by
  refine WT_in fun K hK => ?_
  have hK : StpY (true, eb, true) cX6_putFrom RX6 (none) (WT (true, eb, true) (d + 1)) P K := hK
  have hM := hK.1
  have hC := hK.1.1
  show K 0 [some (vR 30 0), some (vI l), some (vI f), some (vI z), none] [] σ
  refine r_iload_n hC dX6_putFrom_0 rfl ?_
  refine r_istore hC dX6_putFrom_1 rfl ?_
  have L3 : ∀ (n3 : Nat) (w1 : Int) (ρ2 : Mm), 0 ≤ w1 ∧ w1 ≤ 121 → (f ≤ (w1)) → ((w1) ≤ z + 1 ∨ (w1) = f) → 121 - w1 < (n3 : Int) → (Gx (fun c x y => c = 30 ∧ x = 0 ∧ y = 8 ∨ c = 37 ∧ x = 0) σ ρ2) → (RWP ρ2 u (n + ((w1) - f).toNat)) → K 3 [some (vR 30 0), some (vI l), some (vI f), some (vI z), some (vI w1)] [] ρ2 := by
    intro n3
    induction n3 with
    | zero => intro w1 ρ2 f_w1 i0_3 i1_3 hm  m0_3 m1_3; omega
    | succ n3 ih3 =>
      intro w1 ρ2 f_w1 i0_3 i1_3 hm3  m0_3 m1_3
      refine r_iload hC dX6_putFrom_3 rfl ?_
      refine r_iload_n hC dX6_putFrom_5 rfl ?_
      refine r_icmp_gt (tgt := 31) hC dX6_putFrom_6 rfl (fun h3 => ?_) (fun h3 => ?_)
      · refine y_vret hK rfl dX6_putFrom_31 ?_
        exact k _ m0_3 (by have h := m1_3; rw [show (w1 - f).toNat = (z + 1 - f).toNat from by omega] at h; exact h)
      · refine r_aload_n hC dX6_putFrom_9 rfl ?_
        refine r_aload_n hC dX6_putFrom_10 rfl ?_
        refine z_getR hM dX6_putFrom_11 fl_RX6_16 rfl rfl (vld_of (n := 1) rfl (by omega) (by omega)) ?_
        refine r_bipush hC dX6_putFrom_14 rfl ?_
        refine r_iload_n hC dX6_putFrom_16 rfl ?_
        refine r_imulE hC ((121 * l)) dX6_putFrom_17 (by omega) (by unfold inR; omega) ?_
        refine r_iload hC dX6_putFrom_18 rfl ?_
        refine r_iaddE hC (((121 * l) + w1)) dX6_putFrom_20 (by omega) (by unfold inR; omega) ?_
        refine z_iald hM dX6_putFrom_21 rfl (by omega) (by omega) (fun v4 h_v4 o_v4 t_v4 => ?_)
        have w_v4 := ((t_v4 (Or.inl trivial)).trans (rfl)).symm
        subst w_v4
        refine z_inv1 hM dX6_putFrom_22 vl_RX6_109 rfl rfl rfl (Nat.le_of_ble_eq_true rfl) (Nat.le_of_ble_eq_true rfl) ?_
        refine y_put (n := (n + (w1 - f).toNat)) (u := u) (by omega) m1_3 (by rw [show (((n + (w1 - f).toNat) : Nat) : Int) = (n : Int) + (w1 - f) from by omega, hu w1 (by omega) (by omega)]; exact m0_3 33 0 _ (by omega)) (fun ρ5 g_ρ5 r_ρ5 => ?_)
        refine r_iincE hC ((w1 + 1)) dX6_putFrom_25 rfl rfl (by omega) (by unfold inR; omega) ?_
        refine r_goto (tgt := 3) hC dX6_putFrom_28 rfl ?_
        exact ih3 ((w1 + 1)) ρ5 (by omega) (by omega) (by omega) (by omega)  (Gx.gx m0_3 g_ρ5 (fun _ _ _ h => h)) (by rw [show n + ((w1 + 1) - f).toNat = n + (w1 - f).toNat + 1 from by omega]; exact r_ρ5)
  exact L3 123 (f) σ (by omega) (by omega) (by omega) (by omega)  (Gx.rf) (by rw [show n + (f - f).toNat = n from by omega]; exact hR)
-- B: the reference's places, held against the class's: V is told in the class's places; t: the last LANE that is looked at (6, or 7 with the one that is tried)
abbrev P7 (s f : Int) : Prop := (s = 1 ∧ f = 0) ∨ (s = 2 ∧ f = 1) ∨ (s = 3 ∧ f = 2) ∨ (s = 4 ∧ f = 3) ∨ (s = 5 ∧ f = 4) ∨ (s = 6 ∧ f = 5) ∨ (s = 10 ∧ f = 6) ∨ (s = 12 ∧ f = 8) ∨ (s = 13 ∧ f = 9) ∨ (s = 14 ∧ f = 10) ∨ (s = 15 ∧ f = 11)
abbrev P11 (s f : Int) : Prop := (s = 0 ∧ f = 12) ∨ (s = 1 ∧ f = 13) ∨ (s = 2 ∧ f = 14) ∨ (s = 3 ∧ f = 15) ∨ (s = 4 ∧ f = 18) ∨ (s = 5 ∧ f = 19) ∨ (s = 6 ∧ f = 20)
/-- the reference holds what V says; the class's places are those of σ0 -/
def SB (t : Int) (σ0 V ρ : Mm) : Prop :=
  (∀ l s f : Int, 0 ≤ l → l ≤ t → P7 s f → ρ 31 0 (22 * l + f) = V 7 l s) ∧
  (∀ l s f : Int, 0 ≤ l → l ≤ t → P11 s f → ρ 31 0 (22 * l + f) = V 11 l s) ∧
  (∀ l y : Int, 0 ≤ l → l ≤ t → 0 ≤ y → y ≤ 120 → ρ 32 0 (121 * l + y) = V 8 l y ∧ ρ 33 0 (121 * l + y) = V 9 l y ∧ ρ 34 0 (121 * l + y) = V 10 l y) ∧
  (∀ w : Int, 0 ≤ w → w ≤ 7 → ρ 39 0 w = V 12 w 0 ∧ ρ 40 0 w = V 12 w 1 ∧ ρ 41 0 w = V 12 w 2 ∧ ρ 42 0 w = V 12 w 3 ∧ ρ 43 0 w = V 12 w 4 ∧ ρ 44 0 w = V 12 w 5) ∧
  (∀ i : Int, 0 ≤ i → i ≤ 3 → ρ 45 0 i = V 13 i 0 ∧ ρ 46 0 i = V 13 i 1 ∧ ρ 47 0 i = V 13 i 2 ∧ ρ 48 0 i = V 13 i 3) ∧
  (∀ j : Int, 0 ≤ j → j ≤ 15 → ρ 35 0 j = V 15 0 j) ∧
  (∀ j : Int, 0 ≤ j → j ≤ 7 → ρ 36 0 j = V 16 0 j) ∧
  (∀ (c : Nat) (x y : Int), c < 30 → ρ c x y = σ0 c x y)
/-- whether a FLIP goes on is told as it is in V -/
def KF (t : Int) (V ρ : Mm) : Prop := ∀ l : Int, 0 ≤ l → l ≤ t → ρ 31 0 (22 * l + 16) = (if V 11 l 3 = 0 then 0 else 1) ∧ ρ 31 0 (22 * l + 17) = 0
/-- from which LANE a BOX is -/
def FB (V ρ : Mm) : Prop := ∀ l : Int, 4 ≤ l → l ≤ 6 → V 7 l 1 = 1 → ρ 31 0 (22 * l + 21) = V 7 l 0
def RS (t : Int) (σ0 V ρ : Mm) : Prop := SB t σ0 V ρ ∧ KF t V ρ ∧ FB V ρ
theorem SB.a7 {t : Int} {σ0 V ρ : Mm} (h : SB t σ0 V ρ) {l s f : Int} (h0 : 0 ≤ l) (h1 : l ≤ t) (hp : P7 s f) : ρ 31 0 (22 * l + f) = V 7 l s := h.1 l s f h0 h1 hp
theorem SB.a70 {t : Int} {σ0 V ρ : Mm} (h : SB t σ0 V ρ) {l : Int} (h0 : 0 ≤ l) (h1 : l ≤ t) : ρ 31 0 (22 * l) = V 7 l 1 := by
  have := h.1 l 1 0 h0 h1 (Or.inl ⟨rfl, rfl⟩)
  rw [Int.add_zero] at this
  exact this
theorem SB.a11 {t : Int} {σ0 V ρ : Mm} (h : SB t σ0 V ρ) {l s f : Int} (h0 : 0 ≤ l) (h1 : l ≤ t) (hp : P11 s f) : ρ 31 0 (22 * l + f) = V 11 l s := h.2.1 l s f h0 h1 hp
theorem SB.a8 {t : Int} {σ0 V ρ : Mm} (h : SB t σ0 V ρ) {l y : Int} (h0 : 0 ≤ l) (h1 : l ≤ t) (h2 : 0 ≤ y) (h3 : y ≤ 120) : ρ 32 0 (121 * l + y) = V 8 l y := (h.2.2.1 l y h0 h1 h2 h3).1
theorem SB.a9 {t : Int} {σ0 V ρ : Mm} (h : SB t σ0 V ρ) {l y : Int} (h0 : 0 ≤ l) (h1 : l ≤ t) (h2 : 0 ≤ y) (h3 : y ≤ 120) : ρ 33 0 (121 * l + y) = V 9 l y := (h.2.2.1 l y h0 h1 h2 h3).2.1
theorem SB.a10 {t : Int} {σ0 V ρ : Mm} (h : SB t σ0 V ρ) {l y : Int} (h0 : 0 ≤ l) (h1 : l ≤ t) (h2 : 0 ≤ y) (h3 : y ≤ 120) : ρ 34 0 (121 * l + y) = V 10 l y := (h.2.2.1 l y h0 h1 h2 h3).2.2
theorem SB.w0 {t : Int} {σ0 V ρ : Mm} (h : SB t σ0 V ρ) {w : Int} (h0 : 0 ≤ w) (h1 : w ≤ 7) : ρ 39 0 w = V 12 w 0 := (h.2.2.2.1 w h0 h1).1
theorem SB.w1 {t : Int} {σ0 V ρ : Mm} (h : SB t σ0 V ρ) {w : Int} (h0 : 0 ≤ w) (h1 : w ≤ 7) : ρ 40 0 w = V 12 w 1 := (h.2.2.2.1 w h0 h1).2.1
theorem SB.w2 {t : Int} {σ0 V ρ : Mm} (h : SB t σ0 V ρ) {w : Int} (h0 : 0 ≤ w) (h1 : w ≤ 7) : ρ 41 0 w = V 12 w 2 := (h.2.2.2.1 w h0 h1).2.2.1
theorem SB.w3 {t : Int} {σ0 V ρ : Mm} (h : SB t σ0 V ρ) {w : Int} (h0 : 0 ≤ w) (h1 : w ≤ 7) : ρ 42 0 w = V 12 w 3 := (h.2.2.2.1 w h0 h1).2.2.2.1
theorem SB.w4 {t : Int} {σ0 V ρ : Mm} (h : SB t σ0 V ρ) {w : Int} (h0 : 0 ≤ w) (h1 : w ≤ 7) : ρ 43 0 w = V 12 w 4 := (h.2.2.2.1 w h0 h1).2.2.2.2.1
theorem SB.w5 {t : Int} {σ0 V ρ : Mm} (h : SB t σ0 V ρ) {w : Int} (h0 : 0 ≤ w) (h1 : w ≤ 7) : ρ 44 0 w = V 12 w 5 := (h.2.2.2.1 w h0 h1).2.2.2.2.2
theorem SB.k0 {t : Int} {σ0 V ρ : Mm} (h : SB t σ0 V ρ) {i : Int} (h0 : 0 ≤ i) (h1 : i ≤ 3) : ρ 45 0 i = V 13 i 0 := (h.2.2.2.2.1 i h0 h1).1
theorem SB.k1 {t : Int} {σ0 V ρ : Mm} (h : SB t σ0 V ρ) {i : Int} (h0 : 0 ≤ i) (h1 : i ≤ 3) : ρ 46 0 i = V 13 i 1 := (h.2.2.2.2.1 i h0 h1).2.1
theorem SB.k2 {t : Int} {σ0 V ρ : Mm} (h : SB t σ0 V ρ) {i : Int} (h0 : 0 ≤ i) (h1 : i ≤ 3) : ρ 47 0 i = V 13 i 2 := (h.2.2.2.2.1 i h0 h1).2.2.1
theorem SB.k3 {t : Int} {σ0 V ρ : Mm} (h : SB t σ0 V ρ) {i : Int} (h0 : 0 ≤ i) (h1 : i ≤ 3) : ρ 48 0 i = V 13 i 3 := (h.2.2.2.2.1 i h0 h1).2.2.2
theorem SB.t15 {t : Int} {σ0 V ρ : Mm} (h : SB t σ0 V ρ) {j : Int} (h0 : 0 ≤ j) (h1 : j ≤ 15) : ρ 35 0 j = V 15 0 j := h.2.2.2.2.2.1 j h0 h1
theorem SB.t16 {t : Int} {σ0 V ρ : Mm} (h : SB t σ0 V ρ) {j : Int} (h0 : 0 ≤ j) (h1 : j ≤ 7) : ρ 36 0 j = V 16 0 j := h.2.2.2.2.2.2.1 j h0 h1
theorem SB.cl {t : Int} {σ0 V ρ : Mm} (h : SB t σ0 V ρ) {c : Nat} (x y : Int) (hc : c < 30) : ρ c x y = σ0 c x y := h.2.2.2.2.2.2.2 c x y hc
abbrev Sc (c : Nat) : Prop := c = 30 ∨ c = 37 ∨ c = 38 ∨ (49 ≤ c ∧ c ≤ 52)
theorem SB.sc {t : Int} {σ0 V ρ ρ2 : Mm} (h : SB t σ0 V ρ) (e : ∀ (c : Nat) (x y : Int), ¬ Sc c → ρ2 c x y = ρ c x y) : SB t σ0 V ρ2 := by
  obtain ⟨q1, q2, q3, q4, q5, q6, q7, q8⟩ := h
  refine ⟨fun m u g x y z => ?_, fun m u g x y z => ?_, fun m u x y z k => ?_, fun k x y => ?_, fun k x y => ?_, fun k x y => ?_, fun k x y => ?_, fun c x y z => ?_⟩
  · rw [e _ _ _ (by omega)]; exact q1 m u g x y z
  · rw [e _ _ _ (by omega)]; exact q2 m u g x y z
  · rw [e _ _ _ (by omega), e _ _ _ (by omega), e _ _ _ (by omega)]; exact q3 m u x y z k
  · rw [e _ _ _ (by omega), e _ _ _ (by omega), e _ _ _ (by omega), e _ _ _ (by omega), e _ _ _ (by omega), e _ _ _ (by omega)]; exact q4 k x y
  · rw [e _ _ _ (by omega), e _ _ _ (by omega), e _ _ _ (by omega), e _ _ _ (by omega)]; exact q5 k x y
  · rw [e _ _ _ (by omega)]; exact q6 k x y
  · rw [e _ _ _ (by omega)]; exact q7 k x y
  · rw [e _ _ _ (by omega)]; exact q8 c x y z
theorem SB.v {t : Int} {σ0 V ρ W : Mm} (h : SB t σ0 V ρ) (e : ∀ (c : Nat) (x y : Int), c < 30 → W c x y = V c x y) : SB t σ0 W ρ := by
  obtain ⟨q1, q2, q3, q4, q5, q6, q7, q8⟩ := h
  refine ⟨fun m u g x y z => ?_, fun m u g x y z => ?_, fun m u x y z k => ?_, fun k x y => ?_, fun k x y => ?_, fun k x y => ?_, fun k x y => ?_, fun c x y z => ?_⟩
  · rw [e _ _ _ (by omega)]; exact q1 m u g x y z
  · rw [e _ _ _ (by omega)]; exact q2 m u g x y z
  · rw [e _ _ _ (by omega), e _ _ _ (by omega), e _ _ _ (by omega)]; exact q3 m u x y z k
  · rw [e _ _ _ (by omega), e _ _ _ (by omega), e _ _ _ (by omega), e _ _ _ (by omega), e _ _ _ (by omega), e _ _ _ (by omega)]; exact q4 k x y
  · rw [e _ _ _ (by omega), e _ _ _ (by omega), e _ _ _ (by omega), e _ _ _ (by omega)]; exact q5 k x y
  · rw [e _ _ _ (by omega)]; exact q6 k x y
  · rw [e _ _ _ (by omega)]; exact q7 k x y
  · exact q8 c x y z
theorem KF.sc {t : Int} {V ρ ρ2 : Mm} (h : KF t V ρ) (e : ∀ (c : Nat) (x y : Int), ¬ Sc c → ρ2 c x y = ρ c x y) : KF t V ρ2 := fun l a b => by
  rw [e _ _ _ (by omega), e _ _ _ (by omega)]; exact h l a b
theorem FB.sc {V ρ ρ2 : Mm} (h : FB V ρ) (e : ∀ (c : Nat) (x y : Int), ¬ Sc c → ρ2 c x y = ρ c x y) : FB V ρ2 := fun l a b c => by
  rw [e _ _ _ (by omega)]; exact h l a b c
theorem RS.sc {t : Int} {σ0 V ρ ρ2 : Mm} (h : RS t σ0 V ρ) (e : ∀ (c : Nat) (x y : Int), ¬ Sc c → ρ2 c x y = ρ c x y) : RS t σ0 V ρ2 := ⟨h.1.sc e, h.2.1.sc e, h.2.2.sc e⟩
theorem KF.v {t : Int} {V W ρ : Mm} (h : KF t V ρ) (e : ∀ l : Int, W 11 l 3 = V 11 l 3) : KF t W ρ := fun l a b => by rw [e]; exact h l a b
theorem KF.e {t : Int} {V ρ ρ2 : Mm} (h : KF t V ρ) (e : ∀ l : Int, 0 ≤ l → l ≤ t → ρ2 31 0 (22 * l + 16) = ρ 31 0 (22 * l + 16) ∧ ρ2 31 0 (22 * l + 17) = ρ 31 0 (22 * l + 17)) : KF t V ρ2 := fun l a b => by rw [(e l a b).1, (e l a b).2]; exact h l a b
theorem FB.v {V W ρ : Mm} (h : FB V ρ) (e : ∀ l y : Int, 4 ≤ l → l ≤ 6 → (y = 0 ∨ y = 1) → W 7 l y = V 7 l y) : FB W ρ := fun l a b c => by
  rw [e l 1 a b (by omega)] at c
  rw [e l 0 a b (by omega)]; exact h l a b c
theorem FB.e {V ρ ρ2 : Mm} (h : FB V ρ) (e : ∀ l : Int, 4 ≤ l → l ≤ 6 → ρ2 31 0 (22 * l + 21) = ρ 31 0 (22 * l + 21)) : FB V ρ2 := fun l a b c => by rw [e l a b]; exact h l a b c
theorem SB.p7 {t : Int} {σ0 V ρ : Mm} (h : SB t σ0 V ρ) {l s f a : Int} (h0 : 0 ≤ l) (h1 : l ≤ t) (hp : P7 s f) : SB t σ0 (mu V 7 l s a) (mu ρ 31 0 (22 * l + f) a) := by
  obtain ⟨q1, q2, q3, q4, q5, q6, q7, q8⟩ := h
  refine ⟨fun m u g x y z => ?_, fun m u g x y z => ?_, fun m u x y z k => ?_, fun k x y => ?_, fun k x y => ?_, fun k x y => ?_, fun k x y => ?_, fun c x y z => ?_⟩
  · by_cases e : m = l ∧ u = s
    · obtain ⟨rfl, rfl⟩ := e
      rw [show g = f from by omega, mu_self, mu_self]
    · rw [mu_ne (by omega), mu_ne (by omega)]; exact q1 m u g x y z
  · rw [mu_ne (by omega), mu_ne (by omega)]; exact q2 m u g x y z
  · rw [mu_ne (by omega), mu_ne (by omega), mu_ne (by omega), mu_ne (by omega), mu_ne (by omega), mu_ne (by omega)]; exact q3 m u x y z k
  · rw [mu_ne (by omega), mu_ne (by omega), mu_ne (by omega), mu_ne (by omega), mu_ne (by omega), mu_ne (by omega), mu_ne (by omega), mu_ne (by omega), mu_ne (by omega), mu_ne (by omega), mu_ne (by omega), mu_ne (by omega)]; exact q4 k x y
  · rw [mu_ne (by omega), mu_ne (by omega), mu_ne (by omega), mu_ne (by omega), mu_ne (by omega), mu_ne (by omega), mu_ne (by omega), mu_ne (by omega)]; exact q5 k x y
  · rw [mu_ne (by omega), mu_ne (by omega)]; exact q6 k x y
  · rw [mu_ne (by omega), mu_ne (by omega)]; exact q7 k x y
  · rw [mu_ne (by omega)]; exact q8 c x y z
theorem SB.p11 {t : Int} {σ0 V ρ : Mm} (h : SB t σ0 V ρ) {l s f a : Int} (h0 : 0 ≤ l) (h1 : l ≤ t) (hp : P11 s f) : SB t σ0 (mu V 11 l s a) (mu ρ 31 0 (22 * l + f) a) := by
  obtain ⟨q1, q2, q3, q4, q5, q6, q7, q8⟩ := h
  refine ⟨fun m u g x y z => ?_, fun m u g x y z => ?_, fun m u x y z k => ?_, fun k x y => ?_, fun k x y => ?_, fun k x y => ?_, fun k x y => ?_, fun c x y z => ?_⟩
  · rw [mu_ne (by omega), mu_ne (by omega)]; exact q1 m u g x y z
  · by_cases e : m = l ∧ u = s
    · obtain ⟨rfl, rfl⟩ := e
      rw [show g = f from by omega, mu_self, mu_self]
    · rw [mu_ne (by omega), mu_ne (by omega)]; exact q2 m u g x y z
  · rw [mu_ne (by omega), mu_ne (by omega), mu_ne (by omega), mu_ne (by omega), mu_ne (by omega), mu_ne (by omega)]; exact q3 m u x y z k
  · rw [mu_ne (by omega), mu_ne (by omega), mu_ne (by omega), mu_ne (by omega), mu_ne (by omega), mu_ne (by omega), mu_ne (by omega), mu_ne (by omega), mu_ne (by omega), mu_ne (by omega), mu_ne (by omega), mu_ne (by omega)]; exact q4 k x y
  · rw [mu_ne (by omega), mu_ne (by omega), mu_ne (by omega), mu_ne (by omega), mu_ne (by omega), mu_ne (by omega), mu_ne (by omega), mu_ne (by omega)]; exact q5 k x y
  · rw [mu_ne (by omega), mu_ne (by omega)]; exact q6 k x y
  · rw [mu_ne (by omega), mu_ne (by omega)]; exact q7 k x y
  · rw [mu_ne (by omega)]; exact q8 c x y z
theorem SB.p8 {t : Int} {σ0 V ρ : Mm} (h : SB t σ0 V ρ) {l w a : Int} (h0 : 0 ≤ l) (h1 : l ≤ t) (h2 : 0 ≤ w) (h3 : w ≤ 120) : SB t σ0 (mu V 8 l w a) (mu ρ 32 0 (121 * l + w) a) := by
  obtain ⟨q1, q2, q3, q4, q5, q6, q7, q8⟩ := h
  refine ⟨fun m u g x y z => ?_, fun m u g x y z => ?_, fun m u x y z k => ?_, fun k x y => ?_, fun k x y => ?_, fun k x y => ?_, fun k x y => ?_, fun c x y z => ?_⟩
  · rw [mu_ne (by omega), mu_ne (by omega)]; exact q1 m u g x y z
  · rw [mu_ne (by omega), mu_ne (by omega)]; exact q2 m u g x y z
  · by_cases e : m = l ∧ u = w
    · obtain ⟨rfl, rfl⟩ := e
      have q := q3 m u x y z k
      exact ⟨(mu_self _ _ _ _ _).trans (mu_self _ _ _ _ _).symm, ((mu_ne (by omega)).trans (q.2.1)).trans (mu_ne (by omega)).symm, ((mu_ne (by omega)).trans (q.2.2)).trans (mu_ne (by omega)).symm⟩
    · rw [mu_ne (by omega), mu_ne (by omega), mu_ne (by omega), mu_ne (by omega), mu_ne (by omega), mu_ne (by omega)]; exact q3 m u x y z k
  · rw [mu_ne (by omega), mu_ne (by omega), mu_ne (by omega), mu_ne (by omega), mu_ne (by omega), mu_ne (by omega), mu_ne (by omega), mu_ne (by omega), mu_ne (by omega), mu_ne (by omega), mu_ne (by omega), mu_ne (by omega)]; exact q4 k x y
  · rw [mu_ne (by omega), mu_ne (by omega), mu_ne (by omega), mu_ne (by omega), mu_ne (by omega), mu_ne (by omega), mu_ne (by omega), mu_ne (by omega)]; exact q5 k x y
  · rw [mu_ne (by omega), mu_ne (by omega)]; exact q6 k x y
  · rw [mu_ne (by omega), mu_ne (by omega)]; exact q7 k x y
  · rw [mu_ne (by omega)]; exact q8 c x y z
theorem SB.p9 {t : Int} {σ0 V ρ : Mm} (h : SB t σ0 V ρ) {l w a : Int} (h0 : 0 ≤ l) (h1 : l ≤ t) (h2 : 0 ≤ w) (h3 : w ≤ 120) : SB t σ0 (mu V 9 l w a) (mu ρ 33 0 (121 * l + w) a) := by
  obtain ⟨q1, q2, q3, q4, q5, q6, q7, q8⟩ := h
  refine ⟨fun m u g x y z => ?_, fun m u g x y z => ?_, fun m u x y z k => ?_, fun k x y => ?_, fun k x y => ?_, fun k x y => ?_, fun k x y => ?_, fun c x y z => ?_⟩
  · rw [mu_ne (by omega), mu_ne (by omega)]; exact q1 m u g x y z
  · rw [mu_ne (by omega), mu_ne (by omega)]; exact q2 m u g x y z
  · by_cases e : m = l ∧ u = w
    · obtain ⟨rfl, rfl⟩ := e
      have q := q3 m u x y z k
      exact ⟨((mu_ne (by omega)).trans (q.1)).trans (mu_ne (by omega)).symm, (mu_self _ _ _ _ _).trans (mu_self _ _ _ _ _).symm, ((mu_ne (by omega)).trans (q.2.2)).trans (mu_ne (by omega)).symm⟩
    · rw [mu_ne (by omega), mu_ne (by omega), mu_ne (by omega), mu_ne (by omega), mu_ne (by omega), mu_ne (by omega)]; exact q3 m u x y z k
  · rw [mu_ne (by omega), mu_ne (by omega), mu_ne (by omega), mu_ne (by omega), mu_ne (by omega), mu_ne (by omega), mu_ne (by omega), mu_ne (by omega), mu_ne (by omega), mu_ne (by omega), mu_ne (by omega), mu_ne (by omega)]; exact q4 k x y
  · rw [mu_ne (by omega), mu_ne (by omega), mu_ne (by omega), mu_ne (by omega), mu_ne (by omega), mu_ne (by omega), mu_ne (by omega), mu_ne (by omega)]; exact q5 k x y
  · rw [mu_ne (by omega), mu_ne (by omega)]; exact q6 k x y
  · rw [mu_ne (by omega), mu_ne (by omega)]; exact q7 k x y
  · rw [mu_ne (by omega)]; exact q8 c x y z
theorem SB.p10 {t : Int} {σ0 V ρ : Mm} (h : SB t σ0 V ρ) {l w a : Int} (h0 : 0 ≤ l) (h1 : l ≤ t) (h2 : 0 ≤ w) (h3 : w ≤ 120) : SB t σ0 (mu V 10 l w a) (mu ρ 34 0 (121 * l + w) a) := by
  obtain ⟨q1, q2, q3, q4, q5, q6, q7, q8⟩ := h
  refine ⟨fun m u g x y z => ?_, fun m u g x y z => ?_, fun m u x y z k => ?_, fun k x y => ?_, fun k x y => ?_, fun k x y => ?_, fun k x y => ?_, fun c x y z => ?_⟩
  · rw [mu_ne (by omega), mu_ne (by omega)]; exact q1 m u g x y z
  · rw [mu_ne (by omega), mu_ne (by omega)]; exact q2 m u g x y z
  · by_cases e : m = l ∧ u = w
    · obtain ⟨rfl, rfl⟩ := e
      have q := q3 m u x y z k
      exact ⟨((mu_ne (by omega)).trans (q.1)).trans (mu_ne (by omega)).symm, ((mu_ne (by omega)).trans (q.2.1)).trans (mu_ne (by omega)).symm, (mu_self _ _ _ _ _).trans (mu_self _ _ _ _ _).symm⟩
    · rw [mu_ne (by omega), mu_ne (by omega), mu_ne (by omega), mu_ne (by omega), mu_ne (by omega), mu_ne (by omega)]; exact q3 m u x y z k
  · rw [mu_ne (by omega), mu_ne (by omega), mu_ne (by omega), mu_ne (by omega), mu_ne (by omega), mu_ne (by omega), mu_ne (by omega), mu_ne (by omega), mu_ne (by omega), mu_ne (by omega), mu_ne (by omega), mu_ne (by omega)]; exact q4 k x y
  · rw [mu_ne (by omega), mu_ne (by omega), mu_ne (by omega), mu_ne (by omega), mu_ne (by omega), mu_ne (by omega), mu_ne (by omega), mu_ne (by omega)]; exact q5 k x y
  · rw [mu_ne (by omega), mu_ne (by omega)]; exact q6 k x y
  · rw [mu_ne (by omega), mu_ne (by omega)]; exact q7 k x y
  · rw [mu_ne (by omega)]; exact q8 c x y z
theorem SB.pw0 {t : Int} {σ0 V ρ : Mm} (h : SB t σ0 V ρ) {w a : Int} (h0 : 0 ≤ w) (h1 : w ≤ 7) : SB t σ0 (mu V 12 w 0 a) (mu ρ 39 0 w a) := by
  obtain ⟨q1, q2, q3, q4, q5, q6, q7, q8⟩ := h
  refine ⟨fun m u g x y z => ?_, fun m u g x y z => ?_, fun m u x y z k => ?_, fun k x y => ?_, fun k x y => ?_, fun k x y => ?_, fun k x y => ?_, fun c x y z => ?_⟩
  · rw [mu_ne (by omega), mu_ne (by omega)]; exact q1 m u g x y z
  · rw [mu_ne (by omega), mu_ne (by omega)]; exact q2 m u g x y z
  · rw [mu_ne (by omega), mu_ne (by omega), mu_ne (by omega), mu_ne (by omega), mu_ne (by omega), mu_ne (by omega)]; exact q3 m u x y z k
  · by_cases e : k = w
    · subst e
      have q := q4 k x y
      exact ⟨(mu_self _ _ _ _ _).trans (mu_self _ _ _ _ _).symm, ((mu_ne (by omega)).trans (q.2.1)).trans (mu_ne (by omega)).symm, ((mu_ne (by omega)).trans (q.2.2.1)).trans (mu_ne (by omega)).symm, ((mu_ne (by omega)).trans (q.2.2.2.1)).trans (mu_ne (by omega)).symm, ((mu_ne (by omega)).trans (q.2.2.2.2.1)).trans (mu_ne (by omega)).symm, ((mu_ne (by omega)).trans (q.2.2.2.2.2)).trans (mu_ne (by omega)).symm⟩
    · rw [mu_ne (by omega), mu_ne (by omega), mu_ne (by omega), mu_ne (by omega), mu_ne (by omega), mu_ne (by omega), mu_ne (by omega), mu_ne (by omega), mu_ne (by omega), mu_ne (by omega), mu_ne (by omega), mu_ne (by omega)]; exact q4 k x y
  · rw [mu_ne (by omega), mu_ne (by omega), mu_ne (by omega), mu_ne (by omega), mu_ne (by omega), mu_ne (by omega), mu_ne (by omega), mu_ne (by omega)]; exact q5 k x y
  · rw [mu_ne (by omega), mu_ne (by omega)]; exact q6 k x y
  · rw [mu_ne (by omega), mu_ne (by omega)]; exact q7 k x y
  · rw [mu_ne (by omega)]; exact q8 c x y z
theorem SB.pw1 {t : Int} {σ0 V ρ : Mm} (h : SB t σ0 V ρ) {w a : Int} (h0 : 0 ≤ w) (h1 : w ≤ 7) : SB t σ0 (mu V 12 w 1 a) (mu ρ 40 0 w a) := by
  obtain ⟨q1, q2, q3, q4, q5, q6, q7, q8⟩ := h
  refine ⟨fun m u g x y z => ?_, fun m u g x y z => ?_, fun m u x y z k => ?_, fun k x y => ?_, fun k x y => ?_, fun k x y => ?_, fun k x y => ?_, fun c x y z => ?_⟩
  · rw [mu_ne (by omega), mu_ne (by omega)]; exact q1 m u g x y z
  · rw [mu_ne (by omega), mu_ne (by omega)]; exact q2 m u g x y z
  · rw [mu_ne (by omega), mu_ne (by omega), mu_ne (by omega), mu_ne (by omega), mu_ne (by omega), mu_ne (by omega)]; exact q3 m u x y z k
  · by_cases e : k = w
    · subst e
      have q := q4 k x y
      exact ⟨((mu_ne (by omega)).trans (q.1)).trans (mu_ne (by omega)).symm, (mu_self _ _ _ _ _).trans (mu_self _ _ _ _ _).symm, ((mu_ne (by omega)).trans (q.2.2.1)).trans (mu_ne (by omega)).symm, ((mu_ne (by omega)).trans (q.2.2.2.1)).trans (mu_ne (by omega)).symm, ((mu_ne (by omega)).trans (q.2.2.2.2.1)).trans (mu_ne (by omega)).symm, ((mu_ne (by omega)).trans (q.2.2.2.2.2)).trans (mu_ne (by omega)).symm⟩
    · rw [mu_ne (by omega), mu_ne (by omega), mu_ne (by omega), mu_ne (by omega), mu_ne (by omega), mu_ne (by omega), mu_ne (by omega), mu_ne (by omega), mu_ne (by omega), mu_ne (by omega), mu_ne (by omega), mu_ne (by omega)]; exact q4 k x y
  · rw [mu_ne (by omega), mu_ne (by omega), mu_ne (by omega), mu_ne (by omega), mu_ne (by omega), mu_ne (by omega), mu_ne (by omega), mu_ne (by omega)]; exact q5 k x y
  · rw [mu_ne (by omega), mu_ne (by omega)]; exact q6 k x y
  · rw [mu_ne (by omega), mu_ne (by omega)]; exact q7 k x y
  · rw [mu_ne (by omega)]; exact q8 c x y z
theorem SB.pw2 {t : Int} {σ0 V ρ : Mm} (h : SB t σ0 V ρ) {w a : Int} (h0 : 0 ≤ w) (h1 : w ≤ 7) : SB t σ0 (mu V 12 w 2 a) (mu ρ 41 0 w a) := by
  obtain ⟨q1, q2, q3, q4, q5, q6, q7, q8⟩ := h
  refine ⟨fun m u g x y z => ?_, fun m u g x y z => ?_, fun m u x y z k => ?_, fun k x y => ?_, fun k x y => ?_, fun k x y => ?_, fun k x y => ?_, fun c x y z => ?_⟩
  · rw [mu_ne (by omega), mu_ne (by omega)]; exact q1 m u g x y z
  · rw [mu_ne (by omega), mu_ne (by omega)]; exact q2 m u g x y z
  · rw [mu_ne (by omega), mu_ne (by omega), mu_ne (by omega), mu_ne (by omega), mu_ne (by omega), mu_ne (by omega)]; exact q3 m u x y z k
  · by_cases e : k = w
    · subst e
      have q := q4 k x y
      exact ⟨((mu_ne (by omega)).trans (q.1)).trans (mu_ne (by omega)).symm, ((mu_ne (by omega)).trans (q.2.1)).trans (mu_ne (by omega)).symm, (mu_self _ _ _ _ _).trans (mu_self _ _ _ _ _).symm, ((mu_ne (by omega)).trans (q.2.2.2.1)).trans (mu_ne (by omega)).symm, ((mu_ne (by omega)).trans (q.2.2.2.2.1)).trans (mu_ne (by omega)).symm, ((mu_ne (by omega)).trans (q.2.2.2.2.2)).trans (mu_ne (by omega)).symm⟩
    · rw [mu_ne (by omega), mu_ne (by omega), mu_ne (by omega), mu_ne (by omega), mu_ne (by omega), mu_ne (by omega), mu_ne (by omega), mu_ne (by omega), mu_ne (by omega), mu_ne (by omega), mu_ne (by omega), mu_ne (by omega)]; exact q4 k x y
  · rw [mu_ne (by omega), mu_ne (by omega), mu_ne (by omega), mu_ne (by omega), mu_ne (by omega), mu_ne (by omega), mu_ne (by omega), mu_ne (by omega)]; exact q5 k x y
  · rw [mu_ne (by omega), mu_ne (by omega)]; exact q6 k x y
  · rw [mu_ne (by omega), mu_ne (by omega)]; exact q7 k x y
  · rw [mu_ne (by omega)]; exact q8 c x y z
theorem SB.pw3 {t : Int} {σ0 V ρ : Mm} (h : SB t σ0 V ρ) {w a : Int} (h0 : 0 ≤ w) (h1 : w ≤ 7) : SB t σ0 (mu V 12 w 3 a) (mu ρ 42 0 w a) := by
  obtain ⟨q1, q2, q3, q4, q5, q6, q7, q8⟩ := h
  refine ⟨fun m u g x y z => ?_, fun m u g x y z => ?_, fun m u x y z k => ?_, fun k x y => ?_, fun k x y => ?_, fun k x y => ?_, fun k x y => ?_, fun c x y z => ?_⟩
  · rw [mu_ne (by omega), mu_ne (by omega)]; exact q1 m u g x y z
  · rw [mu_ne (by omega), mu_ne (by omega)]; exact q2 m u g x y z
  · rw [mu_ne (by omega), mu_ne (by omega), mu_ne (by omega), mu_ne (by omega), mu_ne (by omega), mu_ne (by omega)]; exact q3 m u x y z k
  · by_cases e : k = w
    · subst e
      have q := q4 k x y
      exact ⟨((mu_ne (by omega)).trans (q.1)).trans (mu_ne (by omega)).symm, ((mu_ne (by omega)).trans (q.2.1)).trans (mu_ne (by omega)).symm, ((mu_ne (by omega)).trans (q.2.2.1)).trans (mu_ne (by omega)).symm, (mu_self _ _ _ _ _).trans (mu_self _ _ _ _ _).symm, ((mu_ne (by omega)).trans (q.2.2.2.2.1)).trans (mu_ne (by omega)).symm, ((mu_ne (by omega)).trans (q.2.2.2.2.2)).trans (mu_ne (by omega)).symm⟩
    · rw [mu_ne (by omega), mu_ne (by omega), mu_ne (by omega), mu_ne (by omega), mu_ne (by omega), mu_ne (by omega), mu_ne (by omega), mu_ne (by omega), mu_ne (by omega), mu_ne (by omega), mu_ne (by omega), mu_ne (by omega)]; exact q4 k x y
  · rw [mu_ne (by omega), mu_ne (by omega), mu_ne (by omega), mu_ne (by omega), mu_ne (by omega), mu_ne (by omega), mu_ne (by omega), mu_ne (by omega)]; exact q5 k x y
  · rw [mu_ne (by omega), mu_ne (by omega)]; exact q6 k x y
  · rw [mu_ne (by omega), mu_ne (by omega)]; exact q7 k x y
  · rw [mu_ne (by omega)]; exact q8 c x y z
theorem SB.pw4 {t : Int} {σ0 V ρ : Mm} (h : SB t σ0 V ρ) {w a : Int} (h0 : 0 ≤ w) (h1 : w ≤ 7) : SB t σ0 (mu V 12 w 4 a) (mu ρ 43 0 w a) := by
  obtain ⟨q1, q2, q3, q4, q5, q6, q7, q8⟩ := h
  refine ⟨fun m u g x y z => ?_, fun m u g x y z => ?_, fun m u x y z k => ?_, fun k x y => ?_, fun k x y => ?_, fun k x y => ?_, fun k x y => ?_, fun c x y z => ?_⟩
  · rw [mu_ne (by omega), mu_ne (by omega)]; exact q1 m u g x y z
  · rw [mu_ne (by omega), mu_ne (by omega)]; exact q2 m u g x y z
  · rw [mu_ne (by omega), mu_ne (by omega), mu_ne (by omega), mu_ne (by omega), mu_ne (by omega), mu_ne (by omega)]; exact q3 m u x y z k
  · by_cases e : k = w
    · subst e
      have q := q4 k x y
      exact ⟨((mu_ne (by omega)).trans (q.1)).trans (mu_ne (by omega)).symm, ((mu_ne (by omega)).trans (q.2.1)).trans (mu_ne (by omega)).symm, ((mu_ne (by omega)).trans (q.2.2.1)).trans (mu_ne (by omega)).symm, ((mu_ne (by omega)).trans (q.2.2.2.1)).trans (mu_ne (by omega)).symm, (mu_self _ _ _ _ _).trans (mu_self _ _ _ _ _).symm, ((mu_ne (by omega)).trans (q.2.2.2.2.2)).trans (mu_ne (by omega)).symm⟩
    · rw [mu_ne (by omega), mu_ne (by omega), mu_ne (by omega), mu_ne (by omega), mu_ne (by omega), mu_ne (by omega), mu_ne (by omega), mu_ne (by omega), mu_ne (by omega), mu_ne (by omega), mu_ne (by omega), mu_ne (by omega)]; exact q4 k x y
  · rw [mu_ne (by omega), mu_ne (by omega), mu_ne (by omega), mu_ne (by omega), mu_ne (by omega), mu_ne (by omega), mu_ne (by omega), mu_ne (by omega)]; exact q5 k x y
  · rw [mu_ne (by omega), mu_ne (by omega)]; exact q6 k x y
  · rw [mu_ne (by omega), mu_ne (by omega)]; exact q7 k x y
  · rw [mu_ne (by omega)]; exact q8 c x y z
theorem SB.pw5 {t : Int} {σ0 V ρ : Mm} (h : SB t σ0 V ρ) {w a : Int} (h0 : 0 ≤ w) (h1 : w ≤ 7) : SB t σ0 (mu V 12 w 5 a) (mu ρ 44 0 w a) := by
  obtain ⟨q1, q2, q3, q4, q5, q6, q7, q8⟩ := h
  refine ⟨fun m u g x y z => ?_, fun m u g x y z => ?_, fun m u x y z k => ?_, fun k x y => ?_, fun k x y => ?_, fun k x y => ?_, fun k x y => ?_, fun c x y z => ?_⟩
  · rw [mu_ne (by omega), mu_ne (by omega)]; exact q1 m u g x y z
  · rw [mu_ne (by omega), mu_ne (by omega)]; exact q2 m u g x y z
  · rw [mu_ne (by omega), mu_ne (by omega), mu_ne (by omega), mu_ne (by omega), mu_ne (by omega), mu_ne (by omega)]; exact q3 m u x y z k
  · by_cases e : k = w
    · subst e
      have q := q4 k x y
      exact ⟨((mu_ne (by omega)).trans (q.1)).trans (mu_ne (by omega)).symm, ((mu_ne (by omega)).trans (q.2.1)).trans (mu_ne (by omega)).symm, ((mu_ne (by omega)).trans (q.2.2.1)).trans (mu_ne (by omega)).symm, ((mu_ne (by omega)).trans (q.2.2.2.1)).trans (mu_ne (by omega)).symm, ((mu_ne (by omega)).trans (q.2.2.2.2.1)).trans (mu_ne (by omega)).symm, (mu_self _ _ _ _ _).trans (mu_self _ _ _ _ _).symm⟩
    · rw [mu_ne (by omega), mu_ne (by omega), mu_ne (by omega), mu_ne (by omega), mu_ne (by omega), mu_ne (by omega), mu_ne (by omega), mu_ne (by omega), mu_ne (by omega), mu_ne (by omega), mu_ne (by omega), mu_ne (by omega)]; exact q4 k x y
  · rw [mu_ne (by omega), mu_ne (by omega), mu_ne (by omega), mu_ne (by omega), mu_ne (by omega), mu_ne (by omega), mu_ne (by omega), mu_ne (by omega)]; exact q5 k x y
  · rw [mu_ne (by omega), mu_ne (by omega)]; exact q6 k x y
  · rw [mu_ne (by omega), mu_ne (by omega)]; exact q7 k x y
  · rw [mu_ne (by omega)]; exact q8 c x y z
theorem SB.pk0 {t : Int} {σ0 V ρ : Mm} (h : SB t σ0 V ρ) {w a : Int} (h0 : 0 ≤ w) (h1 : w ≤ 3) : SB t σ0 (mu V 13 w 0 a) (mu ρ 45 0 w a) := by
  obtain ⟨q1, q2, q3, q4, q5, q6, q7, q8⟩ := h
  refine ⟨fun m u g x y z => ?_, fun m u g x y z => ?_, fun m u x y z k => ?_, fun k x y => ?_, fun k x y => ?_, fun k x y => ?_, fun k x y => ?_, fun c x y z => ?_⟩
  · rw [mu_ne (by omega), mu_ne (by omega)]; exact q1 m u g x y z
  · rw [mu_ne (by omega), mu_ne (by omega)]; exact q2 m u g x y z
  · rw [mu_ne (by omega), mu_ne (by omega), mu_ne (by omega), mu_ne (by omega), mu_ne (by omega), mu_ne (by omega)]; exact q3 m u x y z k
  · rw [mu_ne (by omega), mu_ne (by omega), mu_ne (by omega), mu_ne (by omega), mu_ne (by omega), mu_ne (by omega), mu_ne (by omega), mu_ne (by omega), mu_ne (by omega), mu_ne (by omega), mu_ne (by omega), mu_ne (by omega)]; exact q4 k x y
  · by_cases e : k = w
    · subst e
      have q := q5 k x y
      exact ⟨(mu_self _ _ _ _ _).trans (mu_self _ _ _ _ _).symm, ((mu_ne (by omega)).trans (q.2.1)).trans (mu_ne (by omega)).symm, ((mu_ne (by omega)).trans (q.2.2.1)).trans (mu_ne (by omega)).symm, ((mu_ne (by omega)).trans (q.2.2.2)).trans (mu_ne (by omega)).symm⟩
    · rw [mu_ne (by omega), mu_ne (by omega), mu_ne (by omega), mu_ne (by omega), mu_ne (by omega), mu_ne (by omega), mu_ne (by omega), mu_ne (by omega)]; exact q5 k x y
  · rw [mu_ne (by omega), mu_ne (by omega)]; exact q6 k x y
  · rw [mu_ne (by omega), mu_ne (by omega)]; exact q7 k x y
  · rw [mu_ne (by omega)]; exact q8 c x y z
theorem SB.pk1 {t : Int} {σ0 V ρ : Mm} (h : SB t σ0 V ρ) {w a : Int} (h0 : 0 ≤ w) (h1 : w ≤ 3) : SB t σ0 (mu V 13 w 1 a) (mu ρ 46 0 w a) := by
  obtain ⟨q1, q2, q3, q4, q5, q6, q7, q8⟩ := h
  refine ⟨fun m u g x y z => ?_, fun m u g x y z => ?_, fun m u x y z k => ?_, fun k x y => ?_, fun k x y => ?_, fun k x y => ?_, fun k x y => ?_, fun c x y z => ?_⟩
  · rw [mu_ne (by omega), mu_ne (by omega)]; exact q1 m u g x y z
  · rw [mu_ne (by omega), mu_ne (by omega)]; exact q2 m u g x y z
  · rw [mu_ne (by omega), mu_ne (by omega), mu_ne (by omega), mu_ne (by omega), mu_ne (by omega), mu_ne (by omega)]; exact q3 m u x y z k
  · rw [mu_ne (by omega), mu_ne (by omega), mu_ne (by omega), mu_ne (by omega), mu_ne (by omega), mu_ne (by omega), mu_ne (by omega), mu_ne (by omega), mu_ne (by omega), mu_ne (by omega), mu_ne (by omega), mu_ne (by omega)]; exact q4 k x y
  · by_cases e : k = w
    · subst e
      have q := q5 k x y
      exact ⟨((mu_ne (by omega)).trans (q.1)).trans (mu_ne (by omega)).symm, (mu_self _ _ _ _ _).trans (mu_self _ _ _ _ _).symm, ((mu_ne (by omega)).trans (q.2.2.1)).trans (mu_ne (by omega)).symm, ((mu_ne (by omega)).trans (q.2.2.2)).trans (mu_ne (by omega)).symm⟩
    · rw [mu_ne (by omega), mu_ne (by omega), mu_ne (by omega), mu_ne (by omega), mu_ne (by omega), mu_ne (by omega), mu_ne (by omega), mu_ne (by omega)]; exact q5 k x y
  · rw [mu_ne (by omega), mu_ne (by omega)]; exact q6 k x y
  · rw [mu_ne (by omega), mu_ne (by omega)]; exact q7 k x y
  · rw [mu_ne (by omega)]; exact q8 c x y z
theorem SB.pk2 {t : Int} {σ0 V ρ : Mm} (h : SB t σ0 V ρ) {w a : Int} (h0 : 0 ≤ w) (h1 : w ≤ 3) : SB t σ0 (mu V 13 w 2 a) (mu ρ 47 0 w a) := by
  obtain ⟨q1, q2, q3, q4, q5, q6, q7, q8⟩ := h
  refine ⟨fun m u g x y z => ?_, fun m u g x y z => ?_, fun m u x y z k => ?_, fun k x y => ?_, fun k x y => ?_, fun k x y => ?_, fun k x y => ?_, fun c x y z => ?_⟩
  · rw [mu_ne (by omega), mu_ne (by omega)]; exact q1 m u g x y z
  · rw [mu_ne (by omega), mu_ne (by omega)]; exact q2 m u g x y z
  · rw [mu_ne (by omega), mu_ne (by omega), mu_ne (by omega), mu_ne (by omega), mu_ne (by omega), mu_ne (by omega)]; exact q3 m u x y z k
  · rw [mu_ne (by omega), mu_ne (by omega), mu_ne (by omega), mu_ne (by omega), mu_ne (by omega), mu_ne (by omega), mu_ne (by omega), mu_ne (by omega), mu_ne (by omega), mu_ne (by omega), mu_ne (by omega), mu_ne (by omega)]; exact q4 k x y
  · by_cases e : k = w
    · subst e
      have q := q5 k x y
      exact ⟨((mu_ne (by omega)).trans (q.1)).trans (mu_ne (by omega)).symm, ((mu_ne (by omega)).trans (q.2.1)).trans (mu_ne (by omega)).symm, (mu_self _ _ _ _ _).trans (mu_self _ _ _ _ _).symm, ((mu_ne (by omega)).trans (q.2.2.2)).trans (mu_ne (by omega)).symm⟩
    · rw [mu_ne (by omega), mu_ne (by omega), mu_ne (by omega), mu_ne (by omega), mu_ne (by omega), mu_ne (by omega), mu_ne (by omega), mu_ne (by omega)]; exact q5 k x y
  · rw [mu_ne (by omega), mu_ne (by omega)]; exact q6 k x y
  · rw [mu_ne (by omega), mu_ne (by omega)]; exact q7 k x y
  · rw [mu_ne (by omega)]; exact q8 c x y z
theorem SB.pk3 {t : Int} {σ0 V ρ : Mm} (h : SB t σ0 V ρ) {w a : Int} (h0 : 0 ≤ w) (h1 : w ≤ 3) : SB t σ0 (mu V 13 w 3 a) (mu ρ 48 0 w a) := by
  obtain ⟨q1, q2, q3, q4, q5, q6, q7, q8⟩ := h
  refine ⟨fun m u g x y z => ?_, fun m u g x y z => ?_, fun m u x y z k => ?_, fun k x y => ?_, fun k x y => ?_, fun k x y => ?_, fun k x y => ?_, fun c x y z => ?_⟩
  · rw [mu_ne (by omega), mu_ne (by omega)]; exact q1 m u g x y z
  · rw [mu_ne (by omega), mu_ne (by omega)]; exact q2 m u g x y z
  · rw [mu_ne (by omega), mu_ne (by omega), mu_ne (by omega), mu_ne (by omega), mu_ne (by omega), mu_ne (by omega)]; exact q3 m u x y z k
  · rw [mu_ne (by omega), mu_ne (by omega), mu_ne (by omega), mu_ne (by omega), mu_ne (by omega), mu_ne (by omega), mu_ne (by omega), mu_ne (by omega), mu_ne (by omega), mu_ne (by omega), mu_ne (by omega), mu_ne (by omega)]; exact q4 k x y
  · by_cases e : k = w
    · subst e
      have q := q5 k x y
      exact ⟨((mu_ne (by omega)).trans (q.1)).trans (mu_ne (by omega)).symm, ((mu_ne (by omega)).trans (q.2.1)).trans (mu_ne (by omega)).symm, ((mu_ne (by omega)).trans (q.2.2.1)).trans (mu_ne (by omega)).symm, (mu_self _ _ _ _ _).trans (mu_self _ _ _ _ _).symm⟩
    · rw [mu_ne (by omega), mu_ne (by omega), mu_ne (by omega), mu_ne (by omega), mu_ne (by omega), mu_ne (by omega), mu_ne (by omega), mu_ne (by omega)]; exact q5 k x y
  · rw [mu_ne (by omega), mu_ne (by omega)]; exact q6 k x y
  · rw [mu_ne (by omega), mu_ne (by omega)]; exact q7 k x y
  · rw [mu_ne (by omega)]; exact q8 c x y z
theorem SB.p15 {t : Int} {σ0 V ρ : Mm} (h : SB t σ0 V ρ) {w a : Int} (h0 : 0 ≤ w) (h1 : w ≤ 15) : SB t σ0 (mu V 15 0 w a) (mu ρ 35 0 w a) := by
  obtain ⟨q1, q2, q3, q4, q5, q6, q7, q8⟩ := h
  refine ⟨fun m u g x y z => ?_, fun m u g x y z => ?_, fun m u x y z k => ?_, fun k x y => ?_, fun k x y => ?_, fun k x y => ?_, fun k x y => ?_, fun c x y z => ?_⟩
  · rw [mu_ne (by omega), mu_ne (by omega)]; exact q1 m u g x y z
  · rw [mu_ne (by omega), mu_ne (by omega)]; exact q2 m u g x y z
  · rw [mu_ne (by omega), mu_ne (by omega), mu_ne (by omega), mu_ne (by omega), mu_ne (by omega), mu_ne (by omega)]; exact q3 m u x y z k
  · rw [mu_ne (by omega), mu_ne (by omega), mu_ne (by omega), mu_ne (by omega), mu_ne (by omega), mu_ne (by omega), mu_ne (by omega), mu_ne (by omega), mu_ne (by omega), mu_ne (by omega), mu_ne (by omega), mu_ne (by omega)]; exact q4 k x y
  · rw [mu_ne (by omega), mu_ne (by omega), mu_ne (by omega), mu_ne (by omega), mu_ne (by omega), mu_ne (by omega), mu_ne (by omega), mu_ne (by omega)]; exact q5 k x y
  · by_cases e : k = w
    · subst e
      have q := q6 k x y
      exact (mu_self _ _ _ _ _).trans (mu_self _ _ _ _ _).symm
    · rw [mu_ne (by omega), mu_ne (by omega)]; exact q6 k x y
  · rw [mu_ne (by omega), mu_ne (by omega)]; exact q7 k x y
  · rw [mu_ne (by omega)]; exact q8 c x y z
theorem SB.p16 {t : Int} {σ0 V ρ : Mm} (h : SB t σ0 V ρ) {w a : Int} (h0 : 0 ≤ w) (h1 : w ≤ 7) : SB t σ0 (mu V 16 0 w a) (mu ρ 36 0 w a) := by
  obtain ⟨q1, q2, q3, q4, q5, q6, q7, q8⟩ := h
  refine ⟨fun m u g x y z => ?_, fun m u g x y z => ?_, fun m u x y z k => ?_, fun k x y => ?_, fun k x y => ?_, fun k x y => ?_, fun k x y => ?_, fun c x y z => ?_⟩
  · rw [mu_ne (by omega), mu_ne (by omega)]; exact q1 m u g x y z
  · rw [mu_ne (by omega), mu_ne (by omega)]; exact q2 m u g x y z
  · rw [mu_ne (by omega), mu_ne (by omega), mu_ne (by omega), mu_ne (by omega), mu_ne (by omega), mu_ne (by omega)]; exact q3 m u x y z k
  · rw [mu_ne (by omega), mu_ne (by omega), mu_ne (by omega), mu_ne (by omega), mu_ne (by omega), mu_ne (by omega), mu_ne (by omega), mu_ne (by omega), mu_ne (by omega), mu_ne (by omega), mu_ne (by omega), mu_ne (by omega)]; exact q4 k x y
  · rw [mu_ne (by omega), mu_ne (by omega), mu_ne (by omega), mu_ne (by omega), mu_ne (by omega), mu_ne (by omega), mu_ne (by omega), mu_ne (by omega)]; exact q5 k x y
  · rw [mu_ne (by omega), mu_ne (by omega)]; exact q6 k x y
  · by_cases e : k = w
    · subst e
      have q := q7 k x y
      exact (mu_self _ _ _ _ _).trans (mu_self _ _ _ _ _).symm
    · rw [mu_ne (by omega), mu_ne (by omega)]; exact q7 k x y
  · rw [mu_ne (by omega)]; exact q8 c x y z
/-- what the reference alone holds -/
theorem SB.px {t : Int} {σ0 V ρ : Mm} (h : SB t σ0 V ρ) {l f a : Int} (hf : f = 16 ∨ f = 17 ∨ f = 21 ∨ f = 7) : SB t σ0 V (mu ρ 31 0 (22 * l + f) a) := by
  obtain ⟨q1, q2, q3, q4, q5, q6, q7, q8⟩ := h
  refine ⟨fun m u g x y z => ?_, fun m u g x y z => ?_, fun m u x y z k => ?_, fun k x y => ?_, fun k x y => ?_, fun k x y => ?_, fun k x y => ?_, fun c x y z => ?_⟩
  · rw [mu_ne (by omega)]; exact q1 m u g x y z
  · rw [mu_ne (by omega)]; exact q2 m u g x y z
  · rw [mu_ne (by omega), mu_ne (by omega), mu_ne (by omega)]; exact q3 m u x y z k
  · rw [mu_ne (by omega), mu_ne (by omega), mu_ne (by omega), mu_ne (by omega), mu_ne (by omega), mu_ne (by omega)]; exact q4 k x y
  · rw [mu_ne (by omega), mu_ne (by omega), mu_ne (by omega), mu_ne (by omega)]; exact q5 k x y
  · rw [mu_ne (by omega)]; exact q6 k x y
  · rw [mu_ne (by omega)]; exact q7 k x y
  · rw [mu_ne (by omega)]; exact q8 c x y z
theorem cmN_t {tl tl2 tc tc2 : Int → Int} (h16 : ∀ j : Int, 0 ≤ j → j ≤ 7 → tl j = tl2 j) (h15 : ∀ j : Int, 0 ≤ j → j ≤ 15 → tc j = tc2 j) (hc : ∀ j : Int, 0 ≤ j → j < 16 → 0 ≤ tc j ∧ tc j ≤ 3) (o : Int) (v : Int → Int) (n : Nat) (k : Int) : cmN tl tc o v n k = cmN tl2 tc2 o v n k := by
  have hl : ∀ (s : Int) (m : Nat), ltr tl v s m = ltr tl2 v s m := fun s m => by
    induction m with
    | zero => rfl
    | succ m ih =>
      show lnx tl (v m) (ltr tl v s m) = lnx tl2 (v m) (ltr tl2 v s m)
      rw [ih]
      unfold lnx
      rw [h16 _ (by omega) (by omega)]
  have ht : ∀ m : Nat, tbl tc v m = tbl tc2 v m := fun m => by
    induction m with
    | zero => rfl
    | succ m ih =>
      show (if m = 0 then v 0 % 4 else tc (4 * tbl tc v m + v m % 4)) = (if m = 0 then v 0 % 4 else tc2 (4 * tbl tc2 v m + v m % 4))
      have hb := tbl_b (u := v) hc m
      rw [← ih, h15 _ (by omega) (by omega)]
  unfold cmN
  rw [hl 0, hl 1, hl 2, hl 3, hl k, ht]
theorem cm_t {tl tl2 tc tc2 : Int → Int} (h16 : ∀ j : Int, 0 ≤ j → j ≤ 7 → tl j = tl2 j) (h15 : ∀ j : Int, 0 ≤ j → j ≤ 15 → tc j = tc2 j) (hc : ∀ j : Int, 0 ≤ j → j < 16 → 0 ≤ tc j ∧ tc j ≤ 3) (o : Int) (v : Int → Int) (n : Nat) (k : Int) : cm tl tc o v n k = cm tl2 tc2 o v n k := by
  unfold cm
  rw [cmN_t h16 h15 hc]
theorem WT_dn {eb : Bool} {d M : Nat} {as : List Vl} {σ : Mm} {P : Option Vl → Mm → Prop} (h : ∀ ρ : Mm, (∀ (c : Nat) (i j : Int), Tk (true, eb, false) c j → ρ c i j = σ c i j) → WT (true, eb, true) d M as ρ P) : WT (true, eb, false) d M as σ P := by
  refine WT_loose (true, eb, true) (fun q => q) (fun q => q) (fun c j q => ?_) (fun ρ hL hF hT hO => ?_)
  · rcases q with q | q | q | q
    · exact Or.inl q
    · exact Or.inr (Or.inl q)
    · exact Or.inr (Or.inr (Or.inl q))
    · cases q.1
  · intro τ hA
    refine WP.mono (fun r τ2 hp => ?_) _ _ _ _ (h ρ hT τ hA)
    obtain ⟨ρ2, h1, h2⟩ := hp
    exact ⟨ρ2, ⟨ρ2, h1, fun q => Or.inl q, fun q => Or.inl q, fun _ _ _ _ => rfl⟩, h2⟩
-- B: what the reference's rows become
def ceM (V : Mm) (l a m b : Int) : Mm := mu (mu (mu V 8 m b (V 8 l a)) 9 m b (V 9 l a)) 10 m b (V 10 l a)
def suM (V : Mm) (l a h : Int) : Mm := fun c x y => if x = l ∧ (c = 8 ∨ c = 9 ∨ c = 10) ∧ a < y ∧ y ≤ h then V c l (y - 1) else V c x y
def sdM (V : Mm) (l a h : Int) : Mm := fun c x y => if x = l ∧ (c = 8 ∨ c = 9 ∨ c = 10) ∧ a ≤ y ∧ y < h then V c l (y + 1) else V c x y
theorem suM_0 {V : Mm} {l a h : Int} (q : h ≤ a) : suM V l a h = V := by
  funext c x y
  exact if_neg (by omega)
theorem suM_in {V : Mm} {l a h x y : Int} {c : Nat} (q : x = l ∧ (c = 8 ∨ c = 9 ∨ c = 10) ∧ a < y ∧ y ≤ h) : suM V l a h c x y = V c l (y - 1) := if_pos q
theorem suM_ne {V : Mm} {l a h x y : Int} {c : Nat} (q : ¬ (x = l ∧ (c = 8 ∨ c = 9 ∨ c = 10) ∧ a < y ∧ y ≤ h)) : suM V l a h c x y = V c x y := if_neg q
theorem sdM_0 {V : Mm} {l a h : Int} (q : h ≤ a) : sdM V l a h = V := by
  funext c x y
  exact if_neg (by omega)
theorem sdM_in {V : Mm} {l a h x y : Int} {c : Nat} (q : x = l ∧ (c = 8 ∨ c = 9 ∨ c = 10) ∧ a ≤ y ∧ y < h) : sdM V l a h c x y = V c l (y + 1) := if_pos q
theorem sdM_ne {V : Mm} {l a h x y : Int} {c : Nat} (q : ¬ (x = l ∧ (c = 8 ∨ c = 9 ∨ c = 10) ∧ a ≤ y ∧ y < h)) : sdM V l a h c x y = V c x y := if_neg q
theorem suM_s {V : Mm} {l i h : Int} (hi : i ≤ h) : ceM (suM V l i h) l (i - 1) l i = suM V l (i - 1) h := by
  funext c x y
  unfold ceM
  by_cases e : x = l ∧ y = i ∧ (c = 8 ∨ c = 9 ∨ c = 10)
  · obtain ⟨rfl, rfl, e⟩ := e
    rw [suM_in (h := h) (a := y - 1) ⟨rfl, e, by omega, by omega⟩]
    rcases e with rfl | rfl | rfl
    · rw [mu_ne (by omega), mu_ne (by omega), mu_self, suM_ne (by omega)]
    · rw [mu_ne (by omega), mu_self, suM_ne (by omega)]
    · rw [mu_self, suM_ne (by omega)]
  · rw [mu_ne (by omega), mu_ne (by omega), mu_ne (by omega)]
    by_cases q : x = l ∧ (c = 8 ∨ c = 9 ∨ c = 10) ∧ i < y ∧ y ≤ h
    · rw [suM_in q, suM_in (by omega)]
    · rw [suM_ne q, suM_ne (by omega)]
theorem sdM_s {V : Mm} {l a i h : Int} (ha : a ≤ i) : ceM (sdM V l a i) l (i + 1) l i = sdM V l a (i + 1) := by
  funext c x y
  unfold ceM
  by_cases e : x = l ∧ y = i ∧ (c = 8 ∨ c = 9 ∨ c = 10)
  · obtain ⟨rfl, rfl, e⟩ := e
    rw [sdM_in (h := y + 1) (a := a) ⟨rfl, e, by omega, by omega⟩]
    rcases e with rfl | rfl | rfl
    · rw [mu_ne (by omega), mu_ne (by omega), mu_self, sdM_ne (by omega)]
    · rw [mu_ne (by omega), mu_self, sdM_ne (by omega)]
    · rw [mu_self, sdM_ne (by omega)]
  · rw [mu_ne (by omega), mu_ne (by omega), mu_ne (by omega)]
    by_cases q : x = l ∧ (c = 8 ∨ c = 9 ∨ c = 10) ∧ a ≤ y ∧ y < i
    · rw [sdM_in q, sdM_in (by omega)]
    · rw [sdM_ne q, sdM_ne (by omega)]
/-- in order of the times -/
def So (f : Int → Int) (h : Int) : Prop := ∀ j : Int, 0 ≤ j → j + 1 < h → f j ≤ f (j + 1)
theorem So.le {f : Int → Int} {h : Int} (s : So f h) {i : Int} (h0 : 0 ≤ i) : ∀ n : Nat, i + n < h → f i ≤ f (i + n)
  | 0, _ => by rw [show i + ((0 : Nat) : Int) = i from by omega]; exact Int.le_refl _
  | n + 1, q => by
    have a := s.le h0 n (by omega)
    have b := s (i + n) (by omega) (by omega)
    rw [show i + ((n + 1 : Nat) : Int) = i + n + 1 from by omega]
    omega
theorem So.le2 {f : Int → Int} {h : Int} (s : So f h) {i j : Int} (h0 : 0 ≤ i) (h1 : i ≤ j) (h2 : j < h) : f i ≤ f j := by
  have := s.le h0 (j - i).toNat (by omega)
  rw [show i + ((j - i).toNat : Int) = j from by omega] at this
  exact this
theorem hc_up {f : Int → Int} {t h i : Int} (s : So f h) (h0 : 0 ≤ i) (h1 : i ≤ h) (ha : ∀ j : Int, 0 ≤ j → j < i → f j ≤ t) (he : i = h ∨ t < f i) : hc f t h.toNat = i := by
  have key : ∀ n : Nat, i ≤ (n : Int) → (n : Int) ≤ h → hc f t n = i := fun n => by
    induction n with
    | zero => intro a b; show (0 : Int) = i; omega
    | succ n ih =>
      intro a b
      show (if f n ≤ t then (n : Int) + 1 else hc f t n) = i
      by_cases e : i = ((n + 1 : Nat) : Int)
      · rw [if_pos (ha n (by omega) (by omega))]; omega
      · have hb : t < f n := by
          rcases he with q | q
          · omega
          · have := s.le2 h0 (show i ≤ (n : Int) by omega) (by omega)
            omega
        rw [if_neg (by omega)]
        exact ih (by omega) (by omega)
  exact key h.toNat (by omega) (by omega)
-- B: the reference: LANES read and written
theorem y_of {e : Ev} {d : Nat} {P : Option Vl → Mm → Prop} {σ : Mm} {l f : Int} (b_l : 0 ≤ l ∧ l ≤ 7) (b_f : 0 ≤ f ∧ f ≤ 21) (hf : f ≠ 7 ∧ (f = 21 → 4 ≤ l ∧ l ≤ 6))  (k : Okv 31 (22 * l + f) (σ 31 0 (22 * l + f)) → P (some (vI (σ 31 0 (22 * l + f)))) σ) : WT e (d + 1) 138 [vR 30 0, vI l, vI f] σ P := by
  refine WT_in fun K hK => ?_
  have hK : StpY e cX6_of RX6 (some .int) (WT e (d + 0)) P K := hK
  have hM := hK.1
  have hC := hK.1.1
  show K 0 [some (vR 30 0), some (vI l), some (vI f)] [] σ
  refine r_aload_n hC dX6_of_0 rfl ?_
  refine z_getR hM dX6_of_1 fl_RX6_7 rfl rfl (vld_of (n := 1) rfl (by omega) (by omega)) ?_
  refine r_bipush hC dX6_of_4 rfl ?_
  refine r_iload_n hC dX6_of_6 rfl ?_
  refine r_imulE hC ((22 * l)) dX6_of_7 (by omega) (by unfold inR; omega) ?_
  refine r_iload_n hC dX6_of_8 rfl ?_
  refine r_iaddE hC (((22 * l) + f)) dX6_of_9 (by omega) (by unfold inR; omega) ?_
  refine z_iald hM dX6_of_10 rfl (by omega) (by omega) (fun v1 h_v1 o_v1 t_v1 => ?_)
  have w_v1 := (t_v1 (Or.inl (by simp only [Tb]; omega))).symm
  subst w_v1
  refine y_iret hK rfl dX6_of_11 ?_
  exact k o_v1
theorem y_set {eb ec : Bool} {d : Nat} {P : Option Vl → Mm → Prop} {σ : Mm} {l f v : Int} (b_l : 0 ≤ l ∧ l ≤ 7) (b_f : 0 ≤ f ∧ f ≤ 21) (ho : (f = 5 → 0 ≤ v ∧ v ≤ 121) ∧ (f = 0 → v = 0 ∨ v = 1))  (k : P none (mu σ 31 0 (22 * l + f) v)) : WT (true, eb, ec) (d + 1) 139 [vR 30 0, vI l, vI f, vI v] σ P := by
  refine WT_in fun K hK => ?_
  have hK : StpY (true, eb, ec) cX6_set RX6 (none) (WT (true, eb, ec) (d + 0)) P K := hK
  have hM := hK.1
  have hC := hK.1.1
  show K 0 [some (vR 30 0), some (vI l), some (vI f), some (vI v)] [] σ
  refine r_rngz hC (fun g0 => ?_)
  have r_v : -2147483648 ≤ v ∧ v ≤ 2147483647 := inR_le (g0 (vI v) (by simp))
  refine r_aload_n hC dX6_set_0 rfl ?_
  refine z_getR hM dX6_set_1 fl_RX6_7 rfl rfl (vld_of (n := 1) rfl (by omega) (by omega)) ?_
  refine r_bipush hC dX6_set_4 rfl ?_
  refine r_iload_n hC dX6_set_6 rfl ?_
  refine r_imulE hC ((22 * l)) dX6_set_7 (by omega) (by unfold inR; omega) ?_
  refine r_iload_n hC dX6_set_8 rfl ?_
  refine r_iaddE hC (((22 * l) + f)) dX6_set_9 (by omega) (by unfold inR; omega) ?_
  refine r_iload_n hC dX6_set_10 rfl ?_
  refine z_iastT hM dX6_set_11 rfl (by omega) (by omega) ⟨Or.inl rfl, Or.inr (by simp [DF])⟩ ⟨fun h => by have := ho.1 (by omega); omega, fun h => by have := ho.2 (by omega); omega⟩ ?_
  refine y_vret hK rfl dX6_set_12 ?_
  exact k
theorem y_moreW {eb ec : Bool} {a : Int} {d : Nat} {P : Option Vl → Mm → Prop} {σ : Mm} {l f v : Int} (b_l : 0 ≤ l ∧ l ≤ 7) (b_f : 0 ≤ f ∧ f ≤ 21) (ho : (f = 5 → 0 ≤ wr (a + v) ∧ wr (a + v) ≤ 121) ∧ f ≠ 0) (hq : σ 31 0 (22 * l + f) = a) (hf : f ≠ 7 ∧ (f = 21 → 4 ≤ l ∧ l ≤ 6))  (k : P none (mu σ 31 0 (22 * l + f) (wr (a + v)))) : WT (true, eb, ec) (d + 1) 140 [vR 30 0, vI l, vI f, vI v] σ P := by
  refine WT_in fun K hK => ?_
  have hK : StpY (true, eb, ec) cX6_more RX6 (none) (WT (true, eb, ec) (d + 0)) P K := hK
  have hM := hK.1
  have hC := hK.1.1
  show K 0 [some (vR 30 0), some (vI l), some (vI f), some (vI v)] [] σ
  refine r_rngz hC (fun g0 => ?_)
  have r_v : -2147483648 ≤ v ∧ v ≤ 2147483647 := inR_le (g0 (vI v) (by simp))
  refine r_aload_n hC dX6_more_0 rfl ?_
  refine z_getR hM dX6_more_1 fl_RX6_7 rfl rfl (vld_of (n := 1) rfl (by omega) (by omega)) ?_
  refine r_bipush hC dX6_more_4 rfl ?_
  refine r_iload_n hC dX6_more_6 rfl ?_
  refine r_imulE hC ((22 * l)) dX6_more_7 (by omega) (by unfold inR; omega) ?_
  refine r_iload_n hC dX6_more_8 rfl ?_
  refine r_iaddE hC (((22 * l) + f)) dX6_more_9 (by omega) (by unfold inR; omega) ?_
  refine r_dup2 hC dX6_more_10 rfl rfl ?_
  refine z_iald hM dX6_more_11 rfl (by omega) (by omega) (fun v1 h_v1 o_v1 t_v1 => ?_)
  have w_v1 := ((t_v1 (Or.inl (by simp only [Tb]; omega))).trans hq).symm
  subst w_v1
  refine r_iload_n hC dX6_more_12 rfl ?_
  refine r_iadd hC dX6_more_13 ?_
  have f2 := inR_le (inR_wr (a + v))
  refine z_iastT hM dX6_more_14 rfl (by omega) (by omega) ⟨Or.inl rfl, Or.inr (by simp [DF])⟩ ⟨fun h => by have := ho.1 (by omega); omega, fun h => by have := ho.2 (by omega); omega⟩ ?_
  refine y_vret hK rfl dX6_more_15 ?_
  exact k
theorem y_moreE {eb ec : Bool} {a : Int} {d : Nat} {P : Option Vl → Mm → Prop} {σ : Mm} {l f v : Int} (b_l : 0 ≤ l ∧ l ≤ 7) (b_f : 0 ≤ f ∧ f ≤ 21) (hr : -2147483648 ≤ a + v ∧ a + v ≤ 2147483647) (ho : (f = 5 → 0 ≤ a + v ∧ a + v ≤ 121) ∧ f ≠ 0) (hq : σ 31 0 (22 * l + f) = a) (hf : f ≠ 7 ∧ (f = 21 → 4 ≤ l ∧ l ≤ 6)) (k : P none (mu σ 31 0 (22 * l + f) (a + v))) : WT (true, eb, ec) (d + 1) 140 [vR 30 0, vI l, vI f, vI v] σ P := by
  have e : wr (a + v) = a + v := wr_id ⟨hr.1, by omega⟩
  refine y_moreW b_l b_f (by rw [e]; exact ho) hq hf ?_
  rw [e]
  exact k
theorem y_moreG {eb ec : Bool} {d : Nat} {P : Option Vl → Mm → Prop} {σ : Mm} {l v : Int} (b_l : 0 ≤ l ∧ l ≤ 7)  (k : P none σ) : WT (true, eb, ec) (d + 1) 140 [vR 30 0, vI l, vI 7, vI v] σ P := by
  refine WT_in fun K hK => ?_
  have hK : StpY (true, eb, ec) cX6_more RX6 (none) (WT (true, eb, ec) (d + 0)) P K := hK
  have hM := hK.1
  have hC := hK.1.1
  show K 0 [some (vR 30 0), some (vI l), some (vI 7), some (vI v)] [] σ
  refine r_rngz hC (fun g0 => ?_)
  have r_v : -2147483648 ≤ v ∧ v ≤ 2147483647 := inR_le (g0 (vI v) (by simp))
  refine r_aload_n hC dX6_more_0 rfl ?_
  refine z_getR hM dX6_more_1 fl_RX6_7 rfl rfl (vld_of (n := 1) rfl (by omega) (by omega)) ?_
  refine r_bipush hC dX6_more_4 rfl ?_
  refine r_iload_n hC dX6_more_6 rfl ?_
  refine r_imulE hC ((22 * l)) dX6_more_7 (by omega) (by unfold inR; omega) ?_
  refine r_iload_n hC dX6_more_8 rfl ?_
  refine r_iaddE hC (((22 * l) + 7)) dX6_more_9 (by omega) (by unfold inR; omega) ?_
  refine r_dup2 hC dX6_more_10 rfl rfl ?_
  refine z_iald hM dX6_more_11 rfl (by omega) (by omega) (fun vg h_vg o_vg t_vg => ?_)
  refine r_iload_n hC dX6_more_12 rfl ?_
  refine r_iadd hC dX6_more_13 ?_
  have f1 := inR_le (inR_wr (vg + v))
  refine z_iastU hM dX6_more_14 rfl (by omega) (by omega) ⟨by simp only [Tb]; omega, by simp only [DL]; omega, by simp [DF], Or.inr (by simp [DR]), Or.inr (by simp [DX])⟩ ⟨fun h => by omega, fun h => by omega⟩ ?_
  refine y_vret hK rfl dX6_more_15 ?_
  exact k
theorem y_heldOf {e : Ev} {d : Nat} {P : Option Vl → Mm → Prop} {σ : Mm} {l : Int} (b_l : 0 ≤ l ∧ l ≤ 7)  (k : Okv 31 (22 * l + 5) (σ 31 0 (22 * l + 5)) → P (some (vI (σ 31 0 (22 * l + 5)))) σ) : WT e (d + 2) 141 [vR 30 0, vI l] σ P := by
  refine WT_in fun K hK => ?_
  have hK : StpY e cX6_heldOf RX6 (some .int) (WT e (d + 1)) P K := hK
  have hM := hK.1
  have hC := hK.1.1
  show K 0 [some (vR 30 0), some (vI l)] [] σ
  refine r_aload_n hC dX6_heldOf_0 rfl ?_
  refine r_iload_n hC dX6_heldOf_1 rfl ?_
  refine r_iconst hC dX6_heldOf_2 rfl ?_
  refine z_inv2 hM dX6_heldOf_3 vl_RX6_80 rfl rfl rfl (Nat.le_of_ble_eq_true rfl) (Nat.le_of_ble_eq_true rfl) ?_
  refine y_of (by omega) (by omega) (by omega) (fun oo => ?_)
  refine y_iret hK rfl dX6_heldOf_6 ?_
  exact k oo
theorem y_placeOf {eb : Bool} {t : Int} {V : Mm} {d : Nat} {P : Option Vl → Mm → Prop} {σ : Mm} {l z : Int} (b_l : 0 ≤ l ∧ l ≤ 7) {σ0 : Mm} (ht : 6 ≤ t ∧ t ≤ 7) (hR : RS t σ0 V σ) (hl : l ≤ t) (hs : So (V 8 l) (V 7 l 6)) (h6 : 0 ≤ V 7 l 6 ∧ V 7 l 6 ≤ 121)  (k : 0 ≤ hU V l z ∧ hU V l z ≤ V 7 l 6 → P (some (vI (hU V l z))) σ) : WT (true, eb, true) (d + 3) 191 [vR 30 0, vI l, vI z] σ P := by
  refine WT_in fun K hK => ?_
  have hK : StpY (true, eb, true) cX6_placeOf RX6 (some .int) (WT (true, eb, true) (d + 2)) P K := hK
  have hM := hK.1
  have hC := hK.1.1
  show K 0 [some (vR 30 0), some (vI l), some (vI z), none] [] σ
  refine r_rngz hC (fun g0 => ?_)
  have r_z : -2147483648 ≤ z ∧ z ≤ 2147483647 := inR_le (g0 (vI z) (by simp))
  refine r_iconst hC dX6_placeOf_0 rfl ?_
  refine r_istore_n hC dX6_placeOf_1 rfl ?_
  have L2 : ∀ (n2 : Nat) (w1 : Int), 0 ≤ w1 ∧ w1 ≤ 121 → ((w1) ≤ V 7 l 6) → (∀ j : Int, 0 ≤ j → j < (w1) → V 8 l j ≤ z) → 121 - w1 < (n2 : Int) → K 2 [some (vR 30 0), some (vI l), some (vI z), some (vI w1)] [] σ := by
    intro n2
    induction n2 with
    | zero => intro w1  f_w1 i0_2 i1_2 hm  ; omega
    | succ n2 ih2 =>
      intro w1  f_w1 i0_2 i1_2 hm2  
      refine r_iload_n hC dX6_placeOf_2 rfl ?_
      refine r_aload_n hC dX6_placeOf_3 rfl ?_
      refine r_iload_n hC dX6_placeOf_4 rfl ?_
      refine z_inv1 hM dX6_placeOf_5 vl_RX6_116 rfl rfl rfl (Nat.le_of_ble_eq_true rfl) (Nat.le_of_ble_eq_true rfl) ?_
      refine y_heldOf (by omega) (fun o2 => ?_)
      have e3 : σ 31 0 (22 * l + 5) = (V 7 l 6) := (hR.1.a7 (s := 6) (f := 5) (by omega) (by omega) (by omega)).trans (rfl)
      rw [e3] at o2 ⊢
      have qo2 : 0 ≤ (V 7 l 6) ∧ (V 7 l 6) ≤ 121 := o2.1 (by omega)
      refine r_icmp_ge (tgt := 32) hC dX6_placeOf_8 rfl (fun h4 => ?_) (fun h4 => ?_)
      · refine r_iload_n hC dX6_placeOf_32 rfl ?_
        refine y_iret hK rfl dX6_placeOf_33 ?_
        have hv : hU V l z = w1 := hc_up hs (by omega) (by omega) i1_2 (by omega)
        have hb := hU_b (V := V) (i := l) (t := z) (by omega)
        rw [hv] at k hb
        exact k hb
      · refine r_aload_n hC dX6_placeOf_11 rfl ?_
        refine z_getR hM dX6_placeOf_12 fl_RX6_13 rfl rfl (vld_of (n := 1) rfl (by omega) (by omega)) ?_
        refine r_bipush hC dX6_placeOf_15 rfl ?_
        refine r_iload_n hC dX6_placeOf_17 rfl ?_
        refine r_imulE hC ((121 * l)) dX6_placeOf_18 (by omega) (by unfold inR; omega) ?_
        refine r_iload_n hC dX6_placeOf_19 rfl ?_
        refine r_iaddE hC (((121 * l) + w1)) dX6_placeOf_20 (by omega) (by unfold inR; omega) ?_
        refine z_iald hM dX6_placeOf_21 rfl (by omega) (by omega) (fun v5 h_v5 o_v5 t_v5 => ?_)
        have w_v5 := ((t_v5 (Or.inl trivial)).trans ((show σ 32 0 ((121 * l) + w1) = V 8 l w1 from by rw [show ((121 * l) + w1) = 121 * l + w1 from by omega]; exact hR.1.a8 (y := w1) (by omega) (by omega) (by omega) (by omega)).trans (rfl))).symm
        subst w_v5
        refine r_iload_n hC dX6_placeOf_22 rfl ?_
        refine r_icmp_gt (tgt := 32) hC dX6_placeOf_23 rfl (fun h6 => ?_) (fun h6 => ?_)
        · refine r_iload_n hC dX6_placeOf_32 rfl ?_
          refine y_iret hK rfl dX6_placeOf_33 ?_
          have hv : hU V l z = w1 := hc_up hs (by omega) (by omega) i1_2 (by omega)
          have hb := hU_b (V := V) (i := l) (t := z) (by omega)
          rw [hv] at k hb
          exact k hb
        · refine r_iincE hC ((w1 + 1)) dX6_placeOf_26 rfl rfl (by omega) (by unfold inR; omega) ?_
          refine r_goto (tgt := 2) hC dX6_placeOf_29 rfl ?_
          exact ih2 ((w1 + 1))  (by omega) (by omega) (by first | (intro j h0 h1; omega) | (intro j h0 h1; rcases (by omega : j < w1 ∨ j = w1) with h | h; exact i1_2 j h0 h; subst h; omega)) (by omega)  
  exact L2 123 (0)  (by omega) (by omega) (by first | (intro j h0 h1; omega) | (intro j h0 h1; rcases (by omega : j < w1 ∨ j = w1) with h | h; exact i1_2 j h0 h; subst h; omega)) (by omega)  
theorem y_copyEvent {eb : Bool} {t : Int} {V : Mm} {d : Nat} {P : Option Vl → Mm → Prop} {σ : Mm} {i z : Int} (b_i : 0 ≤ i ∧ i ≤ 967) (b_z : 0 ≤ z ∧ z ≤ 967) {l a m b : Int} {σ0 : Mm} (ht : 6 ≤ t ∧ t ≤ 7) (hR : RS t σ0 V σ) (hl : 0 ≤ l ∧ l ≤ t) (hm : 0 ≤ m ∧ m ≤ t) (ha : 0 ≤ a ∧ a ≤ 120) (hb : 0 ≤ b ∧ b ≤ 120) (hi : i = 121 * l + a) (hz : z = 121 * m + b)  (k : ∀ ρ : Mm, RS t σ0 (ceM V l a m b) ρ → P none ρ) : WT (true, eb, true) (d + 1) 190 [vR 30 0, vI i, vI z] σ P := by
  refine WT_in fun K hK => ?_
  have hK : StpY (true, eb, true) cX6_copyEvent RX6 (none) (WT (true, eb, true) (d + 0)) P K := hK
  have hM := hK.1
  have hC := hK.1.1
  show K 0 [some (vR 30 0), some (vI i), some (vI z)] [] σ
  refine r_aload_n hC dX6_copyEvent_0 rfl ?_
  refine z_getR hM dX6_copyEvent_1 fl_RX6_13 rfl rfl (vld_of (n := 1) rfl (by omega) (by omega)) ?_
  refine r_iload_n hC dX6_copyEvent_4 rfl ?_
  refine r_aload_n hC dX6_copyEvent_5 rfl ?_
  refine z_getR hM dX6_copyEvent_6 fl_RX6_13 rfl rfl (vld_of (n := 1) rfl (by omega) (by omega)) ?_
  refine r_iload_n hC dX6_copyEvent_9 rfl ?_
  refine z_iald hM dX6_copyEvent_10 rfl (by omega) (by omega) (fun v1 h_v1 o_v1 t_v1 => ?_)
  have w_v1 := ((t_v1 (Or.inl trivial)).trans ((show σ 32 0 i = V 8 l a from by rw [show i = 121 * l + a from by omega]; exact hR.1.a8 (y := a) (by omega) (by omega) (by omega) (by omega)).trans (rfl))).symm
  subst w_v1
  refine z_iastT hM dX6_copyEvent_11 rfl (by omega) (by omega) ⟨Or.inr (by simp [DL]), Or.inr (by simp [DF])⟩ (by first | trivial | (simp only [Okv]; omega) | (simp [Okv]; try omega)) ?_
  obtain ⟨ρ2, e_ρ2⟩ : ∃ zz_, zz_ = mu σ 32 0 z (V 8 l a) := ⟨_, rfl⟩
  rw [← e_ρ2]
  have Sρ2 : SB t σ0 (mu V 8 m b (V 8 l a)) ρ2 := by rw [e_ρ2, show z = 121 * m + b from by omega]; exact hR.1.p8 (by omega) (by omega) (by omega) (by omega)
  have Kρ2 : KF t (mu V 8 m b (V 8 l a)) ρ2 := by rw [e_ρ2]; exact (hR.2.1).e (fun l a b => ⟨mu_ne (by omega), mu_ne (by omega)⟩) |>.v (fun l => mu_ne (by omega))
  have Fρ2 : FB (mu V 8 m b (V 8 l a)) ρ2 := by rw [e_ρ2]; exact (hR.2.2).e (fun l a b => mu_ne (by omega)) |>.v (fun l y a b c => mu_ne (by omega))
  refine r_aload_n hC dX6_copyEvent_12 rfl ?_
  refine z_getR hM dX6_copyEvent_13 fl_RX6_16 rfl rfl (vld_of (n := 1) rfl (by omega) (by omega)) ?_
  refine r_iload_n hC dX6_copyEvent_16 rfl ?_
  refine r_aload_n hC dX6_copyEvent_17 rfl ?_
  refine z_getR hM dX6_copyEvent_18 fl_RX6_16 rfl rfl (vld_of (n := 1) rfl (by omega) (by omega)) ?_
  refine r_iload_n hC dX6_copyEvent_21 rfl ?_
  refine z_iald hM dX6_copyEvent_22 rfl (by omega) (by omega) (fun v3 h_v3 o_v3 t_v3 => ?_)
  have w_v3 := ((t_v3 (Or.inl trivial)).trans ((show ρ2 33 0 i = (mu V 8 m b (V 8 l a)) 9 l a from by rw [show i = 121 * l + a from by omega]; exact Sρ2.a9 (y := a) (by omega) (by omega) (by omega) (by omega)).trans ((mu_ne (by omega)).trans (rfl)))).symm
  subst w_v3
  have q_v3 : -1000 ≤ (V 9 l a) ∧ (V 9 l a) ≤ 1000 := o_v3
  refine z_iastT hM dX6_copyEvent_23 rfl (by omega) (by omega) ⟨Or.inr (by simp [DL]), Or.inr (by simp [DF])⟩ (by first | trivial | (simp only [Okv]; omega) | (simp [Okv]; try omega)) ?_
  obtain ⟨ρ4, e_ρ4⟩ : ∃ zz_, zz_ = mu ρ2 33 0 z (V 9 l a) := ⟨_, rfl⟩
  rw [← e_ρ4]
  have Sρ4 : SB t σ0 (mu (mu V 8 m b (V 8 l a)) 9 m b (V 9 l a)) ρ4 := by rw [e_ρ4, show z = 121 * m + b from by omega]; exact Sρ2.p9 (by omega) (by omega) (by omega) (by omega)
  have Kρ4 : KF t (mu (mu V 8 m b (V 8 l a)) 9 m b (V 9 l a)) ρ4 := by rw [e_ρ4]; exact (Kρ2).e (fun l a b => ⟨mu_ne (by omega), mu_ne (by omega)⟩) |>.v (fun l => mu_ne (by omega))
  have Fρ4 : FB (mu (mu V 8 m b (V 8 l a)) 9 m b (V 9 l a)) ρ4 := by rw [e_ρ4]; exact (Fρ2).e (fun l a b => mu_ne (by omega)) |>.v (fun l y a b c => mu_ne (by omega))
  refine r_aload_n hC dX6_copyEvent_24 rfl ?_
  refine z_getR hM dX6_copyEvent_25 fl_RX6_19 rfl rfl (vld_of (n := 1) rfl (by omega) (by omega)) ?_
  refine r_iload_n hC dX6_copyEvent_28 rfl ?_
  refine r_aload_n hC dX6_copyEvent_29 rfl ?_
  refine z_getR hM dX6_copyEvent_30 fl_RX6_19 rfl rfl (vld_of (n := 1) rfl (by omega) (by omega)) ?_
  refine r_iload_n hC dX6_copyEvent_33 rfl ?_
  refine z_iald hM dX6_copyEvent_34 rfl (by omega) (by omega) (fun v5 h_v5 o_v5 t_v5 => ?_)
  have w_v5 := ((t_v5 (Or.inl trivial)).trans ((show ρ4 34 0 i = (mu (mu V 8 m b (V 8 l a)) 9 m b (V 9 l a)) 10 l a from by rw [show i = 121 * l + a from by omega]; exact Sρ4.a10 (y := a) (by omega) (by omega) (by omega) (by omega)).trans ((mu_ne (by omega)).trans ((mu_ne (by omega)).trans (rfl))))).symm
  subst w_v5
  refine z_iastT hM dX6_copyEvent_35 rfl (by omega) (by omega) ⟨Or.inr (by simp [DL]), Or.inr (by simp [DF])⟩ (by first | trivial | (simp only [Okv]; omega) | (simp [Okv]; try omega)) ?_
  obtain ⟨ρ6, e_ρ6⟩ : ∃ zz_, zz_ = mu ρ4 34 0 z (V 10 l a) := ⟨_, rfl⟩
  rw [← e_ρ6]
  have Sρ6 : SB t σ0 (mu (mu (mu V 8 m b (V 8 l a)) 9 m b (V 9 l a)) 10 m b (V 10 l a)) ρ6 := by rw [e_ρ6, show z = 121 * m + b from by omega]; exact Sρ4.p10 (by omega) (by omega) (by omega) (by omega)
  have Kρ6 : KF t (mu (mu (mu V 8 m b (V 8 l a)) 9 m b (V 9 l a)) 10 m b (V 10 l a)) ρ6 := by rw [e_ρ6]; exact (Kρ4).e (fun l a b => ⟨mu_ne (by omega), mu_ne (by omega)⟩) |>.v (fun l => mu_ne (by omega))
  have Fρ6 : FB (mu (mu (mu V 8 m b (V 8 l a)) 9 m b (V 9 l a)) 10 m b (V 10 l a)) ρ6 := by rw [e_ρ6]; exact (Fρ4).e (fun l a b => mu_ne (by omega)) |>.v (fun l y a b c => mu_ne (by omega))
  refine y_vret hK rfl dX6_copyEvent_36 ?_
  exact k _ ⟨Sρ6, Kρ6, Fρ6⟩
-- B: the reference's steps, in the class's words
/-- as KF, but for one LANE -/
def KX (t l : Int) (V ρ : Mm) : Prop := ∀ m : Int, 0 ≤ m → m ≤ t → m ≠ l → ρ 31 0 (22 * m + 16) = (if V 11 m 3 = 0 then 0 else 1) ∧ ρ 31 0 (22 * m + 17) = 0
theorem KF.kx {t : Int} {V ρ : Mm} (h : KF t V ρ) (l : Int) : KX t l V ρ := fun m a b _ => h m a b
theorem KX.kf {t l : Int} {V ρ : Mm} (h : KX t l V ρ) (h16 : ρ 31 0 (22 * l + 16) = (if V 11 l 3 = 0 then 0 else 1)) (h17 : ρ 31 0 (22 * l + 17) = 0) : KF t V ρ := fun m a b => by
  by_cases e : m = l
  · subst e; exact ⟨h16, h17⟩
  · exact h m a b e
theorem KX.e {t l : Int} {V W ρ ρ2 : Mm} (h : KX t l V ρ) (e : ∀ m : Int, 0 ≤ m → m ≤ t → m ≠ l → ρ2 31 0 (22 * m + 16) = ρ 31 0 (22 * m + 16) ∧ ρ2 31 0 (22 * m + 17) = ρ 31 0 (22 * m + 17)) (ev : ∀ m : Int, m ≠ l → W 11 m 3 = V 11 m 3) : KX t l W ρ2 := fun m a b c => by rw [(e m a b c).1, (e m a b c).2, ev m c]; exact h m a b c
theorem rem_sd {V : Mm} {l a : Int} : remM V l a = mu (sdM V l a (V 7 l 6 - 1)) 7 l 6 (V 7 l 6 - 1) := by
  funext c x y
  unfold remM remR
  by_cases hx : x = l
  · subst hx
    rw [if_pos rfl]
    by_cases h : c = 8 ∨ c = 9 ∨ c = 10
    · rw [if_pos h, mu_ne (by omega)]
      by_cases e : a ≤ y ∧ y < V 7 x 6 - 1
      · rw [if_pos e, sdM_in ⟨rfl, h, e⟩]
      · rw [if_neg e, sdM_ne (fun q => e q.2.2)]
    · rw [if_neg h]
      by_cases e : c = 7 ∧ y = 6
      · obtain ⟨rfl, rfl⟩ := e
        rw [if_pos ⟨rfl, rfl⟩, mu_self]
      · rw [if_neg e, mu_ne (by omega), sdM_ne (fun q => h q.2.1)]
  · rw [if_neg hx, mu_ne (by omega), sdM_ne (fun q => hx q.1)]
theorem ins_su {V : Mm} {l a t v z : Int} (ha : 0 ≤ a ∧ a ≤ V 7 l 6) : insM V l a t v = mu (mu (mu (mu (mu (mu (mu (suM V l a (V 7 l 6)) 8 l a t) 9 l a v) 10 l a (V 7 l 12)) 7 l 6 (V 7 l 6 + 1)) 7 l 12 (wr (V 7 l 12 + 1))) 7 l 14 (V 7 l 6 - a)) 7 l 10 (max (V 7 l 10) t) := by
  funext c x y
  by_cases hx : x = l
  · subst hx
    unfold insM insR
    rw [if_pos rfl]
    by_cases h7 : c = 7
    · subst h7
      rw [if_neg (by omega), if_neg (by omega), if_neg (by omega), if_pos rfl]
      by_cases e6 : y = 6
      · subst e6
        rw [if_pos rfl, mu_ne (by omega), mu_ne (by omega), mu_ne (by omega), mu_self]
      rw [if_neg e6]
      by_cases e12 : y = 12
      · subst e12
        rw [if_pos rfl, mu_ne (by omega), mu_ne (by omega), mu_self]
      rw [if_neg e12]
      by_cases e10 : y = 10
      · subst e10
        rw [if_pos rfl, mu_self]
      rw [if_neg e10]
      by_cases e14 : y = 14
      · subst e14
        rw [if_pos rfl, mu_ne (by omega), mu_self]
      · rw [if_neg e14, mu_ne (by omega), mu_ne (by omega), mu_ne (by omega), mu_ne (by omega), mu_ne (by omega), mu_ne (by omega), mu_ne (by omega), suM_ne (by omega)]
    · rw [mu_ne (by omega), mu_ne (by omega), mu_ne (by omega), mu_ne (by omega)]
      by_cases ey : y = a
      · subst ey
        by_cases h8 : c = 8
        · subst h8; rw [if_pos rfl, if_pos rfl, mu_ne (by omega), mu_ne (by omega), mu_self]
        by_cases h9 : c = 9
        · subst h9; rw [if_neg h8, if_pos rfl, if_pos rfl, mu_ne (by omega), mu_self]
        by_cases h10 : c = 10
        · subst h10; rw [if_neg h8, if_neg h9, if_pos rfl, if_pos rfl, mu_self]
        · rw [if_neg h8, if_neg h9, if_neg h10, if_neg h7, mu_ne (by omega), mu_ne (by omega), mu_ne (by omega), suM_ne (by omega)]
      · rw [mu_ne (by omega), mu_ne (by omega), mu_ne (by omega)]
        by_cases e : a < y ∧ y ≤ V 7 x 6
        · by_cases h8 : c = 8
          · subst h8; rw [if_pos rfl, if_neg ey, if_pos e, suM_in (by omega)]
          by_cases h9 : c = 9
          · subst h9; rw [if_neg h8, if_pos rfl, if_neg ey, if_pos e, suM_in (by omega)]
          by_cases h10 : c = 10
          · subst h10; rw [if_neg h8, if_neg h9, if_pos rfl, if_neg ey, if_pos e, suM_in (by omega)]
          · rw [if_neg h8, if_neg h9, if_neg h10, if_neg h7, suM_ne (by omega)]
        · rw [suM_ne (by omega)]
          by_cases h8 : c = 8
          · subst h8; rw [if_pos rfl, if_neg ey, if_neg e]
          by_cases h9 : c = 9
          · subst h9; rw [if_neg h8, if_pos rfl, if_neg ey, if_neg e]
          by_cases h10 : c = 10
          · subst h10; rw [if_neg h8, if_neg h9, if_pos rfl, if_neg ey, if_neg e]
          · rw [if_neg h8, if_neg h9, if_neg h10, if_neg h7]
  · unfold insM
    rw [if_neg hx, mu_ne (by omega), mu_ne (by omega), mu_ne (by omega), mu_ne (by omega), mu_ne (by omega), mu_ne (by omega), mu_ne (by omega), suM_ne (by omega)]
theorem mu_same {V : Mm} {c : Nat} {x y a : Int} (h : V c x y = a) : mu V c x y a = V := by
  funext c2 x2 y2
  by_cases e : c2 = c ∧ x2 = x ∧ y2 = y
  · obtain ⟨rfl, rfl, rfl⟩ := e
    rw [mu_self, h]
  · rw [mu_ne e]
/-- a WATCH looked at -/
theorem noM_1 {V : Mm} {w t : Int} (h : V 12 w 3 = 0) : noM V w 1 t = mu (mu (mu V 12 w 4 (wr (V 12 w 4 + 1))) 12 w 5 t) 12 w 3 1 :=
  noM_eq (fun c x y q => by rw [mu_ne (by omega), mu_ne (by omega), mu_ne (by omega)]) (by rw [mu_self]) (by rw [mu_ne (by omega), mu_ne (by omega), mu_self, if_pos ⟨rfl, h⟩]) (by rw [mu_ne (by omega), mu_self, if_pos ⟨rfl, h⟩])
theorem noM_0 {V : Mm} {w z t : Int} (h : ¬ (z = 1 ∧ V 12 w 3 = 0)) : noM V w z t = mu V 12 w 3 z :=
  noM_eq (fun c x y q => by rw [mu_ne (by omega)]) (by rw [mu_self]) (by rw [mu_ne (by omega), if_neg h]) (by rw [mu_ne (by omega), if_neg h])
theorem rgK_nf {V : Mm} {i w : Int} (h : V 12 w 0 ≠ i) : rgK V i (w + 1) = rgK V i w := by
  funext c x y
  exact rgK_no h c x y
theorem rgK_ne {V : Mm} {i n x y : Int} {c : Nat} (h : ¬ (c = 12 ∧ 3 ≤ y ∧ y ≤ 5)) : rgK V i n c x y = V c x y := by
  unfold rgK
  split
  · rename_i q
    rw [if_neg (by omega), if_neg (by omega), if_neg (by omega), q.1]
  · rfl
theorem rgK_yf {V : Mm} {i w : Int} (h0 : 0 ≤ w) (h : V 12 w 0 = i) : noM (rgK V i w) w (isR V i w) (V 7 i 10) = rgK V i (w + 1) := by
  funext c x y
  by_cases hc : c = 12
  · subst hc
    exact rgK_yes h0 h (fun _ _ => rfl) rfl rfl x y
  · rw [noM_ne (by omega), rgK_ne (by omega), rgK_ne (by omega)]
theorem rgK_0f {V : Mm} {i : Int} : rgK V i 0 = V := by
  funext c x y
  exact rgK_0 rfl c x y
theorem isR_rc {V : Mm} {l w : Int} : isR V l w = rc1 V l (V 12 w 1) (V 12 w 2) := rfl
theorem rc1_g {V W : Mm} {l w b : Int} (h16 : W 16 0 = V 16 0) (h15 : W 15 0 = V 15 0) (h7 : ∀ y : Int, W 7 l y = V 7 l y) (h9 : W 9 l = V 9 l) : rc1 W l w b = rc1 V l w b := by
  unfold rc1 nmV
  rw [h16, h15, h9, h7, h7]
-- B: the reference: shifts, FLIPS
theorem y_shiftUp {eb : Bool} {t : Int} {V : Mm} {d : Nat} {P : Option Vl → Mm → Prop} {σ : Mm} {l f : Int} (b_l : 0 ≤ l ∧ l ≤ 7) (b_f : 0 ≤ f ∧ f ≤ 120) {σ0 : Mm} (ht : 6 ≤ t ∧ t ≤ 7) (hR : RS t σ0 V σ) (hl : l ≤ t) (h6 : 0 ≤ V 7 l 6 ∧ V 7 l 6 ≤ 120) (hf : f ≤ V 7 l 6)  (k : ∀ ρ : Mm, RS t σ0 (suM V l f (V 7 l 6)) ρ → P none ρ) : WT (true, eb, true) (d + 3) 189 [vR 30 0, vI l, vI f, vI 1] σ P := by
  refine WT_in fun K hK => ?_
  have hK : StpY (true, eb, true) cX6_shift RX6 (none) (WT (true, eb, true) (d + 2)) P K := hK
  have hM := hK.1
  have hC := hK.1.1
  show K 0 [some (vR 30 0), some (vI l), some (vI f), some (vI 1), none, none] [] σ
  refine r_bipush hC dX6_shift_0 rfl ?_
  refine r_iload_n hC dX6_shift_2 rfl ?_
  refine r_imulE hC ((121 * l)) dX6_shift_3 (by omega) (by unfold inR; omega) ?_
  refine r_istore hC dX6_shift_4 rfl ?_
  refine r_iload_n hC dX6_shift_6 rfl ?_
  refine r_if_eq (tgt := 48) hC dX6_shift_7 rfl (fun h1 => by omega) (fun h1 => ?_)
  refine r_iload hC dX6_shift_10 rfl ?_
  refine r_aload_n hC dX6_shift_12 rfl ?_
  refine r_iload_n hC dX6_shift_13 rfl ?_
  refine z_inv1 hM dX6_shift_14 vl_RX6_116 rfl rfl rfl (Nat.le_of_ble_eq_true rfl) (Nat.le_of_ble_eq_true rfl) ?_
  refine y_heldOf (by omega) (fun o2 => ?_)
  have e3 : σ 31 0 (22 * l + 5) = (V 7 l 6) := (hR.1.a7 (s := 6) (f := 5) (by omega) (by omega) (by omega)).trans (rfl)
  rw [e3] at o2 ⊢
  have qo2 : 0 ≤ (V 7 l 6) ∧ (V 7 l 6) ≤ 121 := o2.1 (by omega)
  refine r_iaddE hC (((121 * l) + (V 7 l 6))) dX6_shift_17 (by omega) (by unfold inR; omega) ?_
  refine r_istore hC dX6_shift_18 rfl ?_
  have L20 : ∀ (n20 : Nat) (w4 : Int) (ρ5 W5 : Mm), 0 ≤ w4 ∧ w4 ≤ 968 → (121 * l + f ≤ (w4)) → ((w4) ≤ 121 * l + V 7 l 6) → w4 < (n20 : Int) → (RS t σ0 W5 ρ5) → (W5 = suM V l ((w4) - 121 * l) (V 7 l 6)) → K 20 [some (vR 30 0), some (vI l), some (vI f), some (vI 1), some (vI (121 * l)), some (vI w4)] [] ρ5 := by
    intro n20
    induction n20 with
    | zero => intro w4 ρ5 W5 f_w4 i0_20 i1_20 hm  m0_20 m1_20; omega
    | succ n20 ih20 =>
      intro w4 ρ5 W5 f_w4 i0_20 i1_20 hm20  m0_20 m1_20
      refine r_iload hC dX6_shift_20 rfl ?_
      refine r_iload hC dX6_shift_22 rfl ?_
      refine r_iload_n hC dX6_shift_24 rfl ?_
      refine r_iaddE hC (((121 * l) + f)) dX6_shift_25 (by omega) (by unfold inR; omega) ?_
      refine r_icmp_le (tgt := 45) hC dX6_shift_26 rfl (fun h6 => ?_) (fun h6 => ?_)
      · refine r_goto (tgt := 85) hC dX6_shift_45 rfl ?_
        refine y_vret hK rfl dX6_shift_85 ?_
        have q := m0_20
        rw [m1_20, show w4 - 121 * l = f from by omega] at q
        exact k _ q
      · refine r_aload_n hC dX6_shift_29 rfl ?_
        refine r_iload hC dX6_shift_30 rfl ?_
        refine r_iconst hC dX6_shift_32 rfl ?_
        refine r_isubE hC ((w4 - 1)) dX6_shift_33 (by omega) (by unfold inR; omega) ?_
        refine r_iload hC dX6_shift_34 rfl ?_
        refine z_inv2 hM dX6_shift_36 vl_RX6_213 rfl rfl rfl (Nat.le_of_ble_eq_true rfl) (Nat.le_of_ble_eq_true rfl) ?_
        refine y_copyEvent (l := l) (a := ((w4 - 1) - 121 * l)) (m := l) (b := (w4 - 121 * l)) (by omega) (by omega) ht ⟨m0_20.1, m0_20.2.1, m0_20.2.2⟩ (by omega) (by omega) (by omega) (by omega) (by omega) (by omega) (fun ρ7 Rρ7 => ?_)
        refine r_iincE hC ((w4 - 1)) dX6_shift_39 rfl rfl (by omega) (by unfold inR; omega) ?_
        refine r_goto (tgt := 20) hC dX6_shift_42 rfl ?_
        exact ih20 ((w4 - 1)) ρ7 (ceM W5 l ((w4 - 1) - 121 * l) l (w4 - 121 * l)) (by omega) (by omega) (by omega) (by omega)  (⟨Rρ7.1, Rρ7.2.1, Rρ7.2.2⟩) (by rw [m1_20, show w4 - 1 - 121 * l = (w4 - 121 * l) - 1 from by omega]; exact suM_s (by omega))
  exact L20 970 (((121 * l) + (V 7 l 6))) σ V (by omega) (by omega) (by omega) (by omega)  (⟨hR.1, hR.2.1, hR.2.2⟩) ((suM_0 (by omega)).symm)
theorem y_shiftDn {eb : Bool} {t : Int} {V : Mm} {d : Nat} {P : Option Vl → Mm → Prop} {σ : Mm} {l f : Int} (b_l : 0 ≤ l ∧ l ≤ 7) (b_f : 0 ≤ f ∧ f ≤ 120) {σ0 : Mm} (ht : 6 ≤ t ∧ t ≤ 7) (hR : RS t σ0 V σ) (hl : l ≤ t) (h6 : 0 ≤ V 7 l 6 ∧ V 7 l 6 ≤ 121) (hf : f < V 7 l 6)  (k : ∀ ρ : Mm, RS t σ0 (sdM V l f (V 7 l 6 - 1)) ρ → P none ρ) : WT (true, eb, true) (d + 3) 189 [vR 30 0, vI l, vI f, vI 0] σ P := by
  refine WT_in fun K hK => ?_
  have hK : StpY (true, eb, true) cX6_shift RX6 (none) (WT (true, eb, true) (d + 2)) P K := hK
  have hM := hK.1
  have hC := hK.1.1
  show K 0 [some (vR 30 0), some (vI l), some (vI f), some (vI 0), none, none] [] σ
  refine r_bipush hC dX6_shift_0 rfl ?_
  refine r_iload_n hC dX6_shift_2 rfl ?_
  refine r_imulE hC ((121 * l)) dX6_shift_3 (by omega) (by unfold inR; omega) ?_
  refine r_istore hC dX6_shift_4 rfl ?_
  refine r_iload_n hC dX6_shift_6 rfl ?_
  refine r_if_eq (tgt := 48) hC dX6_shift_7 rfl (fun h1 => ?_) (fun h1 => by omega)
  refine r_iload hC dX6_shift_48 rfl ?_
  refine r_iload_n hC dX6_shift_50 rfl ?_
  refine r_iaddE hC (((121 * l) + f)) dX6_shift_51 (by omega) (by unfold inR; omega) ?_
  refine r_istore hC dX6_shift_52 rfl ?_
  have L54 : ∀ (n54 : Nat) (w2 : Int) (ρ3 W3 : Mm), 0 ≤ w2 ∧ w2 ≤ 968 → (121 * l + f ≤ (w2)) → ((w2) + 1 ≤ 121 * l + V 7 l 6) → 968 - w2 < (n54 : Int) → (RS t σ0 W3 ρ3) → (W3 = sdM V l f ((w2) - 121 * l)) → K 54 [some (vR 30 0), some (vI l), some (vI f), some (vI 0), some (vI (121 * l)), some (vI w2)] [] ρ3 := by
    intro n54
    induction n54 with
    | zero => intro w2 ρ3 W3 f_w2 i0_54 i1_54 hm  m0_54 m1_54; omega
    | succ n54 ih54 =>
      intro w2 ρ3 W3 f_w2 i0_54 i1_54 hm54  m0_54 m1_54
      have w6 : W3 7 l 6 = V 7 l 6 := by rw [m1_54]; exact sdM_ne (by omega)
      refine r_iload hC dX6_shift_54 rfl ?_
      refine r_iconst hC dX6_shift_56 rfl ?_
      refine r_iaddE hC ((w2 + 1)) dX6_shift_57 (by omega) (by unfold inR; omega) ?_
      refine r_iload hC dX6_shift_58 rfl ?_
      refine r_aload_n hC dX6_shift_60 rfl ?_
      refine r_iload_n hC dX6_shift_61 rfl ?_
      refine z_inv1 hM dX6_shift_62 vl_RX6_116 rfl rfl rfl (Nat.le_of_ble_eq_true rfl) (Nat.le_of_ble_eq_true rfl) ?_
      refine y_heldOf (by omega) (fun o4 => ?_)
      have e5 : ρ3 31 0 (22 * l + 5) = (W3 7 l 6) := (m0_54.1.a7 (s := 6) (f := 5) (by omega) (by omega) (by omega)).trans (rfl)
      rw [e5] at o4 ⊢
      have qo4 : 0 ≤ (W3 7 l 6) ∧ (W3 7 l 6) ≤ 121 := o4.1 (by omega)
      refine r_iaddE hC (((121 * l) + (W3 7 l 6))) dX6_shift_65 (by omega) (by unfold inR; omega) ?_
      refine r_icmp_ge (tgt := 85) hC dX6_shift_66 rfl (fun h6 => ?_) (fun h6 => ?_)
      · refine y_vret hK rfl dX6_shift_85 ?_
        have q := m0_54
        rw [m1_54, show w2 - 121 * l = V 7 l 6 - 1 from by omega] at q
        exact k _ q
      · refine r_aload_n hC dX6_shift_69 rfl ?_
        refine r_iload hC dX6_shift_70 rfl ?_
        refine r_iconst hC dX6_shift_72 rfl ?_
        refine r_iaddE hC ((w2 + 1)) dX6_shift_73 (by omega) (by unfold inR; omega) ?_
        refine r_iload hC dX6_shift_74 rfl ?_
        refine z_inv2 hM dX6_shift_76 vl_RX6_213 rfl rfl rfl (Nat.le_of_ble_eq_true rfl) (Nat.le_of_ble_eq_true rfl) ?_
        refine y_copyEvent (l := l) (a := ((w2 + 1) - 121 * l)) (m := l) (b := (w2 - 121 * l)) (by omega) (by omega) ht ⟨m0_54.1, m0_54.2.1, m0_54.2.2⟩ (by omega) (by omega) (by omega) (by omega) (by omega) (by omega) (fun ρ7 Rρ7 => ?_)
        refine r_iincE hC ((w2 + 1)) dX6_shift_79 rfl rfl (by omega) (by unfold inR; omega) ?_
        refine r_goto (tgt := 54) hC dX6_shift_82 rfl ?_
        exact ih54 ((w2 + 1)) ρ7 (ceM W3 l ((w2 + 1) - 121 * l) l (w2 - 121 * l)) (by omega) (by omega) (by omega) (by omega)  (⟨Rρ7.1, Rρ7.2.1, Rρ7.2.2⟩) (by rw [m1_54, show w2 + 1 - 121 * l = (w2 - 121 * l) + 1 from by omega]; exact sdM_s (h := 0) (by omega))
  exact L54 970 (((121 * l) + f)) σ V (by omega) (by omega) (by omega) (by omega)  (⟨hR.1, hR.2.1, hR.2.2⟩) (by rw [show 121 * l + f - 121 * l = f from by omega]; exact (sdM_0 (by omega)).symm)
theorem mu_eq {V : Mm} {c : Nat} {x y a b : Int} (h : a = b) : mu V c x y a = mu V c x y b := by rw [h]
theorem mu_eq3 {V : Mm} {c : Nat} {x y z w a b a2 b2 d : Int} (h : a = b) (h2 : a2 = b2) : mu (mu (mu V c x y a) c x z a2) c x w d = mu (mu (mu V c x y b) c x z b2) c x w d := by rw [h, h2]
-- B: the reference: WATCHES looked at
/-- what is asked of a LANE whose WATCHES are looked at -/
def LK (V : Mm) (l : Int) : Prop := (0 ≤ V 7 l 2 ∧ V 7 l 2 ≤ 9) ∧ (0 ≤ V 7 l 6 ∧ V 7 l 6 ≤ 121) ∧ (∀ j : Int, 0 ≤ j → j ≤ 120 → -1000 ≤ V 9 l j ∧ V 9 l j ≤ 1000) ∧ (∀ j : Int, 0 ≤ j → j < 16 → 0 ≤ V 15 0 j ∧ V 15 0 j ≤ 3) ∧ (∀ w : Int, 0 ≤ w → w ≤ 7 → V 12 w 0 = l → 0 ≤ V 12 w 1 ∧ V 12 w 1 < numF (V 7 l 2)) ∧ ∀ w : Int, 0 ≤ w → w ≤ 7 → V 12 w 3 = 0 ∨ V 12 w 3 = 1
theorem LK.to {V W : Mm} {l : Int} (h : LK V l) (e : ∀ (c : Nat) (x y : Int), (c = 7 ∧ x = l ∧ (y = 2 ∨ y = 6)) ∨ (c = 9 ∧ x = l) ∨ c = 15 ∨ (c = 12 ∧ (y = 0 ∨ y = 1 ∨ y = 3)) → W c x y = V c x y) : LK W l := by
  obtain ⟨h1, h2, h3, h4, h5, h6⟩ := h
  refine ⟨?_, ?_, fun j a b => ?_, fun j a b => ?_, fun w a b c => ?_, fun w a b => ?_⟩
  · rw [e _ _ _ (by omega)]; exact h1
  · rw [e _ _ _ (by omega)]; exact h2
  · rw [e _ _ _ (by omega)]; exact h3 j a b
  · rw [e _ _ _ (by omega)]; exact h4 j a b
  · rw [e _ _ _ (by omega)] at c
    rw [e _ _ _ (by omega), e _ _ _ (by omega)]; exact h5 w a b c
  · rw [e _ _ _ (by omega)]; exact h6 w a b
theorem LK_rgK {V : Mm} {l : Int} (h : LK V l) (n : Int) : LK (rgK V l n) l := by
  obtain ⟨h1, h2, h3, h4, h5, h6⟩ := h
  refine ⟨?_, ?_, fun j a b => ?_, fun j a b => ?_, fun w a b c => ?_, fun w a b => ?_⟩
  · rw [rgK_ne (by omega)]; exact h1
  · rw [rgK_ne (by omega)]; exact h2
  · rw [rgK_ne (by omega)]; exact h3 j a b
  · rw [rgK_ne (by omega)]; exact h4 j a b
  · rw [rgK_ne (by omega)] at c
    rw [rgK_ne (by omega), rgK_ne (by omega)]; exact h5 w a b c
  · unfold rgK
    split
    · rw [if_pos rfl]; exact isR_01 V l w
    · exact h6 w a b
theorem LK.rg {V : Mm} {l : Int} (h : LK V l) : LK (rgM V l) l := by rw [← rgK_8 rfl]; exact LK_rgK h 8
theorem RS.mk2 {t : Int} {σ0 V ρ ρ2 : Mm} (h1 : SB t σ0 V ρ) (h2 : KF t V ρ) (h3 : FB V ρ) (e : ∀ (c : Nat) (x y : Int), ¬ Sc c → ρ2 c x y = ρ c x y) : RS t σ0 V ρ2 := RS.sc ⟨h1, h2, h3⟩ e
theorem y_layAll {eb : Bool} {t : Int} {V : Mm} {d : Nat} {P : Option Vl → Mm → Prop} {σ : Mm} {l : Int} (b_l : 0 ≤ l ∧ l ≤ 7) {σ0 : Mm} (ht : 6 ≤ t ∧ t ≤ 7) (hR : RS t σ0 V σ) (hl : l ≤ t) (hL : LK V l)  (k : ∀ ρ : Mm, RS t σ0 V ρ → RWP ρ (V 9 l) (V 7 l 6).toNat → P none ρ) : WT (true, eb, true) (d + 3) 155 [vR 30 0, vI l] σ P := by
  refine WT_in fun K hK => ?_
  have hK : StpY (true, eb, true) cX6_layAll RX6 (none) (WT (true, eb, true) (d + 2)) P K := hK
  have hM := hK.1
  have hC := hK.1.1
  show K 0 [some (vR 30 0), some (vI l)] [] σ
  have hop := hL.1
  have h6 := hL.2.1
  refine r_aload_n hC dX6_layAll_0 rfl ?_
  refine z_inv0 hM dX6_layAll_1 vl_RX6_113 rfl rfl rfl (Nat.le_of_ble_eq_true rfl) (Nat.le_of_ble_eq_true rfl) ?_
  refine y_clearRow ?_
  obtain ⟨ρ1, e_ρ1⟩ : ∃ zz_, zz_ = mu σ 30 0 8 0 := ⟨_, rfl⟩
  rw [← e_ρ1]
  have n_ρ1 : ∀ u : Int → Int, RWP ρ1 u 0 := fun u => RWP.nil (by rw [e_ρ1]; exact mu_self _ _ _ _ _)
  have Rρ1 : RS t σ0 V ρ1 := RS.mk2 hR.1 hR.2.1 hR.2.2 (fun c p q h => by rw [e_ρ1]; exact mu_ne (by omega))
  refine r_aload_n hC dX6_layAll_4 rfl ?_
  refine r_iload_n hC dX6_layAll_5 rfl ?_
  refine r_iconst hC dX6_layAll_6 rfl ?_
  refine r_aload_n hC dX6_layAll_7 rfl ?_
  refine r_iload_n hC dX6_layAll_8 rfl ?_
  refine z_inv1 hM dX6_layAll_9 vl_RX6_116 rfl rfl rfl (Nat.le_of_ble_eq_true rfl) (Nat.le_of_ble_eq_true rfl) ?_
  refine y_heldOf (by omega) (fun o2 => ?_)
  have e3 : ρ1 31 0 (22 * l + 5) = (V 7 l 6) := (Rρ1.1.a7 (s := 6) (f := 5) (by omega) (by omega) (by omega)).trans (rfl)
  rw [e3] at o2 ⊢
  have qo2 : 0 ≤ (V 7 l 6) ∧ (V 7 l 6) ≤ 121 := o2.1 (by omega)
  refine r_iconst hC dX6_layAll_12 rfl ?_
  refine r_isubE hC (((V 7 l 6) - 1)) dX6_layAll_13 (by omega) (by unfold inR; omega) ?_
  refine z_inv3 hM dX6_layAll_14 vl_RX6_120 rfl rfl rfl (Nat.le_of_ble_eq_true rfl) (Nat.le_of_ble_eq_true rfl) ?_
  refine y_putFrom (n := 0) (u := (V 9 l)) (by omega) (by omega) (by omega) (by omega) (by omega) (n_ρ1 (V 9 l)) (fun j a b => by rw [show (((0 : Nat) : Int) + (j - 0)) = j from by omega]; exact (Rρ1.1.a9 (y := j) (by omega) (by omega) (by omega) (by omega)).symm) (fun ρ4 g_ρ4 w_ρ4 => ?_)
  have Rρ4 : RS t σ0 V ρ4 := RS.mk2 Rρ1.1 Rρ1.2.1 Rρ1.2.2 (fun c p q h => g_ρ4 c p q (by omega))
  refine y_vret hK rfl dX6_layAll_17 ?_
  have q := w_ρ4
  rw [show (0 + (((V 7 l 6) - 1) + 1 - 0).toNat) = (V 7 l 6).toNat from by omega] at q
  exact k _ ⟨Rρ4.1, Rρ4.2.1, Rρ4.2.2⟩ q
theorem y_isReached {e : Ev} {d : Nat} {P : Option Vl → Mm → Prop} {σ : Mm} {a b : Int}   (k1 : (a ≠ NO ∧ b ≤ a) → P (some (vI 1)) σ) (k0 : ¬ (a ≠ NO ∧ b ≤ a) → P (some (vI 0)) σ) : WT e (d + 1) 173 [vI a, vI b] σ P := by
  refine WT_in fun K hK => ?_
  have hK : StpY e cX6_isReached RX6 (some .boolean) (WT e (d + 0)) P K := hK
  have hM := hK.1
  have hC := hK.1.1
  show K 0 [some (vI a), some (vI b)] [] σ
  refine r_rngz hC (fun g0 => ?_)
  have r_a : -2147483648 ≤ a ∧ a ≤ 2147483647 := inR_le (g0 (vI a) (by simp))
  have r_b : -2147483648 ≤ b ∧ b ≤ 2147483647 := inR_le (g0 (vI b) (by simp))
  refine r_iload_n hC dX6_isReached_0 rfl ?_
  refine r_ldc hC dX6_isReached_1 co_RX6_160 rfl ?_
  refine r_icmp_eq (tgt := 15) hC dX6_isReached_3 rfl (fun h1 => ?_) (fun h1 => ?_)
  · refine r_iconst hC dX6_isReached_15 rfl ?_
    refine y_zret hK rfl dX6_isReached_16 (by omega) ?_
    exact k0 (by unfold NO; omega)
  · refine r_iload_n hC dX6_isReached_6 rfl ?_
    refine r_iload_n hC dX6_isReached_7 rfl ?_
    refine r_icmp_lt (tgt := 15) hC dX6_isReached_8 rfl (fun h2 => ?_) (fun h2 => ?_)
    · refine r_iconst hC dX6_isReached_15 rfl ?_
      refine y_zret hK rfl dX6_isReached_16 (by omega) ?_
      exact k0 (by unfold NO; omega)
    · refine r_iconst hC dX6_isReached_11 rfl ?_
      refine r_goto (tgt := 16) hC dX6_isReached_12 rfl ?_
      refine y_zret hK rfl dX6_isReached_16 (by omega) ?_
      exact k1 (by unfold NO; omega)
theorem y_reachedNow {eb : Bool} {t : Int} {V : Mm} {d : Nat} {P : Option Vl → Mm → Prop} {σ : Mm} {l w b : Int} (b_l : 0 ≤ l ∧ l ≤ 7) (b_w : 0 ≤ w ∧ w ≤ 6) {σ0 : Mm} (ht : 6 ≤ t ∧ t ≤ 7) (hR : RS t σ0 V σ) (hl : l ≤ t) (hL : LK V l) (hw : w < numF (V 7 l 2))  (k : ∀ ρ : Mm, RS t σ0 V ρ → P (some (vI (rc1 V l w b))) ρ) : WT (true, eb, true) (d + 5) 184 [vR 30 0, vI l, vI w, vI b] σ P := by
  refine WT_in fun K hK => ?_
  have hK : StpY (true, eb, true) cX6_reachedNow RX6 (some .int) (WT (true, eb, true) (d + 4)) P K := hK
  have hM := hK.1
  have hC := hK.1.1
  show K 0 [some (vR 30 0), some (vI l), some (vI w), some (vI b)] [] σ
  refine r_rngz hC (fun g0 => ?_)
  have r_b : -2147483648 ≤ b ∧ b ≤ 2147483647 := inR_le (g0 (vI b) (by simp))
  have hop := hL.1
  have h6 := hL.2.1
  have hBd_ : Bd (V 9 l) (V 7 l 6).toNat := fun j a b => hL.2.2.1 j a (by omega)
  refine r_aload_n hC dX6_reachedNow_0 rfl ?_
  refine r_iload_n hC dX6_reachedNow_1 rfl ?_
  refine z_inv1 hM dX6_reachedNow_2 vl_RX6_194 rfl rfl rfl (Nat.le_of_ble_eq_true rfl) (Nat.le_of_ble_eq_true rfl) ?_
  refine y_layAll (by omega) ht ⟨hR.1, hR.2.1, hR.2.2⟩ (by omega) hL (fun ρ1 Rρ1 w_ρ1 => ?_)
  refine r_aload_n hC dX6_reachedNow_5 rfl ?_
  refine r_aload_n hC dX6_reachedNow_6 rfl ?_
  refine r_iload_n hC dX6_reachedNow_7 rfl ?_
  refine r_iconst hC dX6_reachedNow_8 rfl ?_
  refine z_inv2 hM dX6_reachedNow_9 vl_RX6_80 rfl rfl rfl (Nat.le_of_ble_eq_true rfl) (Nat.le_of_ble_eq_true rfl) ?_
  refine y_of (by omega) (by omega) (by omega) (fun o2 => ?_)
  have e3 : ρ1 31 0 (22 * l + 1) = (V 7 l 2) := (Rρ1.1.a7 (s := 2) (f := 1) (by omega) (by omega) (by omega)).trans (rfl)
  rw [e3] at o2 ⊢
  refine r_iload_n hC dX6_reachedNow_12 rfl ?_
  refine z_inv2 hM dX6_reachedNow_13 vl_RX6_197 rfl rfl rfl (Nat.le_of_ble_eq_true rfl) (Nat.le_of_ble_eq_true rfl) ?_
  refine y_comes (n := (V 7 l 6).toNat) (u := (V 9 l)) (by omega) (by omega) (by omega) (by omega) w_ρ1 hBd_ (fun ρ4 g_ρ4 => ?_)
  rw [cm_t (fun j a b => Rρ1.1.t16 a b) (fun j a b => Rρ1.1.t15 a b) (fun j a b => by rw [Rρ1.1.t15 a (by omega)]; exact hL.2.2.2.1 j a b)]
  have Rρ4 : RS t σ0 V ρ4 := RS.mk2 Rρ1.1 Rρ1.2.1 Rρ1.2.2 (fun c p q h => g_ρ4 c p q (by omega))
  refine r_iload_n hC dX6_reachedNow_16 rfl ?_
  refine z_ins2 hM dX6_reachedNow_17 tl_RX6_200 rfl (Nat.le_of_ble_eq_true rfl) (Nat.le_of_ble_eq_true rfl) ?_
  refine y_isReached (fun h5 => ?_) (fun h5 => ?_)
  · refine r_if_eq (tgt := 27) hC dX6_reachedNow_20 rfl (fun h6 => by omega) (fun h6 => ?_)
    refine r_iconst hC dX6_reachedNow_23 rfl ?_
    refine r_goto (tgt := 28) hC dX6_reachedNow_24 rfl ?_
    refine y_iret hK rfl dX6_reachedNow_28 ?_
    have hv : rc1 V l w b = 1 := if_pos h5
    rw [hv] at k
    exact k _ ⟨Rρ4.1, Rρ4.2.1, Rρ4.2.2⟩
  · refine r_if_eq (tgt := 27) hC dX6_reachedNow_20 rfl (fun h7 => ?_) (fun h7 => by omega)
    refine r_iconst hC dX6_reachedNow_27 rfl ?_
    refine y_iret hK rfl dX6_reachedNow_28 ?_
    have hv : rc1 V l w b = 0 := if_neg h5
    rw [hv] at k
    exact k _ ⟨Rρ4.1, Rρ4.2.1, Rρ4.2.2⟩
theorem y_look {eb : Bool} {t : Int} {V : Mm} {d : Nat} {P : Option Vl → Mm → Prop} {σ : Mm} {l : Int} (b_l : 0 ≤ l ∧ l ≤ 7) {σ0 : Mm} (ht : 6 ≤ t ∧ t ≤ 7) (hR : RS t σ0 V σ) (hl : l ≤ t) (hL : LK V l)  (k : ∀ ρ : Mm, RS t σ0 (rgM V l) ρ → P none ρ) : WT (true, eb, true) (d + 6) 185 [vR 30 0, vI l] σ P := by
  refine WT_in fun K hK => ?_
  have hK : StpY (true, eb, true) cX6_look RX6 (none) (WT (true, eb, true) (d + 5)) P K := hK
  have hM := hK.1
  have hC := hK.1.1
  show K 0 [some (vR 30 0), some (vI l), none, none] [] σ
  refine r_iconst hC dX6_look_0 rfl ?_
  refine r_istore_n hC dX6_look_1 rfl ?_
  have L2 : ∀ (n2 : Nat) (w1 : Int) (ρ2 W2 : Mm), 0 ≤ w1 ∧ w1 ≤ 8 → 8 - w1 < (n2 : Int) → (RS t σ0 W2 ρ2) → (W2 = rgK V l (w1)) → K 2 [some (vR 30 0), some (vI l), some (vI w1), none] [] ρ2 := by
    intro n2
    induction n2 with
    | zero => intro w1 ρ2 W2 f_w1  hm  m0_2 m1_2; omega
    | succ n2 ih2 =>
      intro w1 ρ2 W2 f_w1  hm2  m0_2 m1_2
      refine r_iload_n hC dX6_look_2 rfl ?_
      refine r_bipush hC dX6_look_3 rfl ?_
      refine r_icmp_ge (tgt := 85) hC dX6_look_5 rfl (fun h3 => ?_) (fun h3 => ?_)
      · refine y_vret hK rfl dX6_look_85 ?_
        have q := m0_2
        rw [m1_2, rgK_8 (by omega)] at q
        exact k _ q
      · refine r_aload_n hC dX6_look_8 rfl ?_
        have e0 : W2 12 w1 0 = V 12 w1 0 := by rw [m1_2]; exact rgK_lo (by omega)
        have e3 : W2 12 w1 3 = V 12 w1 3 := by rw [m1_2]; exact rgK_up (by omega)
        have e10 : W2 7 l 10 = V 7 l 10 := by rw [m1_2]; exact rgK_ne (by omega)
        have e01w := hL.2.2.2.2.2 w1 (by omega) (by omega)
        refine z_getR hM dX6_look_9 fl_RX6_34 rfl rfl (vld_of (n := 1) rfl (by omega) (by omega)) ?_
        refine r_iload_n hC dX6_look_12 rfl ?_
        refine z_iald hM dX6_look_13 rfl (by omega) (by omega) (fun v4 h_v4 o_v4 t_v4 => ?_)
        have w_v4 := ((t_v4 (Or.inl (by simp [Tb]))).trans ((m0_2.1.w0 (by omega) (by omega)).trans (rfl))).symm
        subst w_v4
        refine r_iload_n hC dX6_look_14 rfl ?_
        refine r_icmp_eq (tgt := 21) hC dX6_look_15 rfl (fun h5 => ?_) (fun h5 => ?_)
        · refine r_aload_n hC dX6_look_21 rfl ?_
          refine r_iload_n hC dX6_look_22 rfl ?_
          refine r_aload_n hC dX6_look_23 rfl ?_
          refine z_getR hM dX6_look_24 fl_RX6_37 rfl rfl (vld_of (n := 1) rfl (by omega) (by omega)) ?_
          refine r_iload_n hC dX6_look_27 rfl ?_
          refine z_iald hM dX6_look_28 rfl (by omega) (by omega) (fun v6 h_v6 o_v6 t_v6 => ?_)
          have w_v6 := ((t_v6 (Or.inl (by simp [Tb]))).trans ((m0_2.1.w1 (by omega) (by omega)).trans (rfl))).symm
          subst w_v6
          have q_v6 : 0 ≤ (W2 12 w1 1) ∧ (W2 12 w1 1) ≤ 6 := o_v6
          refine r_aload_n hC dX6_look_29 rfl ?_
          refine z_getR hM dX6_look_30 fl_RX6_40 rfl rfl (vld_of (n := 1) rfl (by omega) (by omega)) ?_
          refine r_iload_n hC dX6_look_33 rfl ?_
          refine z_iald hM dX6_look_34 rfl (by omega) (by omega) (fun v7 h_v7 o_v7 t_v7 => ?_)
          have w_v7 := ((t_v7 (Or.inl (by simp [Tb]))).trans ((m0_2.1.w2 (by omega) (by omega)).trans (rfl))).symm
          subst w_v7
          refine z_inv3 hM dX6_look_35 vl_RX6_203 rfl rfl rfl (Nat.le_of_ble_eq_true rfl) (Nat.le_of_ble_eq_true rfl) ?_
          have hLW : LK W2 l := by rw [m1_2]; exact LK_rgK hL _
          have hq1 := hLW.2.2.2.2.1 w1 (by omega) (by omega) (by omega)
          have hq2 := numF_rng (W2 7 l 2)
          refine y_reachedNow (V := W2) (by omega) (by omega) ht ⟨m0_2.1, m0_2.2.1, m0_2.2.2⟩ (by omega) hLW (by omega) (fun ρ8 Rρ8 => ?_)
          have eis : rc1 W2 l (W2 12 w1 1) (W2 12 w1 2) = isR V l w1 := by
            rw [m1_2, rc1_g (V := V) (funext fun y => rgK_ne (by omega)) (funext fun y => rgK_ne (by omega)) (fun y => rgK_ne (by omega)) (funext fun y => rgK_ne (by omega)), rgK_lo (by omega), rgK_lo (by omega)]
            rfl
          have e01 := isR_01 V l w1
          rw [eis]
          refine r_istore_n hC dX6_look_38 rfl ?_
          refine r_iload_n hC dX6_look_39 rfl ?_
          refine r_aload_n hC dX6_look_40 rfl ?_
          refine z_getR hM dX6_look_41 fl_RX6_43 rfl rfl (vld_of (n := 1) rfl (by omega) (by omega)) ?_
          refine r_iload_n hC dX6_look_44 rfl ?_
          refine z_iald hM dX6_look_45 rfl (by omega) (by omega) (fun v9 h_v9 o_v9 t_v9 => ?_)
          have w_v9 := ((t_v9 (Or.inl (by simp [Tb]))).trans ((Rρ8.1.w3 (by omega) (by omega)).trans (rfl))).symm
          subst w_v9
          refine r_icmp_le (tgt := 72) hC dX6_look_46 rfl (fun h10 => ?_) (fun h10 => ?_)
          · refine r_aload_n hC dX6_look_72 rfl ?_
            refine z_getR hM dX6_look_73 fl_RX6_43 rfl rfl (vld_of (n := 1) rfl (by omega) (by omega)) ?_
            refine r_iload_n hC dX6_look_76 rfl ?_
            refine r_iload_n hC dX6_look_77 rfl ?_
            refine z_iastT hM dX6_look_78 rfl (by omega) (by omega) ⟨Or.inr (by simp [DL]), Or.inr (by simp [DF])⟩ (by first | trivial | (simp only [Okv]; omega) | (simp [Okv]; try omega)) ?_
            obtain ⟨ρ11, e_ρ11⟩ : ∃ zz_, zz_ = mu ρ8 42 0 w1 (isR V l w1) := ⟨_, rfl⟩
            rw [← e_ρ11]
            have Sρ11 : SB t σ0 (mu W2 12 w1 3 (isR V l w1)) ρ11 := by rw [e_ρ11]; exact Rρ8.1.pw3 (by omega) (by omega)
            have Kρ11 : KF t (mu W2 12 w1 3 (isR V l w1)) ρ11 := by rw [e_ρ11]; exact (Rρ8.2.1).e (fun l a b => ⟨mu_ne (by omega), mu_ne (by omega)⟩) |>.v (fun l => mu_ne (by omega))
            have Fρ11 : FB (mu W2 12 w1 3 (isR V l w1)) ρ11 := by rw [e_ρ11]; exact (Rρ8.2.2).e (fun l a b => mu_ne (by omega)) |>.v (fun l y a b c => mu_ne (by omega))
            refine r_iincE hC ((w1 + 1)) dX6_look_79 rfl rfl (by omega) (by unfold inR; omega) ?_
            refine r_goto (tgt := 2) hC dX6_look_82 rfl ?_
            refine r_forget hC (ls2 := [some (vR 30 0), some (vI l), some (vI (w1 + 1)), none]) (lsub_some (lsub_some (lsub_some (lsub_none lsub_nil)))) ?_
            exact ih2 ((w1 + 1)) ρ11 (mu W2 12 w1 3 (isR V l w1)) (by omega)  (by omega)  (⟨Sρ11, Kρ11, Fρ11⟩) (by rw [← rgK_yf (by omega) (by omega), ← m1_2, noM_0 (by omega)])
          · refine r_aload_n hC dX6_look_49 rfl ?_
            refine z_getR hM dX6_look_50 fl_RX6_46 rfl rfl (vld_of (n := 1) rfl (by omega) (by omega)) ?_
            refine r_iload_n hC dX6_look_53 rfl ?_
            refine r_dup2 hC dX6_look_54 rfl rfl ?_
            refine z_iald hM dX6_look_55 rfl (by omega) (by omega) (fun v12 h_v12 o_v12 t_v12 => ?_)
            have w_v12 := ((t_v12 (Or.inl (by simp [Tb]))).trans ((Rρ8.1.w4 (by omega) (by omega)).trans (rfl))).symm
            subst w_v12
            refine r_iconst hC dX6_look_56 rfl ?_
            refine r_iadd hC dX6_look_57 ?_
            have f13 := inR_le (inR_wr ((W2 12 w1 4) + 1))
            refine z_iastT hM dX6_look_58 rfl (by omega) (by omega) ⟨Or.inr (by simp [DL]), Or.inr (by simp [DF])⟩ (by first | trivial | (simp only [Okv]; omega) | (simp [Okv]; try omega)) ?_
            obtain ⟨ρ14, e_ρ14⟩ : ∃ zz_, zz_ = mu ρ8 43 0 w1 (wr ((W2 12 w1 4) + 1)) := ⟨_, rfl⟩
            rw [← e_ρ14]
            have Sρ14 : SB t σ0 (mu W2 12 w1 4 (wr ((W2 12 w1 4) + 1))) ρ14 := by rw [e_ρ14]; exact Rρ8.1.pw4 (by omega) (by omega)
            have Kρ14 : KF t (mu W2 12 w1 4 (wr ((W2 12 w1 4) + 1))) ρ14 := by rw [e_ρ14]; exact (Rρ8.2.1).e (fun l a b => ⟨mu_ne (by omega), mu_ne (by omega)⟩) |>.v (fun l => mu_ne (by omega))
            have Fρ14 : FB (mu W2 12 w1 4 (wr ((W2 12 w1 4) + 1))) ρ14 := by rw [e_ρ14]; exact (Rρ8.2.2).e (fun l a b => mu_ne (by omega)) |>.v (fun l y a b c => mu_ne (by omega))
            refine r_aload_n hC dX6_look_59 rfl ?_
            refine z_getR hM dX6_look_60 fl_RX6_49 rfl rfl (vld_of (n := 1) rfl (by omega) (by omega)) ?_
            refine r_iload_n hC dX6_look_63 rfl ?_
            refine r_aload_n hC dX6_look_64 rfl ?_
            refine r_iload_n hC dX6_look_65 rfl ?_
            refine r_bipush hC dX6_look_66 rfl ?_
            refine z_inv2 hM dX6_look_68 vl_RX6_80 rfl rfl rfl (Nat.le_of_ble_eq_true rfl) (Nat.le_of_ble_eq_true rfl) ?_
            refine y_of (by omega) (by omega) (by omega) (fun o15 => ?_)
            have e16 : ρ14 31 0 (22 * l + 6) = (W2 7 l 10) := (Sρ14.a7 (s := 10) (f := 6) (by omega) (by omega) (by omega)).trans ((mu_ne (by omega)).trans (rfl))
            rw [e16] at o15 ⊢
            refine z_iastT hM dX6_look_71 rfl (by omega) (by omega) ⟨Or.inr (by simp [DL]), Or.inr (by simp [DF])⟩ (by first | trivial | (simp only [Okv]; omega) | (simp [Okv]; try omega)) ?_
            obtain ⟨ρ17, e_ρ17⟩ : ∃ zz_, zz_ = mu ρ14 44 0 w1 (W2 7 l 10) := ⟨_, rfl⟩
            rw [← e_ρ17]
            have Sρ17 : SB t σ0 (mu (mu W2 12 w1 4 (wr ((W2 12 w1 4) + 1))) 12 w1 5 (W2 7 l 10)) ρ17 := by rw [e_ρ17]; exact Sρ14.pw5 (by omega) (by omega)
            have Kρ17 : KF t (mu (mu W2 12 w1 4 (wr ((W2 12 w1 4) + 1))) 12 w1 5 (W2 7 l 10)) ρ17 := by rw [e_ρ17]; exact (Kρ14).e (fun l a b => ⟨mu_ne (by omega), mu_ne (by omega)⟩) |>.v (fun l => mu_ne (by omega))
            have Fρ17 : FB (mu (mu W2 12 w1 4 (wr ((W2 12 w1 4) + 1))) 12 w1 5 (W2 7 l 10)) ρ17 := by rw [e_ρ17]; exact (Fρ14).e (fun l a b => mu_ne (by omega)) |>.v (fun l y a b c => mu_ne (by omega))
            refine r_aload_n hC dX6_look_72 rfl ?_
            refine z_getR hM dX6_look_73 fl_RX6_43 rfl rfl (vld_of (n := 1) rfl (by omega) (by omega)) ?_
            refine r_iload_n hC dX6_look_76 rfl ?_
            refine r_iload_n hC dX6_look_77 rfl ?_
            refine z_iastT hM dX6_look_78 rfl (by omega) (by omega) ⟨Or.inr (by simp [DL]), Or.inr (by simp [DF])⟩ (by first | trivial | (simp only [Okv]; omega) | (simp [Okv]; try omega)) ?_
            obtain ⟨ρ18, e_ρ18⟩ : ∃ zz_, zz_ = mu ρ17 42 0 w1 (isR V l w1) := ⟨_, rfl⟩
            rw [← e_ρ18]
            have Sρ18 : SB t σ0 (mu (mu (mu W2 12 w1 4 (wr ((W2 12 w1 4) + 1))) 12 w1 5 (W2 7 l 10)) 12 w1 3 (isR V l w1)) ρ18 := by rw [e_ρ18]; exact Sρ17.pw3 (by omega) (by omega)
            have Kρ18 : KF t (mu (mu (mu W2 12 w1 4 (wr ((W2 12 w1 4) + 1))) 12 w1 5 (W2 7 l 10)) 12 w1 3 (isR V l w1)) ρ18 := by rw [e_ρ18]; exact (Kρ17).e (fun l a b => ⟨mu_ne (by omega), mu_ne (by omega)⟩) |>.v (fun l => mu_ne (by omega))
            have Fρ18 : FB (mu (mu (mu W2 12 w1 4 (wr ((W2 12 w1 4) + 1))) 12 w1 5 (W2 7 l 10)) 12 w1 3 (isR V l w1)) ρ18 := by rw [e_ρ18]; exact (Fρ17).e (fun l a b => mu_ne (by omega)) |>.v (fun l y a b c => mu_ne (by omega))
            refine r_iincE hC ((w1 + 1)) dX6_look_79 rfl rfl (by omega) (by unfold inR; omega) ?_
            refine r_goto (tgt := 2) hC dX6_look_82 rfl ?_
            refine r_forget hC (ls2 := [some (vR 30 0), some (vI l), some (vI (w1 + 1)), none]) (lsub_some (lsub_some (lsub_some (lsub_none lsub_nil)))) ?_
            exact ih2 ((w1 + 1)) ρ18 (mu (mu (mu W2 12 w1 4 (wr ((W2 12 w1 4) + 1))) 12 w1 5 (W2 7 l 10)) 12 w1 3 (isR V l w1)) (by omega)  (by omega)  (⟨Sρ18, Kρ18, Fρ18⟩) (by rw [← rgK_yf (by omega) (by omega), ← m1_2, show isR V l w1 = 1 from by omega, noM_1 (by omega), e10])
        · refine r_goto (tgt := 79) hC dX6_look_18 rfl ?_
          refine r_iincE hC ((w1 + 1)) dX6_look_79 rfl rfl (by omega) (by unfold inR; omega) ?_
          refine r_goto (tgt := 2) hC dX6_look_82 rfl ?_
          exact ih2 ((w1 + 1)) ρ2 W2 (by omega)  (by omega)  (⟨m0_2.1, m0_2.2.1, m0_2.2.2⟩) (by rw [rgK_nf (by omega)]; exact m1_2)
  exact L2 10 (0) σ V (by omega)  (by omega)  (⟨hR.1, hR.2.1, hR.2.2⟩) (rgK_0f.symm)
