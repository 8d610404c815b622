-- B: the TABLE
theorem m_isIn {e : Ev} {d : Nat} {P : Option Vl → Mm → Prop} {σ : Mm} {a lo hi : Int}   (k1 : (lo ≤ a ∧ a ≤ hi) → P (some (vI 1)) σ) (k0 : ¬ (lo ≤ a ∧ a ≤ hi) → P (some (vI 0)) σ) : WT e (d + 1) 136 [vI a, vI lo, vI hi] σ P := by
  refine WT_in fun K hK => ?_
  have hK : StpY e cX6_isIn RX6 (some .boolean) (WT e (d + 0)) P K := hK
  have hM := hK.1
  have hC := hK.1.1
  show K 0 [some (vI a), some (vI lo), some (vI hi)] [] σ
  refine r_rngz hC (fun g0 => ?_)
  have r_a : -2147483648 ≤ a ∧ a ≤ 2147483647 := inR_le (g0 (vI a) (by simp))
  have r_lo : -2147483648 ≤ lo ∧ lo ≤ 2147483647 := inR_le (g0 (vI lo) (by simp))
  have r_hi : -2147483648 ≤ hi ∧ hi ≤ 2147483647 := inR_le (g0 (vI hi) (by simp))
  refine r_iload_n hC dX6_isIn_0 rfl ?_
  refine r_iload_n hC dX6_isIn_1 rfl ?_
  refine r_icmp_lt (tgt := 14) hC dX6_isIn_2 rfl (fun h1 => ?_) (fun h1 => ?_)
  · refine r_iconst hC dX6_isIn_14 rfl ?_
    refine y_zret hK rfl dX6_isIn_15 (by omega) ?_
    exact k0 (by omega)
  · refine r_iload_n hC dX6_isIn_5 rfl ?_
    refine r_iload_n hC dX6_isIn_6 rfl ?_
    refine r_icmp_gt (tgt := 14) hC dX6_isIn_7 rfl (fun h2 => ?_) (fun h2 => ?_)
    · refine r_iconst hC dX6_isIn_14 rfl ?_
      refine y_zret hK rfl dX6_isIn_15 (by omega) ?_
      exact k0 (by omega)
    · refine r_iconst hC dX6_isIn_10 rfl ?_
      refine r_goto (tgt := 15) hC dX6_isIn_11 rfl ?_
      refine y_zret hK rfl dX6_isIn_15 (by omega) ?_
      exact k1 (by omega)
def pr (k : Nat) (σ : Mm) (x y : Int) : Int := σ k 0 (4 * x + y)
def asc (k : Nat) (σ : Mm) (t : Int) : Bool := pr k σ (pr k σ (t / 16) (t / 4 % 4)) (t % 4) == pr k σ (t / 16) (pr k σ (t / 4 % 4) (t % 4))
def cntA (k : Nat) (σ : Mm) : Nat → Int
  | 0 => 0
  | n + 1 => cntA k σ n + (if asc k σ (n : Int) = true then 1 else 0)
def fstA (k : Nat) (σ : Mm) : Nat → Int
  | 0 => -1
  | n + 1 => if fstA k σ n = -1 then (if asc k σ (n : Int) = true then -1 else (n : Int)) else fstA k σ n
theorem asc_yes {k : Nat} {σ : Mm} {t : Int} (h : pr k σ (pr k σ (t / 16) (t / 4 % 4)) (t % 4) = pr k σ (t / 16) (pr k σ (t / 4 % 4) (t % 4))) : asc k σ t = true := by
  unfold asc; rw [h]; exact beq_self_eq_true _
theorem asc_no {k : Nat} {σ : Mm} {t : Int} (h : ¬ pr k σ (pr k σ (t / 16) (t / 4 % 4)) (t % 4) = pr k σ (t / 16) (pr k σ (t / 4 % 4) (t % 4))) : ¬ asc k σ t = true := by
  unfold asc; intro q; exact h (eq_of_beq q)
theorem cntA_yes {k : Nat} {σ : Mm} {t : Int} (h0 : 0 ≤ t) (h : pr k σ (pr k σ (t / 16) (t / 4 % 4)) (t % 4) = pr k σ (t / 16) (pr k σ (t / 4 % 4) (t % 4))) : cntA k σ (t + 1).toNat = cntA k σ t.toNat + 1 := by
  rw [nat_succ h0]
  show cntA k σ t.toNat + (if asc k σ (t.toNat : Int) = true then 1 else 0) = _
  rw [Int.toNat_of_nonneg h0, if_pos (asc_yes h)]
theorem cntA_no {k : Nat} {σ : Mm} {t : Int} (h0 : 0 ≤ t) (h : ¬ pr k σ (pr k σ (t / 16) (t / 4 % 4)) (t % 4) = pr k σ (t / 16) (pr k σ (t / 4 % 4) (t % 4))) : cntA k σ (t + 1).toNat = cntA k σ t.toNat := by
  rw [nat_succ h0]
  show cntA k σ t.toNat + (if asc k σ (t.toNat : Int) = true then 1 else 0) = _
  rw [Int.toNat_of_nonneg h0, if_neg (asc_no h)]
  omega
theorem fstA_yes {k : Nat} {σ : Mm} {t : Int} (h0 : 0 ≤ t) (h : pr k σ (pr k σ (t / 16) (t / 4 % 4)) (t % 4) = pr k σ (t / 16) (pr k σ (t / 4 % 4) (t % 4))) : fstA k σ (t + 1).toNat = fstA k σ t.toNat := by
  rw [nat_succ h0]
  show (if fstA k σ t.toNat = -1 then (if asc k σ (t.toNat : Int) = true then -1 else (t.toNat : Int)) else fstA k σ t.toNat) = _
  rw [Int.toNat_of_nonneg h0, if_pos (asc_yes h)]
  split <;> omega
theorem fstA_new {k : Nat} {σ : Mm} {t : Int} (h0 : 0 ≤ t) (hf : fstA k σ t.toNat = -1) (h : ¬ pr k σ (pr k σ (t / 16) (t / 4 % 4)) (t % 4) = pr k σ (t / 16) (pr k σ (t / 4 % 4) (t % 4))) : fstA k σ (t + 1).toNat = t := by
  rw [nat_succ h0]
  show (if fstA k σ t.toNat = -1 then (if asc k σ (t.toNat : Int) = true then -1 else (t.toNat : Int)) else fstA k σ t.toNat) = _
  rw [Int.toNat_of_nonneg h0, if_pos hf, if_neg (asc_no h)]
theorem fstA_old {k : Nat} {σ : Mm} {t : Int} (h0 : 0 ≤ t) (hf : ¬ fstA k σ t.toNat = -1) : fstA k σ (t + 1).toNat = fstA k σ t.toNat := by
  rw [nat_succ h0]
  show (if fstA k σ t.toNat = -1 then (if asc k σ (t.toNat : Int) = true then -1 else (t.toNat : Int)) else fstA k σ t.toNat) = _
  rw [if_neg hf]
theorem fstA_stay {k : Nat} {σ : Mm} {n m : Nat} {x : Int} (h : fstA k σ n = x) (hx : x ≠ -1) (hm : n ≤ m) : fstA k σ m = x := by
  induction m with
  | zero => rw [show n = 0 from by omega] at h; exact h
  | succ m ih =>
    by_cases e : n = m + 1
    · rw [← e]; exact h
    · have q := ih (by omega)
      show (if fstA k σ m = -1 then _ else fstA k σ m) = x
      rw [if_neg (by omega)]
      exact q
theorem cnt_fst (k : Nat) (σ : Mm) (n : Nat) : cntA k σ n ≤ n ∧ (cntA k σ n = n ↔ fstA k σ n = -1) ∧ -1 ≤ fstA k σ n := by
  induction n with
  | zero => exact ⟨Int.le_refl _, by simp [cntA, fstA], by simp [fstA]⟩
  | succ n ih =>
    obtain ⟨h1, h2, h3⟩ := ih
    have e1 : cntA k σ (n + 1) = cntA k σ n + (if asc k σ (n : Int) = true then 1 else 0) := rfl
    have e2 : fstA k σ (n + 1) = (if fstA k σ n = -1 then (if asc k σ (n : Int) = true then -1 else (n : Int)) else fstA k σ n) := rfl
    rw [e1, e2]
    by_cases ha : asc k σ (n : Int) = true
    · rw [if_pos ha, if_pos ha]
      by_cases hf : fstA k σ n = -1
      · rw [if_pos hf]; have := h2.mpr hf; omega
      · rw [if_neg hf]; have : ¬ cntA k σ n = n := fun q => hf (h2.mp q); omega
    · rw [if_neg ha, if_neg ha]
      by_cases hf : fstA k σ n = -1
      · rw [if_pos hf]; have := h2.mpr hf; omega
      · rw [if_neg hf]; have : ¬ cntA k σ n = n := fun q => hf (h2.mp q); omega
def trpF (k : Nat) (σ : Mm) (w : Int) : Int := if w = 3 then cntA k σ (64 : Int).toNat else if fstA k σ (64 : Int).toNat < 0 ∨ ¬ (0 ≤ w ∧ w ≤ 2) then -1 else if w = 0 then fstA k σ (64 : Int).toNat / 16 else if w = 1 then fstA k σ (64 : Int).toNat / 4 % 4 else fstA k σ (64 : Int).toNat % 4
theorem cntA_eq {k k2 : Nat} {σ ρ : Mm} (h : ∀ j : Int, 0 ≤ j → j < 16 → σ k 0 j = ρ k2 0 j) (hb : ∀ j : Int, 0 ≤ j → j < 16 → 0 ≤ σ k 0 j ∧ σ k 0 j ≤ 3) (t : Int) (h0 : 0 ≤ t) (h1 : t < 64) : asc k σ t = asc k2 ρ t := by
  have e : ∀ x y : Int, 0 ≤ x ∧ x ≤ 3 → 0 ≤ y ∧ y ≤ 3 → pr k σ x y = pr k2 ρ x y ∧ 0 ≤ pr k σ x y ∧ pr k σ x y ≤ 3 := fun x y hx hy => ⟨h _ (by omega) (by omega), hb _ (by omega) (by omega)⟩
  have a := e (t / 16) (t / 4 % 4) (by omega) (by omega)
  have b := e (t / 4 % 4) (t % 4) (by omega) (by omega)
  have c := e (pr k σ (t / 16) (t / 4 % 4)) (t % 4) a.2 (by omega)
  have d := e (t / 16) (pr k σ (t / 4 % 4) (t % 4)) (by omega) b.2
  unfold asc
  rw [c.1, d.1, a.1, b.1]
theorem cnt_eq {k k2 : Nat} {σ ρ : Mm} (h : ∀ j : Int, 0 ≤ j → j < 16 → σ k 0 j = ρ k2 0 j) (hb : ∀ j : Int, 0 ≤ j → j < 16 → 0 ≤ σ k 0 j ∧ σ k 0 j ≤ 3) (n : Nat) (hn : n ≤ 64) : cntA k σ n = cntA k2 ρ n ∧ fstA k σ n = fstA k2 ρ n := by
  induction n with
  | zero => exact ⟨rfl, rfl⟩
  | succ n ih =>
    obtain ⟨i1, i2⟩ := ih (by omega)
    have e := cntA_eq h hb (n : Int) (by omega) (by omega)
    refine ⟨?_, ?_⟩
    · show cntA k σ n + (if asc k σ (n : Int) = true then 1 else 0) = cntA k2 ρ n + (if asc k2 ρ (n : Int) = true then 1 else 0)
      rw [i1, e]
    · show (if fstA k σ n = -1 then (if asc k σ (n : Int) = true then -1 else (n : Int)) else fstA k σ n) = (if fstA k2 ρ n = -1 then (if asc k2 ρ (n : Int) = true then -1 else (n : Int)) else fstA k2 ρ n)
      rw [i2, e]
theorem trp_eq {k k2 : Nat} {σ ρ : Mm} (h : ∀ j : Int, 0 ≤ j → j < 16 → σ k 0 j = ρ k2 0 j) (hb : ∀ j : Int, 0 ≤ j → j < 16 → 0 ≤ σ k 0 j ∧ σ k 0 j ≤ 3) (w : Int) : trpF k σ w = trpF k2 ρ w := by
  have e := cnt_eq h hb (64 : Int).toNat (by decide)
  unfold trpF
  rw [e.1, e.2]
theorem s_productX {e : Ev} {d : Nat} {P : Option Vl → Mm → Prop} {σ : Mm} {x y : Int} (b_x : 0 ≤ x ∧ x ≤ 3) (b_y : 0 ≤ y ∧ y ≤ 3)  (k : 0 ≤ pr 15 σ x y ∧ pr 15 σ x y ≤ 3 → P (some (vI (pr 15 σ x y))) σ) : WT e (d + 1) 51 [vR 2 0, vI x, vI y] σ P := by
  refine WT_in fun K hK => ?_
  have hK : StpY e cX5_product RX5 (some .int) (WT e (d + 0)) P K := hK
  have hM := hK.1
  have hC := hK.1.1
  show K 0 [some (vR 2 0), some (vI x), some (vI y)] [] σ
  refine r_aload_n hC dX5_product_0 rfl ?_
  refine z_getR hM dX5_product_1 fl_RX5_40 rfl rfl (vld_of (n := 1) rfl (by omega) (by omega)) ?_
  refine z_getR hM dX5_product_4 fl_RX5_67 rfl rfl (vld_of (n := 1) rfl (by omega) (by omega)) ?_
  refine r_iconst hC dX5_product_7 rfl ?_
  refine r_iload_n hC dX5_product_8 rfl ?_
  refine r_imulE hC ((4 * x)) dX5_product_9 (by omega) (by unfold inR; omega) ?_
  refine r_iload_n hC dX5_product_10 rfl ?_
  refine r_iaddE hC (((4 * x) + y)) dX5_product_11 (by omega) (by unfold inR; omega) ?_
  refine z_iald hM dX5_product_12 rfl (by omega) (by omega) (fun v1 h_v1 o_v1 t_v1 => ?_)
  have w_v1 := t_v1 (Or.inl trivial)
  subst w_v1
  have q_v1 : 0 ≤ (σ 15 0 ((4 * x) + y)) ∧ (σ 15 0 ((4 * x) + y)) ≤ 3 := o_v1
  refine y_iret hK rfl dX5_product_13 ?_
  exact k (by unfold pr; omega)
theorem m_productX {e : Ev} {d : Nat} {P : Option Vl → Mm → Prop} {σ : Mm} {x y : Int} (b_x : 0 ≤ x ∧ x ≤ 3) (b_y : 0 ≤ y ∧ y ≤ 3)  (k : 0 ≤ pr 35 σ x y ∧ pr 35 σ x y ≤ 3 → P (some (vI (pr 35 σ x y))) σ) : WT e (d + 1) 145 [vR 30 0, vI x, vI y] σ P := by
  refine WT_in fun K hK => ?_
  have hK : StpY e cX6_product RX6 (some .int) (WT e (d + 0)) P K := hK
  have hM := hK.1
  have hC := hK.1.1
  show K 0 [some (vR 30 0), some (vI x), some (vI y)] [] σ
  refine r_aload_n hC dX6_product_0 rfl ?_
  refine z_getR hM dX6_product_1 fl_RX6_22 rfl rfl (vld_of (n := 1) rfl (by omega) (by omega)) ?_
  refine r_iconst hC dX6_product_4 rfl ?_
  refine r_iload_n hC dX6_product_5 rfl ?_
  refine r_imulE hC ((4 * x)) dX6_product_6 (by omega) (by unfold inR; omega) ?_
  refine r_iload_n hC dX6_product_7 rfl ?_
  refine r_iaddE hC (((4 * x) + y)) dX6_product_8 (by omega) (by unfold inR; omega) ?_
  refine z_iald hM dX6_product_9 rfl (by omega) (by omega) (fun v1 h_v1 o_v1 t_v1 => ?_)
  have w_v1 := t_v1 (Or.inl trivial)
  subst w_v1
  have q_v1 : 0 ≤ (σ 35 0 ((4 * x) + y)) ∧ (σ 35 0 ((4 * x) + y)) ≤ 3 := o_v1
  refine y_iret hK rfl dX6_product_10 ?_
  exact k (by unfold pr; omega)
theorem s_associatesX {e : Ev} {d : Nat} {P : Option Vl → Mm → Prop} {σ : Mm} {x y z : Int} (b_x : 0 ≤ x ∧ x ≤ 3) (b_y : 0 ≤ y ∧ y ≤ 3) (b_z : 0 ≤ z ∧ z ≤ 3)  (k1 : (pr 15 σ (pr 15 σ x y) z = pr 15 σ x (pr 15 σ y z)) → P (some (vI 1)) σ) (k0 : ¬ (pr 15 σ (pr 15 σ x y) z = pr 15 σ x (pr 15 σ y z)) → P (some (vI 0)) σ) : WT e (d + 2) 52 [vR 2 0, vI x, vI y, vI z] σ P := by
  refine WT_in fun K hK => ?_
  have hK : StpY e cX5_associates RX5 (some .boolean) (WT e (d + 1)) P K := hK
  have hM := hK.1
  have hC := hK.1.1
  show K 0 [some (vR 2 0), some (vI x), some (vI y), some (vI z)] [] σ
  refine r_aload_n hC dX5_associates_0 rfl ?_
  refine r_aload_n hC dX5_associates_1 rfl ?_
  refine r_iload_n hC dX5_associates_2 rfl ?_
  refine r_iload_n hC dX5_associates_3 rfl ?_
  refine z_inv2 hM dX5_associates_4 vl_RX5_90 rfl rfl rfl (Nat.le_of_ble_eq_true rfl) (Nat.le_of_ble_eq_true rfl) ?_
  refine s_productX (by omega) (by omega) (fun h1 => ?_)
  refine r_iload_n hC dX5_associates_7 rfl ?_
  refine z_inv2 hM dX5_associates_8 vl_RX5_90 rfl rfl rfl (Nat.le_of_ble_eq_true rfl) (Nat.le_of_ble_eq_true rfl) ?_
  refine s_productX (by omega) (by omega) (fun h2 => ?_)
  refine r_aload_n hC dX5_associates_11 rfl ?_
  refine r_iload_n hC dX5_associates_12 rfl ?_
  refine r_aload_n hC dX5_associates_13 rfl ?_
  refine r_iload_n hC dX5_associates_14 rfl ?_
  refine r_iload_n hC dX5_associates_15 rfl ?_
  refine z_inv2 hM dX5_associates_16 vl_RX5_90 rfl rfl rfl (Nat.le_of_ble_eq_true rfl) (Nat.le_of_ble_eq_true rfl) ?_
  refine s_productX (by omega) (by omega) (fun h3 => ?_)
  refine z_inv2 hM dX5_associates_19 vl_RX5_90 rfl rfl rfl (Nat.le_of_ble_eq_true rfl) (Nat.le_of_ble_eq_true rfl) ?_
  refine s_productX (by omega) (by omega) (fun h4 => ?_)
  refine r_icmp_ne (tgt := 29) hC dX5_associates_22 rfl (fun h5 => ?_) (fun h5 => ?_)
  · refine r_iconst hC dX5_associates_29 rfl ?_
    refine y_zret hK rfl dX5_associates_30 (by omega) ?_
    exact k0 (by omega)
  · refine r_iconst hC dX5_associates_25 rfl ?_
    refine r_goto (tgt := 30) hC dX5_associates_26 rfl ?_
    refine y_zret hK rfl dX5_associates_30 (by omega) ?_
    exact k1 (by omega)
theorem m_associatesX {e : Ev} {d : Nat} {P : Option Vl → Mm → Prop} {σ : Mm} {t : Int} (b_t : 0 ≤ t ∧ t ≤ 63)  (k1 : (pr 35 σ (pr 35 σ (t / 16) (t / 4 % 4)) (t % 4) = pr 35 σ (t / 16) (pr 35 σ (t / 4 % 4) (t % 4))) → P (some (vI 1)) σ) (k0 : ¬ (pr 35 σ (pr 35 σ (t / 16) (t / 4 % 4)) (t % 4) = pr 35 σ (t / 16) (pr 35 σ (t / 4 % 4) (t % 4))) → P (some (vI 0)) σ) : WT e (d + 2) 146 [vR 30 0, vI t] σ P := by
  refine WT_in fun K hK => ?_
  have hK : StpY e cX6_associates RX6 (some .boolean) (WT e (d + 1)) P K := hK
  have hM := hK.1
  have hC := hK.1.1
  show K 0 [some (vR 30 0), some (vI t), none, none, none] [] σ
  refine r_iload_n hC dX6_associates_0 rfl ?_
  refine r_bipush hC dX6_associates_1 rfl ?_
  refine r_idivN hC dX6_associates_3 (by omega) (by omega) ?_
  refine r_istore_n hC dX6_associates_4 rfl ?_
  refine r_iload_n hC dX6_associates_5 rfl ?_
  refine r_iconst hC dX6_associates_6 rfl ?_
  refine r_idivN hC dX6_associates_7 (by omega) (by omega) ?_
  refine r_iconst hC dX6_associates_8 rfl ?_
  refine r_iremN hC dX6_associates_9 (by omega) (by omega) ?_
  refine r_istore_n hC dX6_associates_10 rfl ?_
  refine r_iload_n hC dX6_associates_11 rfl ?_
  refine r_iconst hC dX6_associates_12 rfl ?_
  refine r_iremN hC dX6_associates_13 (by omega) (by omega) ?_
  refine r_istore hC dX6_associates_14 rfl ?_
  show K _ [_, _, _, _, _] _ _
  refine r_aload_n hC dX6_associates_16 rfl ?_
  refine r_aload_n hC dX6_associates_17 rfl ?_
  refine r_iload_n hC dX6_associates_18 rfl ?_
  refine r_iload_n hC dX6_associates_19 rfl ?_
  refine z_inv2 hM dX6_associates_20 vl_RX6_88 rfl rfl rfl (Nat.le_of_ble_eq_true rfl) (Nat.le_of_ble_eq_true rfl) ?_
  refine m_productX (by omega) (by omega) (fun h1 => ?_)
  refine r_iload hC dX6_associates_23 rfl ?_
  refine z_inv2 hM dX6_associates_25 vl_RX6_88 rfl rfl rfl (Nat.le_of_ble_eq_true rfl) (Nat.le_of_ble_eq_true rfl) ?_
  refine m_productX (by omega) (by omega) (fun h2 => ?_)
  refine r_aload_n hC dX6_associates_28 rfl ?_
  refine r_iload_n hC dX6_associates_29 rfl ?_
  refine r_aload_n hC dX6_associates_30 rfl ?_
  refine r_iload_n hC dX6_associates_31 rfl ?_
  refine r_iload hC dX6_associates_32 rfl ?_
  refine z_inv2 hM dX6_associates_34 vl_RX6_88 rfl rfl rfl (Nat.le_of_ble_eq_true rfl) (Nat.le_of_ble_eq_true rfl) ?_
  refine m_productX (by omega) (by omega) (fun h3 => ?_)
  refine z_inv2 hM dX6_associates_37 vl_RX6_88 rfl rfl rfl (Nat.le_of_ble_eq_true rfl) (Nat.le_of_ble_eq_true rfl) ?_
  refine m_productX (by omega) (by omega) (fun h4 => ?_)
  refine r_icmp_ne (tgt := 47) hC dX6_associates_40 rfl (fun h5 => ?_) (fun h5 => ?_)
  · refine r_iconst hC dX6_associates_47 rfl ?_
    refine y_zret hK rfl dX6_associates_48 (by omega) ?_
    exact k0 (by omega)
  · refine r_iconst hC dX6_associates_43 rfl ?_
    refine r_goto (tgt := 48) hC dX6_associates_44 rfl ?_
    refine y_zret hK rfl dX6_associates_48 (by omega) ?_
    exact k1 (by omega)
theorem s_tripleX {e : Ev} {d : Nat} {P : Option Vl → Mm → Prop} {σ : Mm} {w : Int}   (k : P (some (vI (trpF 15 σ w))) σ) : WT e (d + 3) 49 [vR 2 0, vI w] σ P := by
  refine WT_in fun K hK => ?_
  have hK : StpY e cX5_triple RX5 (some .int) (WT e (d + 2)) P K := hK
  have hM := hK.1
  have hC := hK.1.1
  show K 0 [some (vR 2 0), some (vI w), none, none, none] [] σ
  refine r_rngz hC (fun g0 => ?_)
  have r_w : -2147483648 ≤ w ∧ w ≤ 2147483647 := inR_le (g0 (vI w) (by simp))
  refine r_iload_n hC dX5_triple_0 rfl ?_
  refine r_iconst hC dX5_triple_1 rfl ?_
  refine r_iconst hC dX5_triple_2 rfl ?_
  refine z_ins3 hM dX5_triple_3 tl_RX5_59 rfl (Nat.le_of_ble_eq_true rfl) (Nat.le_of_ble_eq_true rfl) ?_
  refine s_within (fun h2 => ?_) (fun h2 => ?_)
  · refine r_if_ne (tgt := 11) hC dX5_triple_6 rfl (fun h3 => ?_) (fun h3 => by omega)
    refine r_iconst hC dX5_triple_11 rfl ?_
    refine r_istore_n hC dX5_triple_12 rfl ?_
    refine r_iconst hC dX5_triple_13 rfl ?_
    refine r_istore_n hC dX5_triple_14 rfl ?_
    refine r_iconst hC dX5_triple_15 rfl ?_
    refine r_istore hC dX5_triple_16 rfl ?_
    have L18 : ∀ (n18 : Nat) (w4 w5 w6 : Int), 0 ≤ w4 ∧ w4 ≤ 64 → 0 ≤ w5 ∧ w5 ≤ 64 → -1 ≤ w6 ∧ w6 ≤ 63 → ((w4) = cntA 15 σ ((w5)).toNat) → ((w6) = fstA 15 σ ((w5)).toNat) → ((w4) ≤ (w5)) → 64 - w5 < (n18 : Int) → K 18 [some (vR 2 0), some (vI w), some (vI w6), some (vI w4), some (vI w5)] [] σ := by
      intro n18
      induction n18 with
      | zero => intro w4 w5 w6  f_w4 f_w5 f_w6 i0_18 i1_18 i2_18 hm ; omega
      | succ n18 ih18 =>
        intro w4 w5 w6  f_w4 f_w5 f_w6 i0_18 i1_18 i2_18 hm18 
        refine r_iload hC dX5_triple_18 rfl ?_
        refine r_bipush hC dX5_triple_20 rfl ?_
        refine r_icmp_ge (tgt := 67) hC dX5_triple_22 rfl (fun h7 => ?_) (fun h7 => ?_)
        · refine r_iload_n hC dX5_triple_67 rfl ?_
          refine r_iconst hC dX5_triple_68 rfl ?_
          refine r_icmp_ne (tgt := 74) hC dX5_triple_69 rfl (fun h8 => ?_) (fun h8 => ?_)
          · refine r_iload_n hC dX5_triple_74 rfl ?_
            refine r_iconst hC dX5_triple_75 rfl ?_
            refine r_icmp_ne (tgt := 81) hC dX5_triple_76 rfl (fun h9 => ?_) (fun h9 => ?_)
            · refine r_iload_n hC dX5_triple_81 rfl ?_
              refine r_if_ne (tgt := 92) hC dX5_triple_82 rfl (fun h10 => ?_) (fun h10 => ?_)
              · refine r_iload_n hC dX5_triple_92 rfl ?_
                refine r_iconst hC dX5_triple_93 rfl ?_
                refine r_icmp_ne (tgt := 105) hC dX5_triple_94 rfl (fun h11 => ?_) (fun h11 => ?_)
                · refine r_iload_n hC dX5_triple_105 rfl ?_
                  refine r_iconst hC dX5_triple_106 rfl ?_
                  refine r_iremN hC dX5_triple_107 (by omega) (by omega) ?_
                  refine y_iret hK rfl dX5_triple_108 ?_
                  obtain rfl : w5 = 64 := by omega
                  have e : trpF 15 σ w = (w6 % 4) := by unfold trpF; (repeat' split) <;> omega
                  rw [e] at k
                  exact k
                · refine r_iload_n hC dX5_triple_97 rfl ?_
                  refine r_iconst hC dX5_triple_98 rfl ?_
                  refine r_idivN hC dX5_triple_99 (by omega) (by omega) ?_
                  refine r_iconst hC dX5_triple_100 rfl ?_
                  refine r_iremN hC dX5_triple_101 (by omega) (by omega) ?_
                  refine r_goto (tgt := 108) hC dX5_triple_102 rfl ?_
                  refine y_iret hK rfl dX5_triple_108 ?_
                  obtain rfl : w5 = 64 := by omega
                  have e : trpF 15 σ w = ((w6 / 4) % 4) := by unfold trpF; (repeat' split) <;> omega
                  rw [e] at k
                  exact k
              · refine r_iload_n hC dX5_triple_85 rfl ?_
                refine r_bipush hC dX5_triple_86 rfl ?_
                refine r_idivN hC dX5_triple_88 (by omega) (by omega) ?_
                refine r_goto (tgt := 108) hC dX5_triple_89 rfl ?_
                refine y_iret hK rfl dX5_triple_108 ?_
                obtain rfl : w5 = 64 := by omega
                have e : trpF 15 σ w = (w6 / 16) := by unfold trpF; (repeat' split) <;> omega
                rw [e] at k
                exact k
            · refine r_iconst hC dX5_triple_79 rfl ?_
              refine y_iret hK rfl dX5_triple_80 ?_
              obtain rfl : w5 = 64 := by omega
              have e : trpF 15 σ w = (-1) := by unfold trpF; (repeat' split) <;> omega
              rw [e] at k
              exact k
          · refine r_iload_n hC dX5_triple_72 rfl ?_
            refine y_iret hK rfl dX5_triple_73 ?_
            obtain rfl : w5 = 64 := by omega
            have e : trpF 15 σ w = w4 := by unfold trpF; (repeat' split) <;> omega
            rw [e] at k
            exact k
        · refine r_aload_n hC dX5_triple_25 rfl ?_
          refine r_iload hC dX5_triple_26 rfl ?_
          refine r_bipush hC dX5_triple_28 rfl ?_
          refine r_idivN hC dX5_triple_30 (by omega) (by omega) ?_
          refine r_iload hC dX5_triple_31 rfl ?_
          refine r_iconst hC dX5_triple_33 rfl ?_
          refine r_idivN hC dX5_triple_34 (by omega) (by omega) ?_
          refine r_iconst hC dX5_triple_35 rfl ?_
          refine r_iremN hC dX5_triple_36 (by omega) (by omega) ?_
          refine r_iload hC dX5_triple_37 rfl ?_
          refine r_iconst hC dX5_triple_39 rfl ?_
          refine r_iremN hC dX5_triple_40 (by omega) (by omega) ?_
          refine z_inv3 hM dX5_triple_41 vl_RX5_74 rfl rfl rfl (Nat.le_of_ble_eq_true rfl) (Nat.le_of_ble_eq_true rfl) ?_
          refine s_associatesX (by omega) (by omega) (by omega) (fun h12 => ?_) (fun h12 => ?_)
          · refine r_if_eq (tgt := 53) hC dX5_triple_44 rfl (fun h13 => by omega) (fun h13 => ?_)
            refine r_iincE hC ((w4 + 1)) dX5_triple_47 rfl rfl (by omega) (by unfold inR; omega) ?_
            refine r_goto (tgt := 61) hC dX5_triple_50 rfl ?_
            refine r_iincE hC ((w5 + 1)) dX5_triple_61 rfl rfl (by omega) (by unfold inR; omega) ?_
            refine r_goto (tgt := 18) hC dX5_triple_64 rfl ?_
            exact ih18 ((w4 + 1)) ((w5 + 1)) (w6)  (by omega) (by omega) (by omega) (by first | rfl | (rw [cntA_yes (by omega) (by assumption)]; omega) | (rw [cntA_no (by omega) (by assumption)]; omega)) (by first | rfl | (rw [fstA_yes (by omega) (by assumption)]; omega) | (rw [fstA_new (by omega) (by omega) (by assumption)]) | (rw [fstA_old (by omega) (by omega)]; omega)) (by omega) (by omega) 
          · refine r_if_eq (tgt := 53) hC dX5_triple_44 rfl (fun h14 => ?_) (fun h14 => by omega)
            refine r_iload_n hC dX5_triple_53 rfl ?_
            refine r_iconst hC dX5_triple_54 rfl ?_
            refine r_icmp_ne (tgt := 61) hC dX5_triple_55 rfl (fun h15 => ?_) (fun h15 => ?_)
            · refine r_iincE hC ((w5 + 1)) dX5_triple_61 rfl rfl (by omega) (by unfold inR; omega) ?_
              refine r_goto (tgt := 18) hC dX5_triple_64 rfl ?_
              exact ih18 (w4) ((w5 + 1)) (w6)  (by omega) (by omega) (by omega) (by first | rfl | (rw [cntA_yes (by omega) (by assumption)]; omega) | (rw [cntA_no (by omega) (by assumption)]; omega)) (by first | rfl | (rw [fstA_yes (by omega) (by assumption)]; omega) | (rw [fstA_new (by omega) (by omega) (by assumption)]) | (rw [fstA_old (by omega) (by omega)]; omega)) (by omega) (by omega) 
            · refine r_iload hC dX5_triple_58 rfl ?_
              refine r_istore_n hC dX5_triple_60 rfl ?_
              refine r_iincE hC ((w5 + 1)) dX5_triple_61 rfl rfl (by omega) (by unfold inR; omega) ?_
              refine r_goto (tgt := 18) hC dX5_triple_64 rfl ?_
              exact ih18 (w4) ((w5 + 1)) (w5)  (by omega) (by omega) (by omega) (by first | rfl | (rw [cntA_yes (by omega) (by assumption)]; omega) | (rw [cntA_no (by omega) (by assumption)]; omega)) (by first | rfl | (rw [fstA_yes (by omega) (by assumption)]; omega) | (rw [fstA_new (by omega) (by omega) (by assumption)]) | (rw [fstA_old (by omega) (by omega)]; omega)) (by omega) (by omega) 
    exact L18 66 (0) (0) ((-1))  (by omega) (by omega) (by omega) (by first | rfl | (rw [cntA_yes (by omega) (by assumption)]; omega) | (rw [cntA_no (by omega) (by assumption)]; omega)) (by first | rfl | (rw [fstA_yes (by omega) (by assumption)]; omega) | (rw [fstA_new (by omega) (by omega) (by assumption)]) | (rw [fstA_old (by omega) (by omega)]; omega)) (by omega) (by omega) 
  · refine r_if_ne (tgt := 11) hC dX5_triple_6 rfl (fun h16 => by omega) (fun h16 => ?_)
    refine r_iconst hC dX5_triple_9 rfl ?_
    refine y_iret hK rfl dX5_triple_10 ?_
    have e : trpF 15 σ w = (-1) := by unfold trpF; (repeat' split) <;> omega
    rw [e] at k
    exact k
theorem m_firstThreeX {e : Ev} {d : Nat} {P : Option Vl → Mm → Prop} {σ : Mm}   (k : P (some (vI (fstA 35 σ (64 : Int).toNat))) σ) : WT e (d + 3) 147 [vR 30 0] σ P := by
  refine WT_in fun K hK => ?_
  have hK : StpY e cX6_firstThree RX6 (some .int) (WT e (d + 2)) P K := hK
  have hM := hK.1
  have hC := hK.1.1
  show K 0 [some (vR 30 0), none] [] σ
  refine r_iconst hC dX6_firstThree_0 rfl ?_
  refine r_istore_n hC dX6_firstThree_1 rfl ?_
  have L2 : ∀ (n2 : Nat) (w1 : Int), 0 ≤ w1 ∧ w1 ≤ 64 → (-1 = fstA 35 σ ((w1)).toNat) → 64 - w1 < (n2 : Int) → K 2 [some (vR 30 0), some (vI w1)] [] σ := by
    intro n2
    induction n2 with
    | zero => intro w1  f_w1 i0_2 hm ; omega
    | succ n2 ih2 =>
      intro w1  f_w1 i0_2 hm2 
      refine r_iload_n hC dX6_firstThree_2 rfl ?_
      refine r_bipush hC dX6_firstThree_3 rfl ?_
      refine r_icmp_ge (tgt := 24) hC dX6_firstThree_5 rfl (fun h2 => ?_) (fun h2 => ?_)
      · refine r_iconst hC dX6_firstThree_24 rfl ?_
        refine y_iret hK rfl dX6_firstThree_25 ?_
        obtain rfl : w1 = 64 := by omega
        rw [← i0_2] at k
        exact k
      · refine r_aload_n hC dX6_firstThree_8 rfl ?_
        refine r_iload_n hC dX6_firstThree_9 rfl ?_
        refine z_inv1 hM dX6_firstThree_10 vl_RX6_91 rfl rfl rfl (Nat.le_of_ble_eq_true rfl) (Nat.le_of_ble_eq_true rfl) ?_
        refine m_associatesX (by omega) (fun h3 => ?_) (fun h3 => ?_)
        · refine r_if_ne (tgt := 18) hC dX6_firstThree_13 rfl (fun h4 => ?_) (fun h4 => by omega)
          refine r_iincE hC ((w1 + 1)) dX6_firstThree_18 rfl rfl (by omega) (by unfold inR; omega) ?_
          refine r_goto (tgt := 2) hC dX6_firstThree_21 rfl ?_
          exact ih2 ((w1 + 1))  (by omega) (by first | rfl | (rw [fstA_yes (by omega) (by assumption)]; omega) | (rw [fstA_new (by omega) (by omega) (by assumption)]) | (rw [fstA_old (by omega) (by omega)]; omega)) (by omega) 
        · refine r_if_ne (tgt := 18) hC dX6_firstThree_13 rfl (fun h5 => by omega) (fun h5 => ?_)
          refine r_iload_n hC dX6_firstThree_16 rfl ?_
          refine y_iret hK rfl dX6_firstThree_17 ?_
          have e := fstA_stay (m := (64 : Int).toNat) (fstA_new (k := 35) (σ := σ) (t := w1) (by omega) (by omega) (by assumption)) (by omega) (by omega)
          rw [e] at k
          exact k
  exact L2 66 (0)  (by omega) (by first | rfl | (rw [fstA_yes (by omega) (by assumption)]; omega) | (rw [fstA_new (by omega) (by omega) (by assumption)]) | (rw [fstA_old (by omega) (by omega)]; omega)) (by omega) 
theorem m_countX {e : Ev} {d : Nat} {P : Option Vl → Mm → Prop} {σ : Mm}   (k : P (some (vI (cntA 35 σ (64 : Int).toNat))) σ) : WT e (d + 3) 149 [vR 30 0] σ P := by
  refine WT_in fun K hK => ?_
  have hK : StpY e cX6_countAssociating RX6 (some .int) (WT e (d + 2)) P K := hK
  have hM := hK.1
  have hC := hK.1.1
  show K 0 [some (vR 30 0), none, none] [] σ
  refine r_iconst hC dX6_countAssociating_0 rfl ?_
  refine r_istore_n hC dX6_countAssociating_1 rfl ?_
  refine r_iconst hC dX6_countAssociating_2 rfl ?_
  refine r_istore_n hC dX6_countAssociating_3 rfl ?_
  have L4 : ∀ (n4 : Nat) (w1 w2 : Int), 0 ≤ w1 ∧ w1 ≤ 64 → 0 ≤ w2 ∧ w2 ≤ 64 → ((w1) = cntA 35 σ ((w2)).toNat) → ((w1) ≤ (w2)) → 64 - w2 < (n4 : Int) → K 4 [some (vR 30 0), some (vI w1), some (vI w2)] [] σ := by
    intro n4
    induction n4 with
    | zero => intro w1 w2  f_w1 f_w2 i0_4 i1_4 hm ; omega
    | succ n4 ih4 =>
      intro w1 w2  f_w1 f_w2 i0_4 i1_4 hm4 
      refine r_iload_n hC dX6_countAssociating_4 rfl ?_
      refine r_bipush hC dX6_countAssociating_5 rfl ?_
      refine r_icmp_ge (tgt := 32) hC dX6_countAssociating_7 rfl (fun h3 => ?_) (fun h3 => ?_)
      · refine r_iload_n hC dX6_countAssociating_32 rfl ?_
        refine y_iret hK rfl dX6_countAssociating_33 ?_
        obtain rfl : w2 = 64 := by omega
        rw [← i0_4] at k
        exact k
      · refine r_iload_n hC dX6_countAssociating_10 rfl ?_
        refine r_aload_n hC dX6_countAssociating_11 rfl ?_
        refine r_iload_n hC dX6_countAssociating_12 rfl ?_
        refine z_inv1 hM dX6_countAssociating_13 vl_RX6_91 rfl rfl rfl (Nat.le_of_ble_eq_true rfl) (Nat.le_of_ble_eq_true rfl) ?_
        refine m_associatesX (by omega) (fun h4 => ?_) (fun h4 => ?_)
        · refine r_if_eq (tgt := 23) hC dX6_countAssociating_16 rfl (fun h5 => by omega) (fun h5 => ?_)
          refine r_iconst hC dX6_countAssociating_19 rfl ?_
          refine r_goto (tgt := 24) hC dX6_countAssociating_20 rfl ?_
          refine r_iaddE hC ((w1 + 1)) dX6_countAssociating_24 (by omega) (by unfold inR; omega) ?_
          refine r_istore_n hC dX6_countAssociating_25 rfl ?_
          refine r_iincE hC ((w2 + 1)) dX6_countAssociating_26 rfl rfl (by omega) (by unfold inR; omega) ?_
          refine r_goto (tgt := 4) hC dX6_countAssociating_29 rfl ?_
          exact ih4 ((w1 + 1)) ((w2 + 1))  (by omega) (by omega) (by first | rfl | (rw [cntA_yes (by omega) (by assumption)]; omega) | (rw [cntA_no (by omega) (by assumption)]; omega)) (by omega) (by omega) 
        · refine r_if_eq (tgt := 23) hC dX6_countAssociating_16 rfl (fun h6 => ?_) (fun h6 => by omega)
          refine r_iconst hC dX6_countAssociating_23 rfl ?_
          refine r_iaddE hC (w1) dX6_countAssociating_24 (by omega) (by unfold inR; omega) ?_
          refine r_istore_n hC dX6_countAssociating_25 rfl ?_
          refine r_iincE hC ((w2 + 1)) dX6_countAssociating_26 rfl rfl (by omega) (by unfold inR; omega) ?_
          refine r_goto (tgt := 4) hC dX6_countAssociating_29 rfl ?_
          exact ih4 (w1) ((w2 + 1))  (by omega) (by omega) (by first | rfl | (rw [cntA_yes (by omega) (by assumption)]; omega) | (rw [cntA_no (by omega) (by assumption)]; omega)) (by omega) (by omega) 
  exact L4 66 (0) (0)  (by omega) (by omega) (by first | rfl | (rw [cntA_yes (by omega) (by assumption)]; omega) | (rw [cntA_no (by omega) (by assumption)]; omega)) (by omega) (by omega) 
theorem fst_bd (k : Nat) (σ : Mm) : -1 ≤ fstA k σ (64 : Int).toNat ∧ fstA k σ (64 : Int).toNat ≤ 63 := by
  have h : ∀ n : Nat, -1 ≤ fstA k σ n ∧ (fstA k σ n < n ∨ fstA k σ n = -1) := by
    intro n
    induction n with
    | zero => exact ⟨by simp [fstA], Or.inr rfl⟩
    | succ n ih =>
      show -1 ≤ (if fstA k σ n = -1 then (if asc k σ (n : Int) = true then -1 else (n : Int)) else fstA k σ n) ∧ _
      have e : fstA k σ (n + 1) = (if fstA k σ n = -1 then (if asc k σ (n : Int) = true then -1 else (n : Int)) else fstA k σ n) := rfl
      rw [e]
      split
      · split <;> omega
      · omega
  have := h (64 : Int).toNat
  have e : ((64 : Int).toNat : Int) = 64 := by decide
  omega
theorem m_tripleX {e : Ev} {d : Nat} {P : Option Vl → Mm → Prop} {σ : Mm} {w : Int}   (k : P (some (vI (trpF 35 σ w))) σ) : WT e (d + 4) 148 [vR 30 0, vI w] σ P := by
  refine WT_in fun K hK => ?_
  have hK : StpY e cX6_triple RX6 (some .int) (WT e (d + 3)) P K := hK
  have hM := hK.1
  have hC := hK.1.1
  show K 0 [some (vR 30 0), some (vI w), none] [] σ
  refine r_rngz hC (fun g0 => ?_)
  have r_w : -2147483648 ≤ w ∧ w ≤ 2147483647 := inR_le (g0 (vI w) (by simp))
  refine r_iload_n hC dX6_triple_0 rfl ?_
  refine r_iconst hC dX6_triple_1 rfl ?_
  refine r_icmp_ne (tgt := 10) hC dX6_triple_2 rfl (fun h1 => ?_) (fun h1 => ?_)
  · refine r_aload_n hC dX6_triple_10 rfl ?_
    refine z_inv0 hM dX6_triple_11 vl_RX6_98 rfl rfl rfl (Nat.le_of_ble_eq_true rfl) (Nat.le_of_ble_eq_true rfl) ?_
    refine m_firstThreeX ?_
    have bf := fst_bd 35 σ
    refine r_istore_n hC dX6_triple_14 rfl ?_
    refine r_iload_n hC dX6_triple_15 rfl ?_
    refine r_if_lt (tgt := 28) hC dX6_triple_16 rfl (fun h2 => ?_) (fun h2 => ?_)
    · refine r_iconst hC dX6_triple_28 rfl ?_
      refine y_iret hK rfl dX6_triple_29 ?_
      have e : trpF 35 σ w = (-1) := by unfold trpF; (repeat' split) <;> omega
      rw [e] at k
      exact k
    · refine r_iload_n hC dX6_triple_19 rfl ?_
      refine r_iconst hC dX6_triple_20 rfl ?_
      refine r_iconst hC dX6_triple_21 rfl ?_
      refine z_ins3 hM dX6_triple_22 tl_RX6_76 rfl (Nat.le_of_ble_eq_true rfl) (Nat.le_of_ble_eq_true rfl) ?_
      refine m_isIn (fun h4 => ?_) (fun h4 => ?_)
      · refine r_if_ne (tgt := 30) hC dX6_triple_25 rfl (fun h5 => ?_) (fun h5 => by omega)
        refine r_iload_n hC dX6_triple_30 rfl ?_
        refine r_if_ne (tgt := 41) hC dX6_triple_31 rfl (fun h6 => ?_) (fun h6 => ?_)
        · refine r_iload_n hC dX6_triple_41 rfl ?_
          refine r_iconst hC dX6_triple_42 rfl ?_
          refine r_icmp_ne (tgt := 54) hC dX6_triple_43 rfl (fun h7 => ?_) (fun h7 => ?_)
          · refine r_iload_n hC dX6_triple_54 rfl ?_
            refine r_iconst hC dX6_triple_55 rfl ?_
            refine r_iremN hC dX6_triple_56 (by omega) (by omega) ?_
            refine y_iret hK rfl dX6_triple_57 ?_
            have e : trpF 35 σ w = ((fstA 35 σ (64 : Int).toNat) % 4) := by unfold trpF; (repeat' split) <;> omega
            rw [e] at k
            exact k
          · refine r_iload_n hC dX6_triple_46 rfl ?_
            refine r_iconst hC dX6_triple_47 rfl ?_
            refine r_idivN hC dX6_triple_48 (by omega) (by omega) ?_
            refine r_iconst hC dX6_triple_49 rfl ?_
            refine r_iremN hC dX6_triple_50 (by omega) (by omega) ?_
            refine r_goto (tgt := 57) hC dX6_triple_51 rfl ?_
            refine y_iret hK rfl dX6_triple_57 ?_
            have e : trpF 35 σ w = (((fstA 35 σ (64 : Int).toNat) / 4) % 4) := by unfold trpF; (repeat' split) <;> omega
            rw [e] at k
            exact k
        · refine r_iload_n hC dX6_triple_34 rfl ?_
          refine r_bipush hC dX6_triple_35 rfl ?_
          refine r_idivN hC dX6_triple_37 (by omega) (by omega) ?_
          refine r_goto (tgt := 57) hC dX6_triple_38 rfl ?_
          refine y_iret hK rfl dX6_triple_57 ?_
          have e : trpF 35 σ w = ((fstA 35 σ (64 : Int).toNat) / 16) := by unfold trpF; (repeat' split) <;> omega
          rw [e] at k
          exact k
      · refine r_if_ne (tgt := 30) hC dX6_triple_25 rfl (fun h8 => by omega) (fun h8 => ?_)
        refine r_iconst hC dX6_triple_28 rfl ?_
        refine y_iret hK rfl dX6_triple_29 ?_
        have e : trpF 35 σ w = (-1) := by unfold trpF; (repeat' split) <;> omega
        rw [e] at k
        exact k
  · refine r_aload_n hC dX6_triple_5 rfl ?_
    refine z_inv0 hM dX6_triple_6 vl_RX6_94 rfl rfl rfl (Nat.le_of_ble_eq_true rfl) (Nat.le_of_ble_eq_true rfl) ?_
    refine m_countX ?_
    refine y_iret hK rfl dX6_triple_9 ?_
    have e : trpF 35 σ w = (cntA 35 σ (64 : Int).toNat) := by unfold trpF; (repeat' split) <;> omega
    rw [e] at k
    exact k
-- element, told whole
def cB (p : Int → Bool) : Nat → Int
  | 0 => 0
  | n + 1 => cB p n + (if p (n : Int) = true then 1 else 0)
def fB (p : Int → Bool) : Nat → Int
  | 0 => -1
  | n + 1 => if fB p n = -1 then (if p (n : Int) = true then (n : Int) else -1) else fB p n
theorem cB_y {p : Int → Bool} {t : Int} (h0 : 0 ≤ t) (h : p t = true) : cB p (t + 1).toNat = cB p t.toNat + 1 := by
  rw [nat_succ h0]
  show cB p t.toNat + (if p (t.toNat : Int) = true then 1 else 0) = _
  rw [Int.toNat_of_nonneg h0, if_pos h]
theorem cB_n {p : Int → Bool} {t : Int} (h0 : 0 ≤ t) (h : ¬ p t = true) : cB p (t + 1).toNat = cB p t.toNat := by
  rw [nat_succ h0]
  show cB p t.toNat + (if p (t.toNat : Int) = true then 1 else 0) = _
  rw [Int.toNat_of_nonneg h0, if_neg h]
  omega
theorem cB_at {p : Int → Bool} {k t : Int} (h : k = cB p t.toNat) (ht : t = 4) : k = cB p (4 : Int).toNat := by
  subst ht; exact h
theorem fB_n {p : Int → Bool} {t : Int} (h0 : 0 ≤ t) (h : ¬ p t = true) : fB p (t + 1).toNat = fB p t.toNat := by
  rw [nat_succ h0]
  show (if fB p t.toNat = -1 then (if p (t.toNat : Int) = true then (t.toNat : Int) else -1) else fB p t.toNat) = _
  rw [Int.toNat_of_nonneg h0, if_neg h]
  split <;> omega
theorem fB_new {p : Int → Bool} {t : Int} (h0 : 0 ≤ t) (hf : fB p t.toNat = -1) (h : p t = true) : fB p (t + 1).toNat = t := by
  rw [nat_succ h0]
  show (if fB p t.toNat = -1 then (if p (t.toNat : Int) = true then (t.toNat : Int) else -1) else fB p t.toNat) = _
  rw [Int.toNat_of_nonneg h0, if_pos hf, if_pos h]
theorem fB_stay {p : Int → Bool} {n m : Nat} {x : Int} (h : fB p n = x) (hx : x ≠ -1) (hm : n ≤ m) : fB p m = x := by
  induction m with
  | zero => rw [show n = 0 from by omega] at h; exact h
  | succ m ih =>
    by_cases e : n = m + 1
    · rw [← e]; exact h
    · have q := ih (by omega)
      show (if fB p m = -1 then _ else fB p m) = x
      rw [if_neg (by omega)]
      exact q
theorem cB_all {p : Int → Bool} : ∀ n : Nat, cB p n ≤ n ∧ (cB p n = n → ∀ j : Int, 0 ≤ j → j < n → p j = true)
  | 0 => ⟨Int.le_refl _, fun _ j h0 h1 => by omega⟩
  | n + 1 => by
    obtain ⟨h1, h2⟩ := cB_all (p := p) n
    have e : cB p (n + 1) = cB p n + (if p (n : Int) = true then 1 else 0) := rfl
    by_cases hp : p (n : Int) = true
    · rw [e, if_pos hp]
      refine ⟨by omega, fun h j g0 g1 => ?_⟩
      by_cases hj : j = n
      · rw [hj]; exact hp
      · exact h2 (by omega) j g0 (by omega)
    · rw [e, if_neg hp]
      exact ⟨by omega, fun h => by omega⟩
def its (w e x : Int) : Int := if w = 0 then x else e
def pb (k : Nat) (σ : Mm) (w e x : Int) : Bool := pr k σ e x == its w e x && pr k σ x e == its w e x
def qq (k : Nat) (σ : Mm) (w e : Int) : Bool := decide (cB (pb k σ w e) (4 : Int).toNat = 4)
theorem pb_y {k : Nat} {σ : Mm} {w e x i : Int} (hi : its w e x = i) (h1 : pr k σ e x = i) (h2 : pr k σ x e = i) : pb k σ w e x = true := by
  unfold pb; rw [hi, h1, h2]; simp
theorem pb_n1 {k : Nat} {σ : Mm} {w e x i : Int} (hi : its w e x = i) (h1 : ¬ pr k σ e x = i) : ¬ pb k σ w e x = true := by
  unfold pb; rw [hi]; intro q; simp at q; exact h1 q.1
theorem pb_n2 {k : Nat} {σ : Mm} {w e x i : Int} (hi : its w e x = i) (h1 : ¬ pr k σ x e = i) : ¬ pb k σ w e x = true := by
  unfold pb; rw [hi]; intro q; simp at q; exact h1 q.2
theorem qq_y {k : Nat} {σ : Mm} {w e c : Int} (h : c = cB (pb k σ w e) (4 : Int).toNat) (hc : c = 4) : qq k σ w e = true := by
  unfold qq; rw [← h]; exact decide_eq_true hc
theorem qq_n {k : Nat} {σ : Mm} {w e c : Int} (h : c = cB (pb k σ w e) (4 : Int).toNat) (hc : ¬ c = 4) : ¬ qq k σ w e = true := by
  unfold qq; rw [← h]; intro q; exact hc (of_decide_eq_true q)
theorem qq_no {k : Nat} {σ : Mm} {w e x : Int} (h0 : 0 ≤ x) (h1 : x < 4) (h : ¬ pb k σ w e x = true) : ¬ qq k σ w e = true := by
  unfold qq
  intro q
  have e4 : ((4 : Int).toNat : Int) = 4 := by decide
  exact h ((cB_all (p := pb k σ w e) (4 : Int).toNat).2 ((of_decide_eq_true q).trans (by decide)) x h0 (by omega))
def ip (k : Nat) (σ : Mm) (x : Int) : Bool := pr k σ x x == x
theorem ip_y {k : Nat} {σ : Mm} {x : Int} (h : pr k σ x x = x) : ip k σ x = true := by unfold ip; rw [h]; exact beq_self_eq_true _
theorem ip_n {k : Nat} {σ : Mm} {x : Int} (h : ¬ pr k σ x x = x) : ¬ ip k σ x = true := by unfold ip; intro q; exact h (eq_of_beq q)
def cq (k : Nat) (σ : Mm) (v : Int) : Bool := pr k σ (v / 4) (v % 4) == pr k σ (v % 4) (v / 4)
theorem cq_y {k : Nat} {σ : Mm} {v : Int} (h : pr k σ (v / 4) (v % 4) = pr k σ (v % 4) (v / 4)) : cq k σ v = true := by unfold cq; rw [h]; exact beq_self_eq_true _
theorem cq_n {k : Nat} {σ : Mm} {v : Int} (h : ¬ pr k σ (v / 4) (v % 4) = pr k σ (v % 4) (v / 4)) : ¬ cq k σ v = true := by unfold cq; intro q; exact h (eq_of_beq q)
theorem cq_y2 {k : Nat} {σ : Mm} {x y : Int} (h0 : 0 ≤ y ∧ y < 4) (h : pr k σ x y = pr k σ y x) : cq k σ (4 * x + y) = true := cq_y (by rw [show (4 * x + y) / 4 = x from by omega, show (4 * x + y) % 4 = y from by omega]; exact h)
theorem cq_n2 {k : Nat} {σ : Mm} {x y : Int} (h0 : 0 ≤ y ∧ y < 4) (h : ¬ pr k σ x y = pr k σ y x) : ¬ cq k σ (4 * x + y) = true := cq_n (by rw [show (4 * x + y) / 4 = x from by omega, show (4 * x + y) % 4 = y from by omega]; exact h)
def elF (k : Nat) (σ : Mm) (w : Int) : Int := if w = 0 then fB (qq k σ 0) (4 : Int).toNat else if w = 1 then fB (qq k σ 1) (4 : Int).toNat else if w = 2 then cB (ip k σ) (4 : Int).toNat else if w = 3 then cB (cq k σ) (16 : Int).toNat else -1
theorem cB_eq {p q : Int → Bool} : ∀ n : Nat, (∀ j : Int, 0 ≤ j → j < n → p j = q j) → cB p n = cB q n
  | 0, _ => rfl
  | n + 1, h => by
    show cB p n + (if p (n : Int) = true then 1 else 0) = cB q n + (if q (n : Int) = true then 1 else 0)
    rw [cB_eq n fun j h0 h1 => h j h0 (by omega), h n (by omega) (by omega)]
theorem fB_eq {p q : Int → Bool} : ∀ n : Nat, (∀ j : Int, 0 ≤ j → j < n → p j = q j) → fB p n = fB q n
  | 0, _ => rfl
  | n + 1, h => by
    show (if fB p n = -1 then (if p (n : Int) = true then (n : Int) else -1) else fB p n) = (if fB q n = -1 then (if q (n : Int) = true then (n : Int) else -1) else fB q n)
    rw [fB_eq n fun j h0 h1 => h j h0 (by omega), h n (by omega) (by omega)]
theorem s_firstNeutralX {e : Ev} {d : Nat} {P : Option Vl → Mm → Prop} {σ : Mm}   (k : P (some (vI (fB (qq 15 σ 0) (4 : Int).toNat))) σ) : WT e (d + 2) 53 [vR 2 0] σ P := by
  refine WT_in fun K hK => ?_
  have hK : StpY e cX5_firstNeutral RX5 (some .int) (WT e (d + 1)) P K := hK
  have hM := hK.1
  have hC := hK.1.1
  show K 0 [some (vR 2 0), none, none, none] [] σ
  refine r_iconst hC dX5_firstNeutral_0 rfl ?_
  refine r_istore_n hC dX5_firstNeutral_1 rfl ?_
  have L2 : ∀ (n2 : Nat) (w1 : Int), 0 ≤ w1 ∧ w1 ≤ 4 → (-1 = fB (qq 15 σ 0) ((w1)).toNat) → 4 - w1 < (n2 : Int) → K 2 [some (vR 2 0), some (vI w1), none, none] [] σ := by
    intro n2
    induction n2 with
    | zero => intro w1  f_w1 i0_2 hm  ; omega
    | succ n2 ih2 =>
      intro w1  f_w1 i0_2 hm2  
      refine r_iload_n hC dX5_firstNeutral_2 rfl ?_
      refine r_iconst hC dX5_firstNeutral_3 rfl ?_
      refine r_icmp_ge (tgt := 63) hC dX5_firstNeutral_4 rfl (fun h2 => ?_) (fun h2 => ?_)
      · refine r_iconst hC dX5_firstNeutral_63 rfl ?_
        refine y_iret hK rfl dX5_firstNeutral_64 ?_
        obtain rfl : w1 = 4 := by omega
        rw [← i0_2] at k
        exact k
      · refine r_iconst hC dX5_firstNeutral_7 rfl ?_
        refine r_istore_n hC dX5_firstNeutral_8 rfl ?_
        refine r_iconst hC dX5_firstNeutral_9 rfl ?_
        refine r_istore_n hC dX5_firstNeutral_10 rfl ?_
        have L11 : ∀ (n11 : Nat) (w3 w4 : Int), 0 ≤ w3 ∧ w3 ≤ 4 → 0 ≤ w4 ∧ w4 ≤ 4 → ((w4) = cB (pb 15 σ 0 (w1)) ((w3)).toNat) → ((w4) ≤ (w3)) → 4 - w3 < (n11 : Int) → K 11 [some (vR 2 0), some (vI w1), some (vI w4), some (vI w3)] [] σ := by
          intro n11
          induction n11 with
          | zero => intro w3 w4  f_w3 f_w4 i0_11 i1_11 hm  ; omega
          | succ n11 ih11 =>
            intro w3 w4  f_w3 f_w4 i0_11 i1_11 hm11  
            refine r_iload_n hC dX5_firstNeutral_11 rfl ?_
            refine r_iconst hC dX5_firstNeutral_12 rfl ?_
            refine r_icmp_ge (tgt := 50) hC dX5_firstNeutral_13 rfl (fun h5 => ?_) (fun h5 => ?_)
            · refine r_iload_n hC dX5_firstNeutral_50 rfl ?_
              refine r_iconst hC dX5_firstNeutral_51 rfl ?_
              refine r_icmp_ne (tgt := 57) hC dX5_firstNeutral_52 rfl (fun h6 => ?_) (fun h6 => ?_)
              · refine r_iincE hC ((w1 + 1)) dX5_firstNeutral_57 rfl rfl (by omega) (by unfold inR; omega) ?_
                refine r_goto (tgt := 2) hC dX5_firstNeutral_60 rfl ?_
                refine r_forget hC (ls2 := [some (vR 2 0), some (vI (w1 + 1)), none, none]) (lsub_some (lsub_some (lsub_none (lsub_none lsub_nil)))) ?_
                exact ih2 ((w1 + 1))  (by omega) (by first | rfl | (rw [fB_n (by omega) (qq_n (cB_at i0_11 (by omega)) (by omega))]; exact i0_2)) (by omega)  
              · refine r_iload_n hC dX5_firstNeutral_55 rfl ?_
                refine y_iret hK rfl dX5_firstNeutral_56 ?_
                have e := fB_stay (m := (4 : Int).toNat) (fB_new (by omega) i0_2.symm (qq_y (cB_at i0_11 (by omega)) (by omega))) (by omega) (by omega)
                rw [e] at k
                exact k
            · refine r_iload_n hC dX5_firstNeutral_16 rfl ?_
              refine r_aload_n hC dX5_firstNeutral_17 rfl ?_
              refine r_iload_n hC dX5_firstNeutral_18 rfl ?_
              refine r_iload_n hC dX5_firstNeutral_19 rfl ?_
              refine z_inv2 hM dX5_firstNeutral_20 vl_RX5_90 rfl rfl rfl (Nat.le_of_ble_eq_true rfl) (Nat.le_of_ble_eq_true rfl) ?_
              refine s_productX (by omega) (by omega) (fun h7 => ?_)
              refine r_iload_n hC dX5_firstNeutral_23 rfl ?_
              refine r_icmp_ne (tgt := 41) hC dX5_firstNeutral_24 rfl (fun h8 => ?_) (fun h8 => ?_)
              · refine r_iconst hC dX5_firstNeutral_41 rfl ?_
                refine r_iaddE hC (w4) dX5_firstNeutral_42 (by omega) (by unfold inR; omega) ?_
                refine r_istore_n hC dX5_firstNeutral_43 rfl ?_
                refine r_iincE hC ((w3 + 1)) dX5_firstNeutral_44 rfl rfl (by omega) (by unfold inR; omega) ?_
                refine r_goto (tgt := 11) hC dX5_firstNeutral_47 rfl ?_
                exact ih11 ((w3 + 1)) (w4)  (by omega) (by omega) (by first | rfl | (rw [cB_y (by omega) (pb_y (i := w3) rfl (by assumption) (by assumption))]; omega) | (rw [cB_n (by omega) (pb_n1 (i := w3) rfl (by assumption))]; omega) | (rw [cB_n (by omega) (pb_n2 (i := w3) rfl (by assumption))]; omega)) (by omega) (by omega)  
              · refine r_aload_n hC dX5_firstNeutral_27 rfl ?_
                refine r_iload_n hC dX5_firstNeutral_28 rfl ?_
                refine r_iload_n hC dX5_firstNeutral_29 rfl ?_
                refine z_inv2 hM dX5_firstNeutral_30 vl_RX5_90 rfl rfl rfl (Nat.le_of_ble_eq_true rfl) (Nat.le_of_ble_eq_true rfl) ?_
                refine s_productX (by omega) (by omega) (fun h9 => ?_)
                refine r_iload_n hC dX5_firstNeutral_33 rfl ?_
                refine r_icmp_ne (tgt := 41) hC dX5_firstNeutral_34 rfl (fun h10 => ?_) (fun h10 => ?_)
                · refine r_iconst hC dX5_firstNeutral_41 rfl ?_
                  refine r_iaddE hC (w4) dX5_firstNeutral_42 (by omega) (by unfold inR; omega) ?_
                  refine r_istore_n hC dX5_firstNeutral_43 rfl ?_
                  refine r_iincE hC ((w3 + 1)) dX5_firstNeutral_44 rfl rfl (by omega) (by unfold inR; omega) ?_
                  refine r_goto (tgt := 11) hC dX5_firstNeutral_47 rfl ?_
                  exact ih11 ((w3 + 1)) (w4)  (by omega) (by omega) (by first | rfl | (rw [cB_y (by omega) (pb_y (i := w3) rfl (by assumption) (by assumption))]; omega) | (rw [cB_n (by omega) (pb_n1 (i := w3) rfl (by assumption))]; omega) | (rw [cB_n (by omega) (pb_n2 (i := w3) rfl (by assumption))]; omega)) (by omega) (by omega)  
                · refine r_iconst hC dX5_firstNeutral_37 rfl ?_
                  refine r_goto (tgt := 42) hC dX5_firstNeutral_38 rfl ?_
                  refine r_iaddE hC ((w4 + 1)) dX5_firstNeutral_42 (by omega) (by unfold inR; omega) ?_
                  refine r_istore_n hC dX5_firstNeutral_43 rfl ?_
                  refine r_iincE hC ((w3 + 1)) dX5_firstNeutral_44 rfl rfl (by omega) (by unfold inR; omega) ?_
                  refine r_goto (tgt := 11) hC dX5_firstNeutral_47 rfl ?_
                  exact ih11 ((w3 + 1)) ((w4 + 1))  (by omega) (by omega) (by first | rfl | (rw [cB_y (by omega) (pb_y (i := w3) rfl (by assumption) (by assumption))]; omega) | (rw [cB_n (by omega) (pb_n1 (i := w3) rfl (by assumption))]; omega) | (rw [cB_n (by omega) (pb_n2 (i := w3) rfl (by assumption))]; omega)) (by omega) (by omega)  
        exact L11 6 (0) (0)  (by omega) (by omega) (by first | rfl | (rw [cB_y (by omega) (pb_y (i := w3) rfl (by assumption) (by assumption))]; omega) | (rw [cB_n (by omega) (pb_n1 (i := w3) rfl (by assumption))]; omega) | (rw [cB_n (by omega) (pb_n2 (i := w3) rfl (by assumption))]; omega)) (by omega) (by omega)  
  exact L2 6 (0)  (by omega) (by first | rfl | (rw [fB_n (by omega) (qq_n (cB_at i0_11 (by omega)) (by omega))]; exact i0_2)) (by omega)  
theorem s_firstAbsorbingX {e : Ev} {d : Nat} {P : Option Vl → Mm → Prop} {σ : Mm}   (k : P (some (vI (fB (qq 15 σ 1) (4 : Int).toNat))) σ) : WT e (d + 2) 54 [vR 2 0] σ P := by
  refine WT_in fun K hK => ?_
  have hK : StpY e cX5_firstAbsorbing RX5 (some .int) (WT e (d + 1)) P K := hK
  have hM := hK.1
  have hC := hK.1.1
  show K 0 [some (vR 2 0), none, none, none] [] σ
  refine r_iconst hC dX5_firstAbsorbing_0 rfl ?_
  refine r_istore_n hC dX5_firstAbsorbing_1 rfl ?_
  have L2 : ∀ (n2 : Nat) (w1 : Int), 0 ≤ w1 ∧ w1 ≤ 4 → (-1 = fB (qq 15 σ 1) ((w1)).toNat) → 4 - w1 < (n2 : Int) → K 2 [some (vR 2 0), some (vI w1), none, none] [] σ := by
    intro n2
    induction n2 with
    | zero => intro w1  f_w1 i0_2 hm  ; omega
    | succ n2 ih2 =>
      intro w1  f_w1 i0_2 hm2  
      refine r_iload_n hC dX5_firstAbsorbing_2 rfl ?_
      refine r_iconst hC dX5_firstAbsorbing_3 rfl ?_
      refine r_icmp_ge (tgt := 63) hC dX5_firstAbsorbing_4 rfl (fun h2 => ?_) (fun h2 => ?_)
      · refine r_iconst hC dX5_firstAbsorbing_63 rfl ?_
        refine y_iret hK rfl dX5_firstAbsorbing_64 ?_
        obtain rfl : w1 = 4 := by omega
        rw [← i0_2] at k
        exact k
      · refine r_iconst hC dX5_firstAbsorbing_7 rfl ?_
        refine r_istore_n hC dX5_firstAbsorbing_8 rfl ?_
        refine r_iconst hC dX5_firstAbsorbing_9 rfl ?_
        refine r_istore_n hC dX5_firstAbsorbing_10 rfl ?_
        have L11 : ∀ (n11 : Nat) (w3 w4 : Int), 0 ≤ w3 ∧ w3 ≤ 4 → 0 ≤ w4 ∧ w4 ≤ 4 → ((w4) = cB (pb 15 σ 1 (w1)) ((w3)).toNat) → ((w4) ≤ (w3)) → 4 - w3 < (n11 : Int) → K 11 [some (vR 2 0), some (vI w1), some (vI w4), some (vI w3)] [] σ := by
          intro n11
          induction n11 with
          | zero => intro w3 w4  f_w3 f_w4 i0_11 i1_11 hm  ; omega
          | succ n11 ih11 =>
            intro w3 w4  f_w3 f_w4 i0_11 i1_11 hm11  
            refine r_iload_n hC dX5_firstAbsorbing_11 rfl ?_
            refine r_iconst hC dX5_firstAbsorbing_12 rfl ?_
            refine r_icmp_ge (tgt := 50) hC dX5_firstAbsorbing_13 rfl (fun h5 => ?_) (fun h5 => ?_)
            · refine r_iload_n hC dX5_firstAbsorbing_50 rfl ?_
              refine r_iconst hC dX5_firstAbsorbing_51 rfl ?_
              refine r_icmp_ne (tgt := 57) hC dX5_firstAbsorbing_52 rfl (fun h6 => ?_) (fun h6 => ?_)
              · refine r_iincE hC ((w1 + 1)) dX5_firstAbsorbing_57 rfl rfl (by omega) (by unfold inR; omega) ?_
                refine r_goto (tgt := 2) hC dX5_firstAbsorbing_60 rfl ?_
                refine r_forget hC (ls2 := [some (vR 2 0), some (vI (w1 + 1)), none, none]) (lsub_some (lsub_some (lsub_none (lsub_none lsub_nil)))) ?_
                exact ih2 ((w1 + 1))  (by omega) (by first | rfl | (rw [fB_n (by omega) (qq_n (cB_at i0_11 (by omega)) (by omega))]; exact i0_2)) (by omega)  
              · refine r_iload_n hC dX5_firstAbsorbing_55 rfl ?_
                refine y_iret hK rfl dX5_firstAbsorbing_56 ?_
                have e := fB_stay (m := (4 : Int).toNat) (fB_new (by omega) i0_2.symm (qq_y (cB_at i0_11 (by omega)) (by omega))) (by omega) (by omega)
                rw [e] at k
                exact k
            · refine r_iload_n hC dX5_firstAbsorbing_16 rfl ?_
              refine r_aload_n hC dX5_firstAbsorbing_17 rfl ?_
              refine r_iload_n hC dX5_firstAbsorbing_18 rfl ?_
              refine r_iload_n hC dX5_firstAbsorbing_19 rfl ?_
              refine z_inv2 hM dX5_firstAbsorbing_20 vl_RX5_90 rfl rfl rfl (Nat.le_of_ble_eq_true rfl) (Nat.le_of_ble_eq_true rfl) ?_
              refine s_productX (by omega) (by omega) (fun h7 => ?_)
              refine r_iload_n hC dX5_firstAbsorbing_23 rfl ?_
              refine r_icmp_ne (tgt := 41) hC dX5_firstAbsorbing_24 rfl (fun h8 => ?_) (fun h8 => ?_)
              · refine r_iconst hC dX5_firstAbsorbing_41 rfl ?_
                refine r_iaddE hC (w4) dX5_firstAbsorbing_42 (by omega) (by unfold inR; omega) ?_
                refine r_istore_n hC dX5_firstAbsorbing_43 rfl ?_
                refine r_iincE hC ((w3 + 1)) dX5_firstAbsorbing_44 rfl rfl (by omega) (by unfold inR; omega) ?_
                refine r_goto (tgt := 11) hC dX5_firstAbsorbing_47 rfl ?_
                exact ih11 ((w3 + 1)) (w4)  (by omega) (by omega) (by first | rfl | (rw [cB_y (by omega) (pb_y (i := w1) rfl (by assumption) (by assumption))]; omega) | (rw [cB_n (by omega) (pb_n1 (i := w1) rfl (by assumption))]; omega) | (rw [cB_n (by omega) (pb_n2 (i := w1) rfl (by assumption))]; omega)) (by omega) (by omega)  
              · refine r_aload_n hC dX5_firstAbsorbing_27 rfl ?_
                refine r_iload_n hC dX5_firstAbsorbing_28 rfl ?_
                refine r_iload_n hC dX5_firstAbsorbing_29 rfl ?_
                refine z_inv2 hM dX5_firstAbsorbing_30 vl_RX5_90 rfl rfl rfl (Nat.le_of_ble_eq_true rfl) (Nat.le_of_ble_eq_true rfl) ?_
                refine s_productX (by omega) (by omega) (fun h9 => ?_)
                refine r_iload_n hC dX5_firstAbsorbing_33 rfl ?_
                refine r_icmp_ne (tgt := 41) hC dX5_firstAbsorbing_34 rfl (fun h10 => ?_) (fun h10 => ?_)
                · refine r_iconst hC dX5_firstAbsorbing_41 rfl ?_
                  refine r_iaddE hC (w4) dX5_firstAbsorbing_42 (by omega) (by unfold inR; omega) ?_
                  refine r_istore_n hC dX5_firstAbsorbing_43 rfl ?_
                  refine r_iincE hC ((w3 + 1)) dX5_firstAbsorbing_44 rfl rfl (by omega) (by unfold inR; omega) ?_
                  refine r_goto (tgt := 11) hC dX5_firstAbsorbing_47 rfl ?_
                  exact ih11 ((w3 + 1)) (w4)  (by omega) (by omega) (by first | rfl | (rw [cB_y (by omega) (pb_y (i := w1) rfl (by assumption) (by assumption))]; omega) | (rw [cB_n (by omega) (pb_n1 (i := w1) rfl (by assumption))]; omega) | (rw [cB_n (by omega) (pb_n2 (i := w1) rfl (by assumption))]; omega)) (by omega) (by omega)  
                · refine r_iconst hC dX5_firstAbsorbing_37 rfl ?_
                  refine r_goto (tgt := 42) hC dX5_firstAbsorbing_38 rfl ?_
                  refine r_iaddE hC ((w4 + 1)) dX5_firstAbsorbing_42 (by omega) (by unfold inR; omega) ?_
                  refine r_istore_n hC dX5_firstAbsorbing_43 rfl ?_
                  refine r_iincE hC ((w3 + 1)) dX5_firstAbsorbing_44 rfl rfl (by omega) (by unfold inR; omega) ?_
                  refine r_goto (tgt := 11) hC dX5_firstAbsorbing_47 rfl ?_
                  exact ih11 ((w3 + 1)) ((w4 + 1))  (by omega) (by omega) (by first | rfl | (rw [cB_y (by omega) (pb_y (i := w1) rfl (by assumption) (by assumption))]; omega) | (rw [cB_n (by omega) (pb_n1 (i := w1) rfl (by assumption))]; omega) | (rw [cB_n (by omega) (pb_n2 (i := w1) rfl (by assumption))]; omega)) (by omega) (by omega)  
        exact L11 6 (0) (0)  (by omega) (by omega) (by first | rfl | (rw [cB_y (by omega) (pb_y (i := w1) rfl (by assumption) (by assumption))]; omega) | (rw [cB_n (by omega) (pb_n1 (i := w1) rfl (by assumption))]; omega) | (rw [cB_n (by omega) (pb_n2 (i := w1) rfl (by assumption))]; omega)) (by omega) (by omega)  
  exact L2 6 (0)  (by omega) (by first | rfl | (rw [fB_n (by omega) (qq_n (cB_at i0_11 (by omega)) (by omega))]; exact i0_2)) (by omega)  
theorem s_idempotentsX {e : Ev} {d : Nat} {P : Option Vl → Mm → Prop} {σ : Mm}   (k : P (some (vI (cB (ip 15 σ) (4 : Int).toNat))) σ) : WT e (d + 2) 55 [vR 2 0] σ P := by
  refine WT_in fun K hK => ?_
  have hK : StpY e cX5_idempotents RX5 (some .int) (WT e (d + 1)) P K := hK
  have hM := hK.1
  have hC := hK.1.1
  show K 0 [some (vR 2 0), none, none] [] σ
  refine r_iconst hC dX5_idempotents_0 rfl ?_
  refine r_istore_n hC dX5_idempotents_1 rfl ?_
  refine r_iconst hC dX5_idempotents_2 rfl ?_
  refine r_istore_n hC dX5_idempotents_3 rfl ?_
  have L4 : ∀ (n4 : Nat) (w1 w2 : Int), 0 ≤ w1 ∧ w1 ≤ 4 → 0 ≤ w2 ∧ w2 ≤ 4 → ((w2) = cB (ip 15 σ) ((w1)).toNat) → ((w2) ≤ (w1)) → 4 - w1 < (n4 : Int) → K 4 [some (vR 2 0), some (vI w2), some (vI w1)] [] σ := by
    intro n4
    induction n4 with
    | zero => intro w1 w2  f_w1 f_w2 i0_4 i1_4 hm  ; omega
    | succ n4 ih4 =>
      intro w1 w2  f_w1 f_w2 i0_4 i1_4 hm4  
      refine r_iload_n hC dX5_idempotents_4 rfl ?_
      refine r_iconst hC dX5_idempotents_5 rfl ?_
      refine r_icmp_ge (tgt := 33) hC dX5_idempotents_6 rfl (fun h3 => ?_) (fun h3 => ?_)
      · refine r_iload_n hC dX5_idempotents_33 rfl ?_
        refine y_iret hK rfl dX5_idempotents_34 ?_
        obtain rfl : w1 = 4 := by omega
        rw [← i0_4] at k
        exact k
      · refine r_iload_n hC dX5_idempotents_9 rfl ?_
        refine r_aload_n hC dX5_idempotents_10 rfl ?_
        refine r_iload_n hC dX5_idempotents_11 rfl ?_
        refine r_iload_n hC dX5_idempotents_12 rfl ?_
        refine z_inv2 hM dX5_idempotents_13 vl_RX5_90 rfl rfl rfl (Nat.le_of_ble_eq_true rfl) (Nat.le_of_ble_eq_true rfl) ?_
        refine s_productX (by omega) (by omega) (fun h4 => ?_)
        refine r_iload_n hC dX5_idempotents_16 rfl ?_
        refine r_icmp_ne (tgt := 24) hC dX5_idempotents_17 rfl (fun h5 => ?_) (fun h5 => ?_)
        · refine r_iconst hC dX5_idempotents_24 rfl ?_
          refine r_iaddE hC (w2) dX5_idempotents_25 (by omega) (by unfold inR; omega) ?_
          refine r_istore_n hC dX5_idempotents_26 rfl ?_
          refine r_iincE hC ((w1 + 1)) dX5_idempotents_27 rfl rfl (by omega) (by unfold inR; omega) ?_
          refine r_goto (tgt := 4) hC dX5_idempotents_30 rfl ?_
          exact ih4 ((w1 + 1)) (w2)  (by omega) (by omega) (by first | rfl | (rw [cB_y (by omega) (ip_y (by assumption))]; omega) | (rw [cB_n (by omega) (ip_n (by assumption))]; omega)) (by omega) (by omega)  
        · refine r_iconst hC dX5_idempotents_20 rfl ?_
          refine r_goto (tgt := 25) hC dX5_idempotents_21 rfl ?_
          refine r_iaddE hC ((w2 + 1)) dX5_idempotents_25 (by omega) (by unfold inR; omega) ?_
          refine r_istore_n hC dX5_idempotents_26 rfl ?_
          refine r_iincE hC ((w1 + 1)) dX5_idempotents_27 rfl rfl (by omega) (by unfold inR; omega) ?_
          refine r_goto (tgt := 4) hC dX5_idempotents_30 rfl ?_
          exact ih4 ((w1 + 1)) ((w2 + 1))  (by omega) (by omega) (by first | rfl | (rw [cB_y (by omega) (ip_y (by assumption))]; omega) | (rw [cB_n (by omega) (ip_n (by assumption))]; omega)) (by omega) (by omega)  
  exact L4 6 (0) (0)  (by omega) (by omega) (by first | rfl | (rw [cB_y (by omega) (ip_y (by assumption))]; omega) | (rw [cB_n (by omega) (ip_n (by assumption))]; omega)) (by omega) (by omega)  
theorem s_commutingX {e : Ev} {d : Nat} {P : Option Vl → Mm → Prop} {σ : Mm}   (k : P (some (vI (cB (cq 15 σ) (16 : Int).toNat))) σ) : WT e (d + 2) 56 [vR 2 0] σ P := by
  refine WT_in fun K hK => ?_
  have hK : StpY e cX5_commutingPairs RX5 (some .int) (WT e (d + 1)) P K := hK
  have hM := hK.1
  have hC := hK.1.1
  show K 0 [some (vR 2 0), none, none, none] [] σ
  refine r_iconst hC dX5_commutingPairs_0 rfl ?_
  refine r_istore_n hC dX5_commutingPairs_1 rfl ?_
  refine r_iconst hC dX5_commutingPairs_2 rfl ?_
  refine r_istore_n hC dX5_commutingPairs_3 rfl ?_
  have L4 : ∀ (n4 : Nat) (w1 w2 : Int), 0 ≤ w1 ∧ w1 ≤ 16 → 0 ≤ w2 ∧ w2 ≤ 4 → ((w1) = cB (cq 15 σ) (4 * (w2)).toNat) → ((w1) ≤ 4 * (w2)) → 4 - w2 < (n4 : Int) → K 4 [some (vR 2 0), some (vI w1), some (vI w2), none] [] σ := by
    intro n4
    induction n4 with
    | zero => intro w1 w2  f_w1 f_w2 i0_4 i1_4 hm  ; omega
    | succ n4 ih4 =>
      intro w1 w2  f_w1 f_w2 i0_4 i1_4 hm4  
      refine r_iload_n hC dX5_commutingPairs_4 rfl ?_
      refine r_iconst hC dX5_commutingPairs_5 rfl ?_
      refine r_icmp_ge (tgt := 51) hC dX5_commutingPairs_6 rfl (fun h3 => ?_) (fun h3 => ?_)
      · refine r_iload_n hC dX5_commutingPairs_51 rfl ?_
        refine y_iret hK rfl dX5_commutingPairs_52 ?_
        obtain rfl : w2 = 4 := by omega
        rw [show (4 * (4 : Int)) = 16 from rfl] at i0_4
        rw [← i0_4] at k
        exact k
      · refine r_iconst hC dX5_commutingPairs_9 rfl ?_
        refine r_istore_n hC dX5_commutingPairs_10 rfl ?_
        have L11 : ∀ (n11 : Nat) (w4 w5 : Int), 0 ≤ w4 ∧ w4 ≤ 4 → 0 ≤ w5 ∧ w5 ≤ 16 → ((w5) = cB (cq 15 σ) (4 * (w2) + (w4)).toNat) → ((w5) ≤ 4 * (w2) + (w4)) → 4 - w4 < (n11 : Int) → K 11 [some (vR 2 0), some (vI w5), some (vI w2), some (vI w4)] [] σ := by
          intro n11
          induction n11 with
          | zero => intro w4 w5  f_w4 f_w5 i0_11 i1_11 hm  ; omega
          | succ n11 ih11 =>
            intro w4 w5  f_w4 f_w5 i0_11 i1_11 hm11  
            refine r_iload_n hC dX5_commutingPairs_11 rfl ?_
            refine r_iconst hC dX5_commutingPairs_12 rfl ?_
            refine r_icmp_ge (tgt := 45) hC dX5_commutingPairs_13 rfl (fun h6 => ?_) (fun h6 => ?_)
            · refine r_iincE hC ((w2 + 1)) dX5_commutingPairs_45 rfl rfl (by omega) (by unfold inR; omega) ?_
              refine r_goto (tgt := 4) hC dX5_commutingPairs_48 rfl ?_
              refine r_forget hC (ls2 := [some (vR 2 0), some (vI w5), some (vI (w2 + 1)), none]) (lsub_some (lsub_some (lsub_some (lsub_none lsub_nil)))) ?_
              exact ih4 (w5) ((w2 + 1))  (by omega) (by omega) (by first | rfl | exact i0_11.trans (congrArg (fun z : Int => cB (cq 15 σ) z.toNat) (by omega))) (by omega) (by omega)  
            · refine r_iload_n hC dX5_commutingPairs_16 rfl ?_
              refine r_aload_n hC dX5_commutingPairs_17 rfl ?_
              refine r_iload_n hC dX5_commutingPairs_18 rfl ?_
              refine r_iload_n hC dX5_commutingPairs_19 rfl ?_
              refine z_inv2 hM dX5_commutingPairs_20 vl_RX5_90 rfl rfl rfl (Nat.le_of_ble_eq_true rfl) (Nat.le_of_ble_eq_true rfl) ?_
              refine s_productX (by omega) (by omega) (fun h7 => ?_)
              refine r_aload_n hC dX5_commutingPairs_23 rfl ?_
              refine r_iload_n hC dX5_commutingPairs_24 rfl ?_
              refine r_iload_n hC dX5_commutingPairs_25 rfl ?_
              refine z_inv2 hM dX5_commutingPairs_26 vl_RX5_90 rfl rfl rfl (Nat.le_of_ble_eq_true rfl) (Nat.le_of_ble_eq_true rfl) ?_
              refine s_productX (by omega) (by omega) (fun h8 => ?_)
              refine r_icmp_ne (tgt := 36) hC dX5_commutingPairs_29 rfl (fun h9 => ?_) (fun h9 => ?_)
              · refine r_iconst hC dX5_commutingPairs_36 rfl ?_
                refine r_iaddE hC (w5) dX5_commutingPairs_37 (by omega) (by unfold inR; omega) ?_
                refine r_istore_n hC dX5_commutingPairs_38 rfl ?_
                refine r_iincE hC ((w4 + 1)) dX5_commutingPairs_39 rfl rfl (by omega) (by unfold inR; omega) ?_
                refine r_goto (tgt := 11) hC dX5_commutingPairs_42 rfl ?_
                exact ih11 ((w4 + 1)) (w5)  (by omega) (by omega) (by first | (rw [Int.add_zero]; exact i0_4) | (rw [show 4 * w2 + (w4 + 1) = 4 * w2 + w4 + 1 from by omega, cB_y (by omega) (cq_y2 (by omega) (by assumption))]; omega) | (rw [show 4 * w2 + (w4 + 1) = 4 * w2 + w4 + 1 from by omega, cB_n (by omega) (cq_n2 (by omega) (by assumption))]; omega)) (by omega) (by omega)  
              · refine r_iconst hC dX5_commutingPairs_32 rfl ?_
                refine r_goto (tgt := 37) hC dX5_commutingPairs_33 rfl ?_
                refine r_iaddE hC ((w5 + 1)) dX5_commutingPairs_37 (by omega) (by unfold inR; omega) ?_
                refine r_istore_n hC dX5_commutingPairs_38 rfl ?_
                refine r_iincE hC ((w4 + 1)) dX5_commutingPairs_39 rfl rfl (by omega) (by unfold inR; omega) ?_
                refine r_goto (tgt := 11) hC dX5_commutingPairs_42 rfl ?_
                exact ih11 ((w4 + 1)) ((w5 + 1))  (by omega) (by omega) (by first | (rw [Int.add_zero]; exact i0_4) | (rw [show 4 * w2 + (w4 + 1) = 4 * w2 + w4 + 1 from by omega, cB_y (by omega) (cq_y2 (by omega) (by assumption))]; omega) | (rw [show 4 * w2 + (w4 + 1) = 4 * w2 + w4 + 1 from by omega, cB_n (by omega) (cq_n2 (by omega) (by assumption))]; omega)) (by omega) (by omega)  
        exact L11 6 (0) (w1)  (by omega) (by omega) (by first | (rw [Int.add_zero]; exact i0_4) | (rw [show 4 * w2 + (w4 + 1) = 4 * w2 + w4 + 1 from by omega, cB_y (by omega) (cq_y2 (by omega) (by assumption))]; omega) | (rw [show 4 * w2 + (w4 + 1) = 4 * w2 + w4 + 1 from by omega, cB_n (by omega) (cq_n2 (by omega) (by assumption))]; omega)) (by omega) (by omega)  
  exact L4 6 (0) (0)  (by omega) (by omega) (by first | rfl | exact i0_11.trans (congrArg (fun z : Int => cB (cq 15 σ) z.toNat) (by omega))) (by omega) (by omega)  
theorem s_elementX {e : Ev} {d : Nat} {P : Option Vl → Mm → Prop} {σ : Mm} {w : Int}   (k : P (some (vI (elF 15 σ w))) σ) : WT e (d + 3) 50 [vR 2 0, vI w] σ P := by
  refine WT_in fun K hK => ?_
  have hK : StpY e cX5_element RX5 (some .int) (WT e (d + 2)) P K := hK
  have hM := hK.1
  have hC := hK.1.1
  show K 0 [some (vR 2 0), some (vI w)] [] σ
  refine r_rngz hC (fun g0 => ?_)
  have r_w : -2147483648 ≤ w ∧ w ≤ 2147483647 := inR_le (g0 (vI w) (by simp))
  refine r_iload_n hC dX5_element_0 rfl ?_
  rcases (by omega : (w < 0 ∨ 3 < w) ∨ w = 0 ∨ w = 1 ∨ w = 2 ∨ w = 3) with h1 | h1 | h1 | h1 | h1
  · refine r_tableOut (tgt := 52) hC dX5_element_1 h1 rfl ?_
    refine r_iconst hC dX5_element_52 rfl ?_
    refine y_iret hK rfl dX5_element_53 ?_
    have e : elF 15 σ w = (-1) := by unfold elF; (repeat' split) <;> first | rfl | omega
    rw [e] at k
    exact k
  · refine r_tableIn (tgt := 32) (off := 31) hC dX5_element_1 (by omega) (by omega) (by rw [h1]; rfl) rfl ?_
    refine r_aload_n hC dX5_element_32 rfl ?_
    refine z_inv0 hM dX5_element_33 vl_RX5_77 rfl rfl rfl (Nat.le_of_ble_eq_true rfl) (Nat.le_of_ble_eq_true rfl) ?_
    refine s_firstNeutralX ?_
    refine y_iret hK rfl dX5_element_36 ?_
    have e : elF 15 σ w = (fB (qq 15 σ 0) (4 : Int).toNat) := by unfold elF; (repeat' split) <;> first | rfl | omega
    rw [e] at k
    exact k
  · refine r_tableIn (tgt := 37) (off := 36) hC dX5_element_1 (by omega) (by omega) (by rw [h1]; rfl) rfl ?_
    refine r_aload_n hC dX5_element_37 rfl ?_
    refine z_inv0 hM dX5_element_38 vl_RX5_81 rfl rfl rfl (Nat.le_of_ble_eq_true rfl) (Nat.le_of_ble_eq_true rfl) ?_
    refine s_firstAbsorbingX ?_
    refine y_iret hK rfl dX5_element_41 ?_
    have e : elF 15 σ w = (fB (qq 15 σ 1) (4 : Int).toNat) := by unfold elF; (repeat' split) <;> first | rfl | omega
    rw [e] at k
    exact k
  · refine r_tableIn (tgt := 42) (off := 41) hC dX5_element_1 (by omega) (by omega) (by rw [h1]; rfl) rfl ?_
    refine r_aload_n hC dX5_element_42 rfl ?_
    refine z_inv0 hM dX5_element_43 vl_RX5_84 rfl rfl rfl (Nat.le_of_ble_eq_true rfl) (Nat.le_of_ble_eq_true rfl) ?_
    refine s_idempotentsX ?_
    refine y_iret hK rfl dX5_element_46 ?_
    have e : elF 15 σ w = (cB (ip 15 σ) (4 : Int).toNat) := by unfold elF; (repeat' split) <;> first | rfl | omega
    rw [e] at k
    exact k
  · refine r_tableIn (tgt := 47) (off := 46) hC dX5_element_1 (by omega) (by omega) (by rw [h1]; rfl) rfl ?_
    refine r_aload_n hC dX5_element_47 rfl ?_
    refine z_inv0 hM dX5_element_48 vl_RX5_87 rfl rfl rfl (Nat.le_of_ble_eq_true rfl) (Nat.le_of_ble_eq_true rfl) ?_
    refine s_commutingX ?_
    refine y_iret hK rfl dX5_element_51 ?_
    have e : elF 15 σ w = (cB (cq 15 σ) (16 : Int).toNat) := by unfold elF; (repeat' split) <;> first | rfl | omega
    rw [e] at k
    exact k
theorem m_isSuchX {e : Ev} {d : Nat} {P : Option Vl → Mm → Prop} {σ : Mm} {e_ w : Int} (b_e_ : 0 ≤ e_ ∧ e_ ≤ 3) (b_w : 0 ≤ w ∧ w ≤ 1)  (k1 : qq 35 σ w e_ = true → P (some (vI 1)) σ) (k0 : ¬ qq 35 σ w e_ = true → P (some (vI 0)) σ) : WT e (d + 2) 150 [vR 30 0, vI e_, vI w] σ P := by
  refine WT_in fun K hK => ?_
  have hK : StpY e cX6_isSuch RX6 (some .boolean) (WT e (d + 1)) P K := hK
  have hM := hK.1
  have hC := hK.1.1
  show K 0 [some (vR 30 0), some (vI e_), some (vI w), none, none] [] σ
  refine r_iconst hC dX6_isSuch_0 rfl ?_
  refine r_istore_n hC dX6_isSuch_1 rfl ?_
  have L2 : ∀ (n2 : Nat) (w1 : Int), 0 ≤ w1 ∧ w1 ≤ 4 → ((w1) = cB (pb 35 σ w e_) ((w1)).toNat) → 4 - w1 < (n2 : Int) → K 2 [some (vR 30 0), some (vI e_), some (vI w), some (vI w1), none] [] σ := by
    intro n2
    induction n2 with
    | zero => intro w1  f_w1 i0_2 hm  ; omega
    | succ n2 ih2 =>
      intro w1  f_w1 i0_2 hm2  
      refine r_iload_n hC dX6_isSuch_2 rfl ?_
      refine r_iconst hC dX6_isSuch_3 rfl ?_
      refine r_icmp_ge (tgt := 48) hC dX6_isSuch_4 rfl (fun h2 => ?_) (fun h2 => ?_)
      · refine r_iconst hC dX6_isSuch_48 rfl ?_
        refine y_zret hK rfl dX6_isSuch_49 (by omega) ?_
        exact k1 (qq_y (cB_at i0_2 (by omega)) (by omega))
      · refine r_iload_n hC dX6_isSuch_7 rfl ?_
        refine r_if_ne (tgt := 15) hC dX6_isSuch_8 rfl (fun h3 => ?_) (fun h3 => ?_)
        · refine r_iload_n hC dX6_isSuch_15 rfl ?_
          refine r_istore hC dX6_isSuch_16 rfl ?_
          refine r_aload_n hC dX6_isSuch_18 rfl ?_
          refine r_iload_n hC dX6_isSuch_19 rfl ?_
          refine r_iload_n hC dX6_isSuch_20 rfl ?_
          refine z_inv2 hM dX6_isSuch_21 vl_RX6_88 rfl rfl rfl (Nat.le_of_ble_eq_true rfl) (Nat.le_of_ble_eq_true rfl) ?_
          refine m_productX (by omega) (by omega) (fun h4 => ?_)
          refine r_iload hC dX6_isSuch_24 rfl ?_
          refine r_icmp_ne (tgt := 40) hC dX6_isSuch_26 rfl (fun h5 => ?_) (fun h5 => ?_)
          · refine r_iconst hC dX6_isSuch_40 rfl ?_
            refine y_zret hK rfl dX6_isSuch_41 (by omega) ?_
            first | exact k0 (qq_no (x := w1) (by omega) (by omega) (pb_n1 (i := e_) (by unfold its; first | exact if_pos (by omega) | exact if_neg (by omega)) (by omega))) | exact k0 (qq_no (x := w1) (by omega) (by omega) (pb_n2 (i := e_) (by unfold its; first | exact if_pos (by omega) | exact if_neg (by omega)) (by omega)))
          · refine r_aload_n hC dX6_isSuch_29 rfl ?_
            refine r_iload_n hC dX6_isSuch_30 rfl ?_
            refine r_iload_n hC dX6_isSuch_31 rfl ?_
            refine z_inv2 hM dX6_isSuch_32 vl_RX6_88 rfl rfl rfl (Nat.le_of_ble_eq_true rfl) (Nat.le_of_ble_eq_true rfl) ?_
            refine m_productX (by omega) (by omega) (fun h6 => ?_)
            refine r_iload hC dX6_isSuch_35 rfl ?_
            refine r_icmp_eq (tgt := 42) hC dX6_isSuch_37 rfl (fun h7 => ?_) (fun h7 => ?_)
            · refine r_iincE hC ((w1 + 1)) dX6_isSuch_42 rfl rfl (by omega) (by unfold inR; omega) ?_
              refine r_goto (tgt := 2) hC dX6_isSuch_45 rfl ?_
              refine r_forget hC (ls2 := [some (vR 30 0), some (vI e_), some (vI w), some (vI (w1 + 1)), none]) (lsub_some (lsub_some (lsub_some (lsub_some (lsub_none lsub_nil))))) ?_
              exact ih2 ((w1 + 1))  (by omega) (by first | rfl | (rw [cB_y (by omega) (pb_y (i := w1) (by unfold its; first | exact if_pos (by omega) | exact if_neg (by omega)) (by omega) (by omega))]; omega) | (rw [cB_y (by omega) (pb_y (i := e_) (by unfold its; first | exact if_pos (by omega) | exact if_neg (by omega)) (by omega) (by omega))]; omega)) (by omega)  
            · refine r_iconst hC dX6_isSuch_40 rfl ?_
              refine y_zret hK rfl dX6_isSuch_41 (by omega) ?_
              first | exact k0 (qq_no (x := w1) (by omega) (by omega) (pb_n1 (i := e_) (by unfold its; first | exact if_pos (by omega) | exact if_neg (by omega)) (by omega))) | exact k0 (qq_no (x := w1) (by omega) (by omega) (pb_n2 (i := e_) (by unfold its; first | exact if_pos (by omega) | exact if_neg (by omega)) (by omega)))
        · refine r_iload_n hC dX6_isSuch_11 rfl ?_
          refine r_goto (tgt := 16) hC dX6_isSuch_12 rfl ?_
          refine r_istore hC dX6_isSuch_16 rfl ?_
          refine r_aload_n hC dX6_isSuch_18 rfl ?_
          refine r_iload_n hC dX6_isSuch_19 rfl ?_
          refine r_iload_n hC dX6_isSuch_20 rfl ?_
          refine z_inv2 hM dX6_isSuch_21 vl_RX6_88 rfl rfl rfl (Nat.le_of_ble_eq_true rfl) (Nat.le_of_ble_eq_true rfl) ?_
          refine m_productX (by omega) (by omega) (fun h8 => ?_)
          refine r_iload hC dX6_isSuch_24 rfl ?_
          refine r_icmp_ne (tgt := 40) hC dX6_isSuch_26 rfl (fun h9 => ?_) (fun h9 => ?_)
          · refine r_iconst hC dX6_isSuch_40 rfl ?_
            refine y_zret hK rfl dX6_isSuch_41 (by omega) ?_
            first | exact k0 (qq_no (x := w1) (by omega) (by omega) (pb_n1 (i := w1) (by unfold its; first | exact if_pos (by omega) | exact if_neg (by omega)) (by omega))) | exact k0 (qq_no (x := w1) (by omega) (by omega) (pb_n2 (i := w1) (by unfold its; first | exact if_pos (by omega) | exact if_neg (by omega)) (by omega)))
          · refine r_aload_n hC dX6_isSuch_29 rfl ?_
            refine r_iload_n hC dX6_isSuch_30 rfl ?_
            refine r_iload_n hC dX6_isSuch_31 rfl ?_
            refine z_inv2 hM dX6_isSuch_32 vl_RX6_88 rfl rfl rfl (Nat.le_of_ble_eq_true rfl) (Nat.le_of_ble_eq_true rfl) ?_
            refine m_productX (by omega) (by omega) (fun h10 => ?_)
            refine r_iload hC dX6_isSuch_35 rfl ?_
            refine r_icmp_eq (tgt := 42) hC dX6_isSuch_37 rfl (fun h11 => ?_) (fun h11 => ?_)
            · refine r_iincE hC ((w1 + 1)) dX6_isSuch_42 rfl rfl (by omega) (by unfold inR; omega) ?_
              refine r_goto (tgt := 2) hC dX6_isSuch_45 rfl ?_
              refine r_forget hC (ls2 := [some (vR 30 0), some (vI e_), some (vI w), some (vI (w1 + 1)), none]) (lsub_some (lsub_some (lsub_some (lsub_some (lsub_none lsub_nil))))) ?_
              exact ih2 ((w1 + 1))  (by omega) (by first | rfl | (rw [cB_y (by omega) (pb_y (i := w1) (by unfold its; first | exact if_pos (by omega) | exact if_neg (by omega)) (by omega) (by omega))]; omega) | (rw [cB_y (by omega) (pb_y (i := e_) (by unfold its; first | exact if_pos (by omega) | exact if_neg (by omega)) (by omega) (by omega))]; omega)) (by omega)  
            · refine r_iconst hC dX6_isSuch_40 rfl ?_
              refine y_zret hK rfl dX6_isSuch_41 (by omega) ?_
              first | exact k0 (qq_no (x := w1) (by omega) (by omega) (pb_n1 (i := w1) (by unfold its; first | exact if_pos (by omega) | exact if_neg (by omega)) (by omega))) | exact k0 (qq_no (x := w1) (by omega) (by omega) (pb_n2 (i := w1) (by unfold its; first | exact if_pos (by omega) | exact if_neg (by omega)) (by omega)))
  exact L2 6 (0)  (by omega) (by first | rfl | (rw [cB_y (by omega) (pb_y (i := w1) (by unfold its; first | exact if_pos (by omega) | exact if_neg (by omega)) (by omega) (by omega))]; omega) | (rw [cB_y (by omega) (pb_y (i := e_) (by unfold its; first | exact if_pos (by omega) | exact if_neg (by omega)) (by omega) (by omega))]; omega)) (by omega)  
theorem m_elementX {e : Ev} {d : Nat} {P : Option Vl → Mm → Prop} {σ : Mm} {w : Int}   (k : P (some (vI (elF 35 σ w))) σ) : WT e (d + 3) 151 [vR 30 0, vI w] σ P := by
  refine WT_in fun K hK => ?_
  have hK : StpY e cX6_element RX6 (some .int) (WT e (d + 2)) P K := hK
  have hM := hK.1
  have hC := hK.1.1
  show K 0 [some (vR 30 0), some (vI w), none, none] [] σ
  refine r_rngz hC (fun g0 => ?_)
  have r_w : -2147483648 ≤ w ∧ w ≤ 2147483647 := inR_le (g0 (vI w) (by simp))
  refine r_iload_n hC dX6_element_0 rfl ?_
  refine r_iconst hC dX6_element_1 rfl ?_
  refine r_iconst hC dX6_element_2 rfl ?_
  refine z_ins3 hM dX6_element_3 tl_RX6_76 rfl (Nat.le_of_ble_eq_true rfl) (Nat.le_of_ble_eq_true rfl) ?_
  refine m_isIn (fun h2 => ?_) (fun h2 => ?_)
  · refine r_if_eq (tgt := 35) hC dX6_element_6 rfl (fun h3 => by omega) (fun h3 => ?_)
    refine r_iconst hC dX6_element_9 rfl ?_
    refine r_istore_n hC dX6_element_10 rfl ?_
    have L11 : ∀ (n11 : Nat) (w4 : Int), 0 ≤ w4 ∧ w4 ≤ 4 → (-1 = fB (qq 35 σ w) ((w4)).toNat) → 4 - w4 < (n11 : Int) → K 11 [some (vR 30 0), some (vI w), some (vI w4), none] [] σ := by
      intro n11
      induction n11 with
      | zero => intro w4  f_w4 i0_11 hm  ; omega
      | succ n11 ih11 =>
        intro w4  f_w4 i0_11 hm11  
        refine r_iload_n hC dX6_element_11 rfl ?_
        refine r_iconst hC dX6_element_12 rfl ?_
        refine r_icmp_ge (tgt := 33) hC dX6_element_13 rfl (fun h5 => ?_) (fun h5 => ?_)
        · refine r_iconst hC dX6_element_33 rfl ?_
          refine y_iret hK rfl dX6_element_34 ?_
          obtain rfl : w4 = 4 := by omega
          have e2 : elF 35 σ w = -1 := by
            unfold elF
            rcases (by omega : w = 0 ∨ w = 1) with rfl | rfl
            · exact i0_11.symm
            · exact i0_11.symm
          rw [e2] at k
          exact k
        · refine r_aload_n hC dX6_element_16 rfl ?_
          refine r_iload_n hC dX6_element_17 rfl ?_
          refine r_iload_n hC dX6_element_18 rfl ?_
          refine z_inv2 hM dX6_element_19 vl_RX6_101 rfl rfl rfl (Nat.le_of_ble_eq_true rfl) (Nat.le_of_ble_eq_true rfl) ?_
          refine m_isSuchX (by omega) (by omega) (fun h6 => ?_) (fun h6 => ?_)
          · refine r_if_eq (tgt := 27) hC dX6_element_22 rfl (fun h7 => by omega) (fun h7 => ?_)
            refine r_iload_n hC dX6_element_25 rfl ?_
            refine y_iret hK rfl dX6_element_26 ?_
            have e := fB_stay (m := (4 : Int).toNat) (fB_new (by omega) i0_11.symm (by assumption)) (by omega) (by omega)
            have e2 : elF 35 σ w = w4 := by
              unfold elF
              rcases (by omega : w = 0 ∨ w = 1) with rfl | rfl
              · exact e
              · exact e
            rw [e2] at k
            exact k
          · refine r_if_eq (tgt := 27) hC dX6_element_22 rfl (fun h8 => ?_) (fun h8 => by omega)
            refine r_iincE hC ((w4 + 1)) dX6_element_27 rfl rfl (by omega) (by unfold inR; omega) ?_
            refine r_goto (tgt := 11) hC dX6_element_30 rfl ?_
            exact ih11 ((w4 + 1))  (by omega) (by first | rfl | (rw [fB_n (by omega) (by assumption)]; exact i0_11)) (by omega)  
    exact L11 6 (0)  (by omega) (by first | rfl | (rw [fB_n (by omega) (by assumption)]; exact i0_11)) (by omega)  
  · refine r_if_eq (tgt := 35) hC dX6_element_6 rfl (fun h9 => ?_) (fun h9 => by omega)
    refine r_iconst hC dX6_element_35 rfl ?_
    refine r_istore_n hC dX6_element_36 rfl ?_
    refine r_iload_n hC dX6_element_37 rfl ?_
    refine r_iconst hC dX6_element_38 rfl ?_
    refine r_icmp_ne (tgt := 75) hC dX6_element_39 rfl (fun h10 => ?_) (fun h10 => ?_)
    · refine r_iload_n hC dX6_element_75 rfl ?_
      refine r_iconst hC dX6_element_76 rfl ?_
      refine r_icmp_eq (tgt := 82) hC dX6_element_77 rfl (fun h11 => ?_) (fun h11 => ?_)
      · refine r_iconst hC dX6_element_82 rfl ?_
        refine r_istore_n hC dX6_element_83 rfl ?_
        have L84 : ∀ (n84 : Nat) (w12 w13 : Int), 0 ≤ w12 ∧ w12 ≤ 16 → 0 ≤ w13 ∧ w13 ≤ 16 → ((w13) = cB (cq 35 σ) ((w12)).toNat) → ((w13) ≤ (w12)) → 16 - w12 < (n84 : Int) → K 84 [some (vR 30 0), some (vI w), some (vI w13), some (vI w12)] [] σ := by
          intro n84
          induction n84 with
          | zero => intro w12 w13  f_w12 f_w13 i0_84 i1_84 hm  ; omega
          | succ n84 ih84 =>
            intro w12 w13  f_w12 f_w13 i0_84 i1_84 hm84  
            refine r_iload_n hC dX6_element_84 rfl ?_
            refine r_bipush hC dX6_element_85 rfl ?_
            refine r_icmp_ge (tgt := 127) hC dX6_element_87 rfl (fun h14 => ?_) (fun h14 => ?_)
            · refine r_iload_n hC dX6_element_127 rfl ?_
              refine y_iret hK rfl dX6_element_128 ?_
              obtain rfl : w12 = 16 := by omega
              obtain rfl : w = 3 := by omega
              have e2 : elF 35 σ 3 = w13 := i0_84.symm
              rw [e2] at k
              exact k
            · refine r_iload_n hC dX6_element_90 rfl ?_
              refine r_aload_n hC dX6_element_91 rfl ?_
              refine r_iload_n hC dX6_element_92 rfl ?_
              refine r_iconst hC dX6_element_93 rfl ?_
              refine r_idivN hC dX6_element_94 (by omega) (by omega) ?_
              refine r_iload_n hC dX6_element_95 rfl ?_
              refine r_iconst hC dX6_element_96 rfl ?_
              refine r_iremN hC dX6_element_97 (by omega) (by omega) ?_
              refine z_inv2 hM dX6_element_98 vl_RX6_88 rfl rfl rfl (Nat.le_of_ble_eq_true rfl) (Nat.le_of_ble_eq_true rfl) ?_
              refine m_productX (by omega) (by omega) (fun h15 => ?_)
              refine r_aload_n hC dX6_element_101 rfl ?_
              refine r_iload_n hC dX6_element_102 rfl ?_
              refine r_iconst hC dX6_element_103 rfl ?_
              refine r_iremN hC dX6_element_104 (by omega) (by omega) ?_
              refine r_iload_n hC dX6_element_105 rfl ?_
              refine r_iconst hC dX6_element_106 rfl ?_
              refine r_idivN hC dX6_element_107 (by omega) (by omega) ?_
              refine z_inv2 hM dX6_element_108 vl_RX6_88 rfl rfl rfl (Nat.le_of_ble_eq_true rfl) (Nat.le_of_ble_eq_true rfl) ?_
              refine m_productX (by omega) (by omega) (fun h16 => ?_)
              refine r_icmp_ne (tgt := 118) hC dX6_element_111 rfl (fun h17 => ?_) (fun h17 => ?_)
              · refine r_iconst hC dX6_element_118 rfl ?_
                refine r_iaddE hC (w13) dX6_element_119 (by omega) (by unfold inR; omega) ?_
                refine r_istore_n hC dX6_element_120 rfl ?_
                refine r_iincE hC ((w12 + 1)) dX6_element_121 rfl rfl (by omega) (by unfold inR; omega) ?_
                refine r_goto (tgt := 84) hC dX6_element_124 rfl ?_
                exact ih84 ((w12 + 1)) (w13)  (by omega) (by omega) (by first | rfl | (rw [cB_y (by omega) (cq_y (by assumption))]; omega) | (rw [cB_n (by omega) (cq_n (by assumption))]; omega)) (by omega) (by omega)  
              · refine r_iconst hC dX6_element_114 rfl ?_
                refine r_goto (tgt := 119) hC dX6_element_115 rfl ?_
                refine r_iaddE hC ((w13 + 1)) dX6_element_119 (by omega) (by unfold inR; omega) ?_
                refine r_istore_n hC dX6_element_120 rfl ?_
                refine r_iincE hC ((w12 + 1)) dX6_element_121 rfl rfl (by omega) (by unfold inR; omega) ?_
                refine r_goto (tgt := 84) hC dX6_element_124 rfl ?_
                exact ih84 ((w12 + 1)) ((w13 + 1))  (by omega) (by omega) (by first | rfl | (rw [cB_y (by omega) (cq_y (by assumption))]; omega) | (rw [cB_n (by omega) (cq_n (by assumption))]; omega)) (by omega) (by omega)  
        exact L84 18 (0) (0)  (by omega) (by omega) (by first | rfl | (rw [cB_y (by omega) (cq_y (by assumption))]; omega) | (rw [cB_n (by omega) (cq_n (by assumption))]; omega)) (by omega) (by omega)  
      · refine r_iconst hC dX6_element_80 rfl ?_
        refine y_iret hK rfl dX6_element_81 ?_
        have e : elF 35 σ w = (-1) := by unfold elF; (repeat' split) <;> first | rfl | omega
        rw [e] at k
        exact k
    · refine r_iconst hC dX6_element_42 rfl ?_
      refine r_istore_n hC dX6_element_43 rfl ?_
      have L44 : ∀ (n44 : Nat) (w18 w19 : Int), 0 ≤ w18 ∧ w18 ≤ 4 → 0 ≤ w19 ∧ w19 ≤ 4 → ((w19) = cB (ip 35 σ) ((w18)).toNat) → ((w19) ≤ (w18)) → 4 - w18 < (n44 : Int) → K 44 [some (vR 30 0), some (vI w), some (vI w19), some (vI w18)] [] σ := by
        intro n44
        induction n44 with
        | zero => intro w18 w19  f_w18 f_w19 i0_44 i1_44 hm  ; omega
        | succ n44 ih44 =>
          intro w18 w19  f_w18 f_w19 i0_44 i1_44 hm44  
          refine r_iload_n hC dX6_element_44 rfl ?_
          refine r_iconst hC dX6_element_45 rfl ?_
          refine r_icmp_ge (tgt := 73) hC dX6_element_46 rfl (fun h20 => ?_) (fun h20 => ?_)
          · refine r_iload_n hC dX6_element_73 rfl ?_
            refine y_iret hK rfl dX6_element_74 ?_
            obtain rfl : w18 = 4 := by omega
            obtain rfl : w = 2 := by omega
            have e2 : elF 35 σ 2 = w19 := i0_44.symm
            rw [e2] at k
            exact k
          · refine r_iload_n hC dX6_element_49 rfl ?_
            refine r_aload_n hC dX6_element_50 rfl ?_
            refine r_iload_n hC dX6_element_51 rfl ?_
            refine r_iload_n hC dX6_element_52 rfl ?_
            refine z_inv2 hM dX6_element_53 vl_RX6_88 rfl rfl rfl (Nat.le_of_ble_eq_true rfl) (Nat.le_of_ble_eq_true rfl) ?_
            refine m_productX (by omega) (by omega) (fun h21 => ?_)
            refine r_iload_n hC dX6_element_56 rfl ?_
            refine r_icmp_ne (tgt := 64) hC dX6_element_57 rfl (fun h22 => ?_) (fun h22 => ?_)
            · refine r_iconst hC dX6_element_64 rfl ?_
              refine r_iaddE hC (w19) dX6_element_65 (by omega) (by unfold inR; omega) ?_
              refine r_istore_n hC dX6_element_66 rfl ?_
              refine r_iincE hC ((w18 + 1)) dX6_element_67 rfl rfl (by omega) (by unfold inR; omega) ?_
              refine r_goto (tgt := 44) hC dX6_element_70 rfl ?_
              exact ih44 ((w18 + 1)) (w19)  (by omega) (by omega) (by first | rfl | (rw [cB_y (by omega) (ip_y (by assumption))]; omega) | (rw [cB_n (by omega) (ip_n (by assumption))]; omega)) (by omega) (by omega)  
            · refine r_iconst hC dX6_element_60 rfl ?_
              refine r_goto (tgt := 65) hC dX6_element_61 rfl ?_
              refine r_iaddE hC ((w19 + 1)) dX6_element_65 (by omega) (by unfold inR; omega) ?_
              refine r_istore_n hC dX6_element_66 rfl ?_
              refine r_iincE hC ((w18 + 1)) dX6_element_67 rfl rfl (by omega) (by unfold inR; omega) ?_
              refine r_goto (tgt := 44) hC dX6_element_70 rfl ?_
              exact ih44 ((w18 + 1)) ((w19 + 1))  (by omega) (by omega) (by first | rfl | (rw [cB_y (by omega) (ip_y (by assumption))]; omega) | (rw [cB_n (by omega) (ip_n (by assumption))]; omega)) (by omega) (by omega)  
      exact L44 6 (0) (0)  (by omega) (by omega) (by first | rfl | (rw [cB_y (by omega) (ip_y (by assumption))]; omega) | (rw [cB_n (by omega) (ip_n (by assumption))]; omega)) (by omega) (by omega)  
-- B: opening, shutting, what is kept and gone back to; WATCHES and LINKS
def etA (V : Mm) (l n : Int) : Mm := fun c x y => if c = 12 ∧ (0 ≤ x ∧ x < n) ∧ y = 0 ∧ V 12 x 0 = l then -1 else V c x y
def etB (V : Mm) (l n : Int) : Mm := fun c x y => if c = 13 ∧ (0 ≤ x ∧ x < n) ∧ y = 0 ∧ (x = l ∨ V 13 x 0 = l) then -1 else V c x y
def etM (V : Mm) (l : Int) : Mm := etB (etA V l 8) l 4
theorem etA_0 {V : Mm} {l : Int} : etA V l 0 = V := by
  funext c x y
  exact if_neg (by omega)
theorem etB_0 {V : Mm} {l : Int} : etB V l 0 = V := by
  funext c x y
  exact if_neg (by omega)
theorem etA_up {V : Mm} {l n x y : Int} (h : n ≤ x) : etA V l n 12 x y = V 12 x y := if_neg (by omega)
theorem etB_up {V : Mm} {l n x y : Int} (h : n ≤ x) : etB V l n 13 x y = V 13 x y := if_neg (by omega)
theorem etA_no {V : Mm} {l n : Int} (h : V 12 n 0 ≠ l) : etA V l (n + 1) = etA V l n := by
  funext c x y
  unfold etA
  by_cases hx : n = x
  · subst hx
    rw [if_neg (fun q => h q.2.2.2), if_neg (fun q => h q.2.2.2)]
  · by_cases hq : c = 12 ∧ (0 ≤ x ∧ x < n) ∧ y = 0 ∧ V 12 x 0 = l
    · rw [if_pos hq, if_pos ⟨hq.1, ⟨hq.2.1.1, by omega⟩, hq.2.2⟩]
    · rw [if_neg hq, if_neg (fun q => hq ⟨q.1, ⟨q.2.1.1, by omega⟩, q.2.2⟩)]
theorem etA_yes {V : Mm} {l n : Int} (h0 : 0 ≤ n) (h : V 12 n 0 = l) : mu (etA V l n) 12 n 0 (-1) = etA V l (n + 1) := by
  funext c x y
  by_cases hx : c = 12 ∧ x = n ∧ y = 0
  · obtain ⟨rfl, rfl, rfl⟩ := hx
    rw [mu_self]
    exact (if_pos ⟨rfl, ⟨h0, by omega⟩, rfl, h⟩).symm
  · rw [mu_ne hx]
    unfold etA
    by_cases hq : c = 12 ∧ (0 ≤ x ∧ x < n) ∧ y = 0 ∧ V 12 x 0 = l
    · rw [if_pos hq, if_pos ⟨hq.1, ⟨hq.2.1.1, by omega⟩, hq.2.2⟩]
    · rw [if_neg hq, if_neg (fun q => hq ⟨q.1, ⟨q.2.1.1, by omega⟩, q.2.2⟩)]
theorem etB_no {V : Mm} {l n : Int} (h : ¬ (n = l ∨ V 13 n 0 = l)) : etB V l (n + 1) = etB V l n := by
  funext c x y
  unfold etB
  by_cases hx : n = x
  · subst hx
    rw [if_neg (fun q => h q.2.2.2), if_neg (fun q => h q.2.2.2)]
  · by_cases hq : c = 13 ∧ (0 ≤ x ∧ x < n) ∧ y = 0 ∧ (x = l ∨ V 13 x 0 = l)
    · rw [if_pos hq, if_pos ⟨hq.1, ⟨hq.2.1.1, by omega⟩, hq.2.2⟩]
    · rw [if_neg hq, if_neg (fun q => hq ⟨q.1, ⟨q.2.1.1, by omega⟩, q.2.2⟩)]
theorem etB_yes {V : Mm} {l n : Int} (h0 : 0 ≤ n) (h : n = l ∨ V 13 n 0 = l) : mu (etB V l n) 13 n 0 (-1) = etB V l (n + 1) := by
  funext c x y
  by_cases hx : c = 13 ∧ x = n ∧ y = 0
  · obtain ⟨rfl, rfl, rfl⟩ := hx
    rw [mu_self]
    exact (if_pos ⟨rfl, ⟨h0, by omega⟩, rfl, h⟩).symm
  · rw [mu_ne hx]
    unfold etB
    by_cases hq : c = 13 ∧ (0 ≤ x ∧ x < n) ∧ y = 0 ∧ (x = l ∨ V 13 x 0 = l)
    · rw [if_pos hq, if_pos ⟨hq.1, ⟨hq.2.1.1, by omega⟩, hq.2.2⟩]
    · rw [if_neg hq, if_neg (fun q => hq ⟨q.1, ⟨q.2.1.1, by omega⟩, q.2.2⟩)]
theorem etM_ne {V : Mm} {l x y : Int} {c : Nat} (h : ¬ ((c = 12 ∨ c = 13) ∧ y = 0)) : etM V l c x y = V c x y := by
  unfold etM
  exact (if_neg (by omega) : etB (etA V l 8) l 4 c x y = _).trans (if_neg (by omega))
def bgR (o b z y : Int) (f : Int → Int) : Int → Int := fun t => if t = 1 then 1 else if t = 2 then o else if t = 3 then b else if t = 4 then z else if t = 5 then y else if t = 10 then -1 else if t = 6 ∨ (12 ≤ t ∧ t ≤ 15) then 0 else f t
def bgM (V : Mm) (l o b z y : Int) : Mm := fun c x t => if x = l then (if c = 7 then bgR o b z y (V 7 l) t else if c = 11 then zrR (V 11 l) t else V c x t) else V c x t
abbrev cpS (y : Int) : Prop := (0 ≤ y ∧ y ≤ 6) ∨ y = 10 ∨ (12 ≤ y ∧ y ≤ 15)
/-- LANE or BOX b becomes as a is -/
def cpM (V : Mm) (a b : Int) : Mm := fun c x y => if x = b then (if c = 7 then (if cpS y then V 7 a y else V 7 b y) else if c = 8 ∨ c = 9 ∨ c = 10 then (if 0 ≤ y ∧ y < V 7 a 6 then V c a y else V c b y) else if c = 11 then (if 0 ≤ y ∧ y ≤ 6 then V 11 a y else V 11 b y) else V c x y) else V c x y
def cntO (V : Mm) : Int := V 7 0 1 + V 7 1 1 + V 7 2 1 + V 7 3 1
abbrev ocC (V : Mm) (l o b z y : Int) : Prop := (0 ≤ l ∧ l ≤ 3) ∧ (0 ≤ o ∧ o ≤ 9) ∧ (0 ≤ y ∧ y ≤ 10000) ∧ (b = 0 ∨ (b = 1 ∧ 1 ≤ z ∧ z ≤ 120) ∨ (b = 2 ∧ 1 ≤ z ∧ z ≤ 10000)) ∧ (o = 9 → trpF 15 V 3 = 64)
def onM (V : Mm) (l o b z y : Int) : Mm := if ocC V l o b z y then etM (bgM V l o b (if b = 0 then 0 else z) y) l else V
def onR (V : Mm) (l o b z y : Int) : Int := if ocC V l o b z y then cntO (onM V l o b z y) else -1
def shM (V : Mm) (l : Int) : Mm := if opV V l then etM (mu V 7 l 1 0) l else V
def shR (V : Mm) (l : Int) : Int := if opV V l then 1 else 0
abbrev lkC (V : Mm) (l o z w : Int) : Prop := (opV V l ∧ 0 ≤ w ∧ w < numF (V 7 l 2)) ∧ opV V o ∧ l ≠ o ∧ (0 ≤ z ∧ z ≤ 100000) ∧ V 13 o 0 = -1 ∧ ∀ j : Int, 0 ≤ j → j < 4 → V 13 j 0 ≠ l
def lkM (V : Mm) (l o z w : Int) : Mm := mu (mu (mu (mu V 13 l 0 o) 13 l 1 z) 13 l 2 w) 13 l 3 0
abbrev ulC (V : Mm) (l : Int) : Prop := (0 ≤ l ∧ l ≤ 3) ∧ V 13 l 0 ≠ -1
def ulM (V : Mm) (l : Int) : Mm := if ulC V l then mu V 13 l 0 (-1) else V
def ulR (V : Mm) (l : Int) : Int := if ulC V l then 1 else 0
abbrev kpC (V : Mm) (l x : Int) : Prop := opV V l ∧ 0 ≤ x ∧ x ≤ 2
def kpM (V : Mm) (l x : Int) : Mm := if kpC V l x then cpM V l (x + 4) else V
def kpR (V : Mm) (l x : Int) : Int := if kpC V l x then V 7 l 6 else -1
abbrev bkC (V : Mm) (x : Int) : Prop := (0 ≤ x ∧ x ≤ 2) ∧ V 7 (x + 4) 1 = 1
def bkM (V : Mm) (x : Int) : Mm := if bkC V x then etM (cpM V (x + 4) (V 7 (x + 4) 0)) (V 7 (x + 4) 0) else V
def bkR (V : Mm) (x : Int) : Int := if bkC V x then V 7 (x + 4) 6 else -1
abbrev usV (V : Mm) (o : Int) : Prop := ∃ j : Int, (0 ≤ j ∧ j < 7) ∧ V 7 j 1 = 1 ∧ V 7 j 2 = o
-- B: the class: opening, shutting
theorem x_wend {e : Ev} {d : Nat} {P : Option Vl → Mm → Prop} {σ : Mm} {i : Int} (b_i : 0 ≤ i ∧ i ≤ 7)  (k : P none (mu σ 12 i 0 (-1))) : WT e (d + 1) 45 [vR 12 i] σ P := by
  refine WT_in fun K hK => ?_
  have hK : StpY e cX4_end RX4 (none) (WT e (d + 0)) P K := hK
  have hM := hK.1
  have hC := hK.1.1
  show K 0 [some (vR 12 i)] [] σ
  refine r_aload_n hC dX4_end_0 rfl ?_
  refine r_iconst hC dX4_end_1 rfl ?_
  refine z_putIT (jz := 0) hM dX4_end_2 fw_RX4_9 rfl rfl rfl ⟨Or.inr (by first | exact id | exact dl7_ (by decide) | simp [DL]), Or.inr (by first | exact id | exact df14_ (by decide) | simp [DF])⟩ (by first | trivial | (simp only [Okv]; omega) | (simp [Okv]; try omega)) ?_
  refine y_vret hK rfl dX4_end_5 ?_
  exact k
theorem x_lend {e : Ev} {d : Nat} {P : Option Vl → Mm → Prop} {σ : Mm} {i : Int} (b_i : 0 ≤ i ∧ i ≤ 3)  (k : P none (mu σ 13 i 0 (-1))) : WT e (d + 1) 40 [vR 13 i] σ P := by
  refine WT_in fun K hK => ?_
  have hK : StpY e cX3_end RX3 (none) (WT e (d + 0)) P K := hK
  have hM := hK.1
  have hC := hK.1.1
  show K 0 [some (vR 13 i)] [] σ
  refine r_aload_n hC dX3_end_0 rfl ?_
  refine r_iconst hC dX3_end_1 rfl ?_
  refine z_putIT (jz := 0) hM dX3_end_2 fw_RX3_9 rfl rfl rfl ⟨Or.inr (by first | exact id | exact dl7_ (by decide) | simp [DL]), Or.inr (by first | exact id | exact df14_ (by decide) | simp [DF])⟩ (by first | trivial | (simp only [Okv]; omega) | (simp [Okv]; try omega)) ?_
  refine y_vret hK rfl dX3_end_5 ?_
  exact k
theorem x_endTies {e : Ev} {d : Nat} {P : Option Vl → Mm → Prop} {σ : Mm} {l : Int} (b_l : 0 ≤ l ∧ l ≤ 3)  (k : P none (etM σ l)) : WT e (d + 2) 108 [vR 2 0, vI l] σ P := by
  refine WT_in fun K hK => ?_
  have hK : StpY e cX5_endTies RX5 (none) (WT e (d + 1)) P K := hK
  have hM := hK.1
  have hC := hK.1.1
  show K 0 [some (vR 2 0), some (vI l), none] [] σ
  refine r_iconst hC dX5_endTies_0 rfl ?_
  refine r_istore_n hC dX5_endTies_1 rfl ?_
  have L2 : ∀ (n2 : Nat) (w1 : Int) (ρ2 : Mm), 0 ≤ w1 ∧ w1 ≤ 8 → 8 - w1 < (n2 : Int) → (ρ2 = etA σ l (w1)) → K 2 [some (vR 2 0), some (vI l), some (vI w1)] [] ρ2 := by
    intro n2
    induction n2 with
    | zero => intro w1 ρ2 f_w1  hm  m0_2; omega
    | succ n2 ih2 =>
      intro w1 ρ2 f_w1  hm2  m0_2
      refine r_iload_n hC dX5_endTies_2 rfl ?_
      refine r_bipush hC dX5_endTies_3 rfl ?_
      refine r_icmp_ge (tgt := 36) hC dX5_endTies_5 rfl (fun h3 => ?_) (fun h3 => ?_)
      · refine r_iconst hC dX5_endTies_36 rfl ?_
        refine r_istore_n hC dX5_endTies_37 rfl ?_
        have L38 : ∀ (n38 : Nat) (w4 : Int) (ρ5 : Mm), 0 ≤ w4 ∧ w4 ≤ 4 → 4 - w4 < (n38 : Int) → (ρ5 = etB (etA σ l 8) l (w4)) → K 38 [some (vR 2 0), some (vI l), some (vI w4)] [] ρ5 := by
          intro n38
          induction n38 with
          | zero => intro w4 ρ5 f_w4  hm  m0_38; omega
          | succ n38 ih38 =>
            intro w4 ρ5 f_w4  hm38  m0_38
            refine r_iload_n hC dX5_endTies_38 rfl ?_
            refine r_iconst hC dX5_endTies_39 rfl ?_
            refine r_icmp_ge (tgt := 76) hC dX5_endTies_40 rfl (fun h6 => ?_) (fun h6 => ?_)
            · refine y_vret hK rfl dX5_endTies_76 ?_
              have hm : etM σ l = ρ5 := by rw [m0_38, show w4 = (4 : Int) from by omega]; rfl
              rw [hm] at k
              exact k
            · have e13 : ρ5 13 w4 0 = (etA σ l 8) 13 w4 0 := by rw [m0_38]; exact etB_up (by omega)
              refine r_iload_n hC dX5_endTies_43 rfl ?_
              refine r_iload_n hC dX5_endTies_44 rfl ?_
              refine r_icmp_eq (tgt := 61) hC dX5_endTies_45 rfl (fun h7 => ?_) (fun h7 => ?_)
              · refine r_aload_n hC dX5_endTies_61 rfl ?_
                refine z_getR hM dX5_endTies_62 fl_RX5_19 rfl rfl (vld_of (n := 1) rfl (by omega) (by omega)) ?_
                refine r_iload_n hC dX5_endTies_65 rfl ?_
                refine z_aald hM dX5_endTies_66 rfl (by decide) (by omega) (by omega) (vld_of (n := 4) rfl (by omega) (by omega)) ?_
                refine z_inv0 hM dX5_endTies_67 vl_RX5_340 rfl rfl rfl (Nat.le_of_ble_eq_true rfl) (Nat.le_of_ble_eq_true rfl) ?_
                refine x_lend (by omega) ?_
                refine r_iincE hC ((w4 + 1)) dX5_endTies_70 rfl rfl (by omega) (by unfold inR; omega) ?_
                refine r_goto (tgt := 38) hC dX5_endTies_73 rfl ?_
                exact ih38 ((w4 + 1)) (mu ρ5 13 w4 0 (-1)) (by omega)  (by omega)  (by rw [m0_38]; exact etB_yes (by omega) (by omega))
              · refine r_aload_n hC dX5_endTies_48 rfl ?_
                refine z_getR hM dX5_endTies_49 fl_RX5_19 rfl rfl (vld_of (n := 1) rfl (by omega) (by omega)) ?_
                refine r_iload_n hC dX5_endTies_52 rfl ?_
                refine z_aald hM dX5_endTies_53 rfl (by decide) (by omega) (by omega) (vld_of (n := 4) rfl (by omega) (by omega)) ?_
                refine z_getI (jz := 0) hM dX5_endTies_54 fl_RX5_215 rfl rfl rfl (fun v8 h_v8 o_v8 t_v8 => ?_)
                have w_v8 := ((t_v8 (Or.inl (by first | exact trivial | exact tb7_ (by decide) | simp [Tb]))).trans (rfl)).symm
                clear t_v8
                subst w_v8
                refine r_iload_n hC dX5_endTies_57 rfl ?_
                refine r_icmp_ne (tgt := 70) hC dX5_endTies_58 rfl (fun h9 => ?_) (fun h9 => ?_)
                · refine r_iincE hC ((w4 + 1)) dX5_endTies_70 rfl rfl (by omega) (by unfold inR; omega) ?_
                  refine r_goto (tgt := 38) hC dX5_endTies_73 rfl ?_
                  exact ih38 ((w4 + 1)) ρ5 (by omega)  (by omega)  (by rw [m0_38]; exact (etB_no (by omega)).symm)
                · refine r_aload_n hC dX5_endTies_61 rfl ?_
                  refine z_getR hM dX5_endTies_62 fl_RX5_19 rfl rfl (vld_of (n := 1) rfl (by omega) (by omega)) ?_
                  refine r_iload_n hC dX5_endTies_65 rfl ?_
                  refine z_aald hM dX5_endTies_66 rfl (by decide) (by omega) (by omega) (vld_of (n := 4) rfl (by omega) (by omega)) ?_
                  refine z_inv0 hM dX5_endTies_67 vl_RX5_340 rfl rfl rfl (Nat.le_of_ble_eq_true rfl) (Nat.le_of_ble_eq_true rfl) ?_
                  refine x_lend (by omega) ?_
                  refine r_iincE hC ((w4 + 1)) dX5_endTies_70 rfl rfl (by omega) (by unfold inR; omega) ?_
                  refine r_goto (tgt := 38) hC dX5_endTies_73 rfl ?_
                  exact ih38 ((w4 + 1)) (mu ρ5 13 w4 0 (-1)) (by omega)  (by omega)  (by rw [m0_38]; exact etB_yes (by omega) (by omega))
        exact L38 6 (0) ρ2 (by omega)  (by omega)  (by rw [etB_0, m0_2, show w1 = (8 : Int) from by omega])
      · have e12 : ρ2 12 w1 0 = σ 12 w1 0 := by rw [m0_2]; exact etA_up (by omega)
        refine r_aload_n hC dX5_endTies_8 rfl ?_
        refine z_getR hM dX5_endTies_9 fl_RX5_32 rfl rfl (vld_of (n := 1) rfl (by omega) (by omega)) ?_
        refine r_iload_n hC dX5_endTies_12 rfl ?_
        refine z_aald hM dX5_endTies_13 rfl (by decide) (by omega) (by omega) (vld_of (n := 8) rfl (by omega) (by omega)) ?_
        refine z_getI (jz := 0) hM dX5_endTies_14 fl_RX5_321 rfl rfl rfl (fun v10 h_v10 o_v10 t_v10 => ?_)
        have w_v10 := ((t_v10 (Or.inl (by first | exact trivial | exact tb7_ (by decide) | simp [Tb]))).trans (rfl)).symm
        clear t_v10
        subst w_v10
        refine r_iload_n hC dX5_endTies_17 rfl ?_
        refine r_icmp_ne (tgt := 30) hC dX5_endTies_18 rfl (fun h11 => ?_) (fun h11 => ?_)
        · refine r_iincE hC ((w1 + 1)) dX5_endTies_30 rfl rfl (by omega) (by unfold inR; omega) ?_
          refine r_goto (tgt := 2) hC dX5_endTies_33 rfl ?_
          exact ih2 ((w1 + 1)) ρ2 (by omega)  (by omega)  (by rw [m0_2]; exact (etA_no (by omega)).symm)
        · refine r_aload_n hC dX5_endTies_21 rfl ?_
          refine z_getR hM dX5_endTies_22 fl_RX5_32 rfl rfl (vld_of (n := 1) rfl (by omega) (by omega)) ?_
          refine r_iload_n hC dX5_endTies_25 rfl ?_
          refine z_aald hM dX5_endTies_26 rfl (by decide) (by omega) (by omega) (vld_of (n := 8) rfl (by omega) (by omega)) ?_
          refine z_inv0 hM dX5_endTies_27 vl_RX5_344 rfl rfl rfl (Nat.le_of_ble_eq_true rfl) (Nat.le_of_ble_eq_true rfl) ?_
          refine x_wend (by omega) ?_
          refine r_iincE hC ((w1 + 1)) dX5_endTies_30 rfl rfl (by omega) (by unfold inR; omega) ?_
          refine r_goto (tgt := 2) hC dX5_endTies_33 rfl ?_
          exact ih2 ((w1 + 1)) (mu ρ2 12 w1 0 (-1)) (by omega)  (by omega)  (by rw [m0_2]; exact etA_yes (by omega) (by omega))
  exact L2 10 (0) σ (by omega)  (by omega)  (etA_0.symm)
theorem bgM_eq {V : Mm} {l o b z y : Int} : bgM V l o b z y = (su (mu (mu (mu (mu (mu (mu (mu (mu (mu (mu (mu V 7 l 1 1) 7 l 2 o) 7 l 3 b) 7 l 4 z) 7 l 5 y) 7 l 6 0) 7 l 10 (-1)) 7 l 12 0) 7 l 13 0) 7 l 14 0) 7 l 15 0) 11 l (zrR ((mu (mu (mu (mu (mu (mu (mu (mu (mu (mu (mu V 7 l 1 1) 7 l 2 o) 7 l 3 b) 7 l 4 z) 7 l 5 y) 7 l 6 0) 7 l 10 (-1)) 7 l 12 0) 7 l 13 0) 7 l 14 0) 7 l 15 0) 11 l))) := by
  funext c x t
  by_cases hx : l = x
  · subst hx
    unfold bgM
    rw [if_pos rfl]
    by_cases c7 : c = 7
    · subst c7
      rw [if_pos rfl]
      by_cases t1 : t = 1
      · subst t1
        rw [su_ne (by omega), mu_ne (by omega), mu_ne (by omega), mu_ne (by omega), mu_ne (by omega), mu_ne (by omega), mu_ne (by omega), mu_ne (by omega), mu_ne (by omega), mu_ne (by omega), mu_ne (by omega), mu_self]
        first | rfl | (simp [bgR])
      by_cases t2 : t = 2
      · subst t2
        rw [su_ne (by omega), mu_ne (by omega), mu_ne (by omega), mu_ne (by omega), mu_ne (by omega), mu_ne (by omega), mu_ne (by omega), mu_ne (by omega), mu_ne (by omega), mu_ne (by omega), mu_self]
        first | rfl | (simp [bgR])
      by_cases t3 : t = 3
      · subst t3
        rw [su_ne (by omega), mu_ne (by omega), mu_ne (by omega), mu_ne (by omega), mu_ne (by omega), mu_ne (by omega), mu_ne (by omega), mu_ne (by omega), mu_ne (by omega), mu_self]
        first | rfl | (simp [bgR])
      by_cases t4 : t = 4
      · subst t4
        rw [su_ne (by omega), mu_ne (by omega), mu_ne (by omega), mu_ne (by omega), mu_ne (by omega), mu_ne (by omega), mu_ne (by omega), mu_ne (by omega), mu_self]
        first | rfl | (simp [bgR])
      by_cases t5 : t = 5
      · subst t5
        rw [su_ne (by omega), mu_ne (by omega), mu_ne (by omega), mu_ne (by omega), mu_ne (by omega), mu_ne (by omega), mu_ne (by omega), mu_self]
        first | rfl | (simp [bgR])
      by_cases t6 : t = 6
      · subst t6
        rw [su_ne (by omega), mu_ne (by omega), mu_ne (by omega), mu_ne (by omega), mu_ne (by omega), mu_ne (by omega), mu_self]
        first | rfl | (simp [bgR])
      by_cases t10 : t = 10
      · subst t10
        rw [su_ne (by omega), mu_ne (by omega), mu_ne (by omega), mu_ne (by omega), mu_ne (by omega), mu_self]
        first | rfl | (simp [bgR])
      by_cases t12 : t = 12
      · subst t12
        rw [su_ne (by omega), mu_ne (by omega), mu_ne (by omega), mu_ne (by omega), mu_self]
        first | rfl | (simp [bgR])
      by_cases t13 : t = 13
      · subst t13
        rw [su_ne (by omega), mu_ne (by omega), mu_ne (by omega), mu_self]
        first | rfl | (simp [bgR])
      by_cases t14 : t = 14
      · subst t14
        rw [su_ne (by omega), mu_ne (by omega), mu_self]
        first | rfl | (simp [bgR])
      by_cases t15 : t = 15
      · subst t15
        rw [su_ne (by omega), mu_self]
        first | rfl | (simp [bgR])
      rw [su_ne (by omega), mu_ne (by omega), mu_ne (by omega), mu_ne (by omega), mu_ne (by omega), mu_ne (by omega), mu_ne (by omega), mu_ne (by omega), mu_ne (by omega), mu_ne (by omega), mu_ne (by omega), mu_ne (by omega)]
      unfold bgR
      rw [if_neg t1, if_neg t2, if_neg t3, if_neg t4, if_neg t5, if_neg t10, if_neg (by omega)]
    rw [if_neg c7]
    by_cases c11 : c = 11
    · subst c11
      rw [if_pos rfl, su_at]
      rw [show (mu (mu (mu (mu (mu (mu (mu (mu (mu (mu (mu V 7 l 1 1) 7 l 2 o) 7 l 3 b) 7 l 4 z) 7 l 5 y) 7 l 6 0) 7 l 10 (-1)) 7 l 12 0) 7 l 13 0) 7 l 14 0) 7 l 15 0) 11 l = V 11 l from funext fun y => by rw [mu_ne (by omega), mu_ne (by omega), mu_ne (by omega), mu_ne (by omega), mu_ne (by omega), mu_ne (by omega), mu_ne (by omega), mu_ne (by omega), mu_ne (by omega), mu_ne (by omega), mu_ne (by omega)]]
    rw [if_neg c11]
    rw [su_ne (by omega), mu_ne (by omega), mu_ne (by omega), mu_ne (by omega), mu_ne (by omega), mu_ne (by omega), mu_ne (by omega), mu_ne (by omega), mu_ne (by omega), mu_ne (by omega), mu_ne (by omega), mu_ne (by omega)]
  · unfold bgM
    rw [if_neg (fun q => hx q.symm)]
    rw [su_ne (by omega), mu_ne (by omega), mu_ne (by omega), mu_ne (by omega), mu_ne (by omega), mu_ne (by omega), mu_ne (by omega), mu_ne (by omega), mu_ne (by omega), mu_ne (by omega), mu_ne (by omega), mu_ne (by omega)]
theorem x_begin_L {eb ec : Bool} {d : Nat} {P : Option Vl → Mm → Prop} {σ : Mm} {l o b z y : Int} (b_l : 0 ≤ l ∧ l ≤ 6) (b_o : 0 ≤ o ∧ o ≤ 9)  (k : P none (bgM σ l o b z y)) : WT (true, eb, ec) (d + 2) 26 [vR 7 l, vI o, vI b, vI z, vI y] σ P := by
  refine WT_in fun K hK => ?_
  have hK : StpY (true, eb, ec) cX2_begin RX2 (none) (WT (true, eb, ec) (d + 1)) P K := hK
  have hM := hK.1
  have hC := hK.1.1
  show K 0 [some (vR 7 l), some (vI o), some (vI b), some (vI z), some (vI y)] [] σ
  refine r_rngz hC (fun g0 => ?_)
  have r_b : -2147483648 ≤ b ∧ b ≤ 2147483647 := inR_le (g0 (vI b) (by simp))
  have r_z : -2147483648 ≤ z ∧ z ≤ 2147483647 := inR_le (g0 (vI z) (by simp))
  have r_y : -2147483648 ≤ y ∧ y ≤ 2147483647 := inR_le (g0 (vI y) (by simp))
  refine r_aload_n hC dX2_begin_0 rfl ?_
  refine r_iconst hC dX2_begin_1 rfl ?_
  refine z_putZT (jz := 1) hM dX2_begin_2 fw_RX2_32 rfl rfl rfl (by omega) ⟨Or.inr (by first | exact id | exact dl7_ (by decide) | simp [DL]), Or.inr (by first | exact id | exact df14_ (by decide) | simp [DF])⟩ (by first | trivial | (simp only [Okv]; omega) | (simp [Okv]; try omega)) ?_
  refine r_aload_n hC dX2_begin_5 rfl ?_
  refine r_iload_n hC dX2_begin_6 rfl ?_
  refine z_putIT (jz := 2) hM dX2_begin_7 fw_RX2_36 rfl rfl rfl ⟨Or.inr (by first | exact id | exact dl7_ (by decide) | simp [DL]), Or.inr (by first | exact id | exact df14_ (by decide) | simp [DF])⟩ (by first | trivial | (simp only [Okv]; omega) | (simp [Okv]; try omega)) ?_
  refine r_aload_n hC dX2_begin_10 rfl ?_
  refine r_iload_n hC dX2_begin_11 rfl ?_
  refine z_putIT (jz := 3) hM dX2_begin_12 fw_RX2_39 rfl rfl rfl ⟨Or.inl rfl, Or.inr (by first | exact id | exact df14_ (by decide) | simp [DF])⟩ (by first | trivial | (simp only [Okv]; omega) | (simp [Okv]; try omega)) ?_
  refine r_aload_n hC dX2_begin_15 rfl ?_
  refine r_iload_n hC dX2_begin_16 rfl ?_
  refine z_putIT (jz := 4) hM dX2_begin_17 fw_RX2_42 rfl rfl rfl ⟨Or.inl rfl, Or.inr (by first | exact id | exact df14_ (by decide) | simp [DF])⟩ (by first | trivial | (simp only [Okv]; omega) | (simp [Okv]; try omega)) ?_
  refine r_aload_n hC dX2_begin_20 rfl ?_
  refine r_iload hC dX2_begin_21 rfl ?_
  refine z_putIT (jz := 5) hM dX2_begin_23 fw_RX2_45 rfl rfl rfl ⟨Or.inr (by first | exact id | exact dl7_ (by decide) | simp [DL]), Or.inr (by first | exact id | exact df14_ (by decide) | simp [DF])⟩ (by first | trivial | (simp only [Okv]; omega) | (simp [Okv]; try omega)) ?_
  refine r_aload_n hC dX2_begin_26 rfl ?_
  refine r_iconst hC dX2_begin_27 rfl ?_
  refine z_putIT (jz := 6) hM dX2_begin_28 fw_RX2_48 rfl rfl rfl ⟨Or.inl rfl, Or.inr (by first | exact id | exact df14_ (by decide) | simp [DF])⟩ (by first | trivial | (simp only [Okv]; omega) | (simp [Okv]; try omega)) ?_
  refine r_aload_n hC dX2_begin_31 rfl ?_
  refine r_iconst hC dX2_begin_32 rfl ?_
  refine z_putIT (jz := 10) hM dX2_begin_33 fw_RX2_51 rfl rfl rfl ⟨Or.inr (by first | exact id | exact dl7_ (by decide) | simp [DL]), Or.inr (by first | exact id | exact df14_ (by decide) | simp [DF])⟩ (by first | trivial | (simp only [Okv]; omega) | (simp [Okv]; try omega)) ?_
  refine r_aload_n hC dX2_begin_36 rfl ?_
  refine r_iconst hC dX2_begin_37 rfl ?_
  refine z_putIU (jz := 11) hM dX2_begin_38 fw_RX2_54 rfl rfl rfl (by simp [Un, Tb, DL, DF, DR, DX]) (by simp [Okv]) ?_
  refine r_aload_n hC dX2_begin_41 rfl ?_
  refine r_iconst hC dX2_begin_42 rfl ?_
  refine z_putIT (jz := 12) hM dX2_begin_43 fw_RX2_57 rfl rfl rfl ⟨Or.inr (by first | exact id | exact dl7_ (by decide) | simp [DL]), Or.inr (by first | exact id | exact df14_ (by decide) | simp [DF])⟩ (by first | trivial | (simp only [Okv]; omega) | (simp [Okv]; try omega)) ?_
  refine r_aload_n hC dX2_begin_46 rfl ?_
  refine r_iconst hC dX2_begin_47 rfl ?_
  refine z_putIT (jz := 13) hM dX2_begin_48 fw_RX2_60 rfl rfl rfl ⟨Or.inr (by first | exact id | exact dl7_ (by decide) | simp [DL]), Or.inr (by first | exact id | exact df14_ (by decide) | simp [DF])⟩ (by first | trivial | (simp only [Okv]; omega) | (simp [Okv]; try omega)) ?_
  refine r_aload_n hC dX2_begin_51 rfl ?_
  refine r_iconst hC dX2_begin_52 rfl ?_
  refine z_putIT (jz := 14) hM dX2_begin_53 fw_RX2_63 rfl rfl rfl ⟨Or.inr (by first | exact id | exact dl7_ (by decide) | simp [DL]), Or.inr (by first | exact id | exact df14_ (by decide) | simp [DF])⟩ (by first | trivial | (simp only [Okv]; omega) | (simp [Okv]; try omega)) ?_
  refine r_aload_n hC dX2_begin_56 rfl ?_
  refine r_iconst hC dX2_begin_57 rfl ?_
  refine z_putIT (jz := 15) hM dX2_begin_58 fw_RX2_66 rfl rfl rfl ⟨Or.inr (by first | exact id | exact dl7_ (by decide) | simp [DL]), Or.inr (by first | exact id | exact df14_ (by decide) | simp [DF])⟩ (by first | trivial | (simp only [Okv]; omega) | (simp [Okv]; try omega)) ?_
  refine r_aload_n hC dX2_begin_61 rfl ?_
  refine z_getR hM dX2_begin_62 fl_RX2_28 rfl rfl (vld_of (n := 8) rfl (by omega) (by omega)) ?_
  refine z_inv0 hM dX2_begin_65 vl_RX2_69 rfl rfl rfl (Nat.le_of_ble_eq_true rfl) (Nat.le_of_ble_eq_true rfl) ?_
  refine x_clear (by omega) ?_
  refine y_vret hK rfl dX2_begin_68 ?_
  have hm : bgM σ l o b z y = (su (mu (mu (mu (mu (mu (mu (mu (mu (mu (mu (mu σ 7 l 1 1) 7 l 2 o) 7 l 3 b) 7 l 4 z) 7 l 5 y) 7 l 6 0) 7 l 10 (-1)) 7 l 12 0) 7 l 13 0) 7 l 14 0) 7 l 15 0) 11 l (zrR ((mu (mu (mu (mu (mu (mu (mu (mu (mu (mu (mu σ 7 l 1 1) 7 l 2 o) 7 l 3 b) 7 l 4 z) 7 l 5 y) 7 l 6 0) 7 l 10 (-1)) 7 l 12 0) 7 l 13 0) 7 l 14 0) 7 l 15 0) 11 l))) := bgM_eq
  rw [hm] at k
  exact k
theorem x_openLanes {e : Ev} {d : Nat} {P : Option Vl → Mm → Prop} {σ : Mm}   (k : P (some (vI (cntO σ))) σ) : WT e (d + 1) 117 [vR 2 0] σ P := by
  refine WT_in fun K hK => ?_
  have hK : StpY e cX5_openLanes RX5 (some .int) (WT e (d + 0)) P K := hK
  have hM := hK.1
  have hC := hK.1.1
  show K 0 [some (vR 2 0), none, none] [] σ
  refine r_iconst hC dX5_openLanes_0 rfl ?_
  refine r_istore_n hC dX5_openLanes_1 rfl ?_
  refine r_iconst hC dX5_openLanes_2 rfl ?_
  refine r_istore_n hC dX5_openLanes_3 rfl ?_
  refine r_iload_n hC dX5_openLanes_4 rfl ?_
  refine r_iconst hC dX5_openLanes_5 rfl ?_
  refine r_icmp_ge (tgt := 35) hC dX5_openLanes_6 rfl (fun h1 => by omega) (fun h1 => ?_)
  refine r_iload_n hC dX5_openLanes_9 rfl ?_
  refine r_aload_n hC dX5_openLanes_10 rfl ?_
  refine z_getR hM dX5_openLanes_11 fl_RX5_13 rfl rfl (vld_of (n := 1) rfl (by omega) (by omega)) ?_
  refine r_iload_n hC dX5_openLanes_14 rfl ?_
  refine z_aald hM dX5_openLanes_15 rfl (by decide) (by omega) (by omega) (vld_of (n := 7) rfl (by omega) (by omega)) ?_
  refine z_getI (jz := 1) hM dX5_openLanes_16 fl_RX5_94 rfl rfl rfl (fun v2 h_v2 o_v2 t_v2 => ?_)
  have w_v2 := ((t_v2 (Or.inl (by first | exact trivial | exact tb7_ (by decide) | simp [Tb]))).trans (rfl)).symm
  clear t_v2
  subst w_v2
  have q_v2 : 0 ≤ (σ 7 0 1) ∧ (σ 7 0 1) ≤ 1 := by have := o_v2.2.1 rfl; omega
  refine r_if_eq (tgt := 26) hC dX5_openLanes_19 rfl (fun h3 => ?_) (fun h3 => ?_)
  · refine r_iconst hC dX5_openLanes_26 rfl ?_
    refine r_iaddE hC (0) dX5_openLanes_27 (by omega) (by unfold inR; omega) ?_
    refine r_istore_n hC dX5_openLanes_28 rfl ?_
    refine r_iincE hC (1) dX5_openLanes_29 rfl rfl (by omega) (by unfold inR; omega) ?_
    refine r_goto (tgt := 4) hC dX5_openLanes_32 rfl ?_
    refine r_iload_n hC dX5_openLanes_4 rfl ?_
    refine r_iconst hC dX5_openLanes_5 rfl ?_
    refine r_icmp_ge (tgt := 35) hC dX5_openLanes_6 rfl (fun h4 => by omega) (fun h4 => ?_)
    refine r_iload_n hC dX5_openLanes_9 rfl ?_
    refine r_aload_n hC dX5_openLanes_10 rfl ?_
    refine z_getR hM dX5_openLanes_11 fl_RX5_13 rfl rfl (vld_of (n := 1) rfl (by omega) (by omega)) ?_
    refine r_iload_n hC dX5_openLanes_14 rfl ?_
    refine z_aald hM dX5_openLanes_15 rfl (by decide) (by omega) (by omega) (vld_of (n := 7) rfl (by omega) (by omega)) ?_
    refine z_getI (jz := 1) hM dX5_openLanes_16 fl_RX5_94 rfl rfl rfl (fun v5 h_v5 o_v5 t_v5 => ?_)
    have w_v5 := ((t_v5 (Or.inl (by first | exact trivial | exact tb7_ (by decide) | simp [Tb]))).trans (rfl)).symm
    clear t_v5
    subst w_v5
    have q_v5 : 0 ≤ (σ 7 1 1) ∧ (σ 7 1 1) ≤ 1 := by have := o_v5.2.1 rfl; omega
    refine r_if_eq (tgt := 26) hC dX5_openLanes_19 rfl (fun h6 => ?_) (fun h6 => ?_)
    · refine r_iconst hC dX5_openLanes_26 rfl ?_
      refine r_iaddE hC (0) dX5_openLanes_27 (by omega) (by unfold inR; omega) ?_
      refine r_istore_n hC dX5_openLanes_28 rfl ?_
      refine r_iincE hC (2) dX5_openLanes_29 rfl rfl (by omega) (by unfold inR; omega) ?_
      refine r_goto (tgt := 4) hC dX5_openLanes_32 rfl ?_
      refine r_iload_n hC dX5_openLanes_4 rfl ?_
      refine r_iconst hC dX5_openLanes_5 rfl ?_
      refine r_icmp_ge (tgt := 35) hC dX5_openLanes_6 rfl (fun h7 => by omega) (fun h7 => ?_)
      refine r_iload_n hC dX5_openLanes_9 rfl ?_
      refine r_aload_n hC dX5_openLanes_10 rfl ?_
      refine z_getR hM dX5_openLanes_11 fl_RX5_13 rfl rfl (vld_of (n := 1) rfl (by omega) (by omega)) ?_
      refine r_iload_n hC dX5_openLanes_14 rfl ?_
      refine z_aald hM dX5_openLanes_15 rfl (by decide) (by omega) (by omega) (vld_of (n := 7) rfl (by omega) (by omega)) ?_
      refine z_getI (jz := 1) hM dX5_openLanes_16 fl_RX5_94 rfl rfl rfl (fun v8 h_v8 o_v8 t_v8 => ?_)
      have w_v8 := ((t_v8 (Or.inl (by first | exact trivial | exact tb7_ (by decide) | simp [Tb]))).trans (rfl)).symm
      clear t_v8
      subst w_v8
      have q_v8 : 0 ≤ (σ 7 2 1) ∧ (σ 7 2 1) ≤ 1 := by have := o_v8.2.1 rfl; omega
      refine r_if_eq (tgt := 26) hC dX5_openLanes_19 rfl (fun h9 => ?_) (fun h9 => ?_)
      · refine r_iconst hC dX5_openLanes_26 rfl ?_
        refine r_iaddE hC (0) dX5_openLanes_27 (by omega) (by unfold inR; omega) ?_
        refine r_istore_n hC dX5_openLanes_28 rfl ?_
        refine r_iincE hC (3) dX5_openLanes_29 rfl rfl (by omega) (by unfold inR; omega) ?_
        refine r_goto (tgt := 4) hC dX5_openLanes_32 rfl ?_
        refine r_iload_n hC dX5_openLanes_4 rfl ?_
        refine r_iconst hC dX5_openLanes_5 rfl ?_
        refine r_icmp_ge (tgt := 35) hC dX5_openLanes_6 rfl (fun h10 => by omega) (fun h10 => ?_)
        refine r_iload_n hC dX5_openLanes_9 rfl ?_
        refine r_aload_n hC dX5_openLanes_10 rfl ?_
        refine z_getR hM dX5_openLanes_11 fl_RX5_13 rfl rfl (vld_of (n := 1) rfl (by omega) (by omega)) ?_
        refine r_iload_n hC dX5_openLanes_14 rfl ?_
        refine z_aald hM dX5_openLanes_15 rfl (by decide) (by omega) (by omega) (vld_of (n := 7) rfl (by omega) (by omega)) ?_
        refine z_getI (jz := 1) hM dX5_openLanes_16 fl_RX5_94 rfl rfl rfl (fun v11 h_v11 o_v11 t_v11 => ?_)
        have w_v11 := ((t_v11 (Or.inl (by first | exact trivial | exact tb7_ (by decide) | simp [Tb]))).trans (rfl)).symm
        clear t_v11
        subst w_v11
        have q_v11 : 0 ≤ (σ 7 3 1) ∧ (σ 7 3 1) ≤ 1 := by have := o_v11.2.1 rfl; omega
        refine r_if_eq (tgt := 26) hC dX5_openLanes_19 rfl (fun h12 => ?_) (fun h12 => ?_)
        · refine r_iconst hC dX5_openLanes_26 rfl ?_
          refine r_iaddE hC (0) dX5_openLanes_27 (by omega) (by unfold inR; omega) ?_
          refine r_istore_n hC dX5_openLanes_28 rfl ?_
          refine r_iincE hC (4) dX5_openLanes_29 rfl rfl (by omega) (by unfold inR; omega) ?_
          refine r_goto (tgt := 4) hC dX5_openLanes_32 rfl ?_
          refine r_iload_n hC dX5_openLanes_4 rfl ?_
          refine r_iconst hC dX5_openLanes_5 rfl ?_
          refine r_icmp_ge (tgt := 35) hC dX5_openLanes_6 rfl (fun h13 => ?_) (fun h13 => by omega)
          refine r_iload_n hC dX5_openLanes_35 rfl ?_
          refine y_iret hK rfl dX5_openLanes_36 ?_
          have e : cntO σ = 0 := by unfold cntO; omega
          rw [e] at k
          exact k
        · refine r_iconst hC dX5_openLanes_22 rfl ?_
          refine r_goto (tgt := 27) hC dX5_openLanes_23 rfl ?_
          refine r_iaddE hC (1) dX5_openLanes_27 (by omega) (by unfold inR; omega) ?_
          refine r_istore_n hC dX5_openLanes_28 rfl ?_
          refine r_iincE hC (4) dX5_openLanes_29 rfl rfl (by omega) (by unfold inR; omega) ?_
          refine r_goto (tgt := 4) hC dX5_openLanes_32 rfl ?_
          refine r_iload_n hC dX5_openLanes_4 rfl ?_
          refine r_iconst hC dX5_openLanes_5 rfl ?_
          refine r_icmp_ge (tgt := 35) hC dX5_openLanes_6 rfl (fun h14 => ?_) (fun h14 => by omega)
          refine r_iload_n hC dX5_openLanes_35 rfl ?_
          refine y_iret hK rfl dX5_openLanes_36 ?_
          have e : cntO σ = 1 := by unfold cntO; omega
          rw [e] at k
          exact k
      · refine r_iconst hC dX5_openLanes_22 rfl ?_
        refine r_goto (tgt := 27) hC dX5_openLanes_23 rfl ?_
        refine r_iaddE hC (1) dX5_openLanes_27 (by omega) (by unfold inR; omega) ?_
        refine r_istore_n hC dX5_openLanes_28 rfl ?_
        refine r_iincE hC (3) dX5_openLanes_29 rfl rfl (by omega) (by unfold inR; omega) ?_
        refine r_goto (tgt := 4) hC dX5_openLanes_32 rfl ?_
        refine r_iload_n hC dX5_openLanes_4 rfl ?_
        refine r_iconst hC dX5_openLanes_5 rfl ?_
        refine r_icmp_ge (tgt := 35) hC dX5_openLanes_6 rfl (fun h15 => by omega) (fun h15 => ?_)
        refine r_iload_n hC dX5_openLanes_9 rfl ?_
        refine r_aload_n hC dX5_openLanes_10 rfl ?_
        refine z_getR hM dX5_openLanes_11 fl_RX5_13 rfl rfl (vld_of (n := 1) rfl (by omega) (by omega)) ?_
        refine r_iload_n hC dX5_openLanes_14 rfl ?_
        refine z_aald hM dX5_openLanes_15 rfl (by decide) (by omega) (by omega) (vld_of (n := 7) rfl (by omega) (by omega)) ?_
        refine z_getI (jz := 1) hM dX5_openLanes_16 fl_RX5_94 rfl rfl rfl (fun v16 h_v16 o_v16 t_v16 => ?_)
        have w_v16 := ((t_v16 (Or.inl (by first | exact trivial | exact tb7_ (by decide) | simp [Tb]))).trans (rfl)).symm
        clear t_v16
        subst w_v16
        have q_v16 : 0 ≤ (σ 7 3 1) ∧ (σ 7 3 1) ≤ 1 := by have := o_v16.2.1 rfl; omega
        refine r_if_eq (tgt := 26) hC dX5_openLanes_19 rfl (fun h17 => ?_) (fun h17 => ?_)
        · refine r_iconst hC dX5_openLanes_26 rfl ?_
          refine r_iaddE hC (1) dX5_openLanes_27 (by omega) (by unfold inR; omega) ?_
          refine r_istore_n hC dX5_openLanes_28 rfl ?_
          refine r_iincE hC (4) dX5_openLanes_29 rfl rfl (by omega) (by unfold inR; omega) ?_
          refine r_goto (tgt := 4) hC dX5_openLanes_32 rfl ?_
          refine r_iload_n hC dX5_openLanes_4 rfl ?_
          refine r_iconst hC dX5_openLanes_5 rfl ?_
          refine r_icmp_ge (tgt := 35) hC dX5_openLanes_6 rfl (fun h18 => ?_) (fun h18 => by omega)
          refine r_iload_n hC dX5_openLanes_35 rfl ?_
          refine y_iret hK rfl dX5_openLanes_36 ?_
          have e : cntO σ = 1 := by unfold cntO; omega
          rw [e] at k
          exact k
        · refine r_iconst hC dX5_openLanes_22 rfl ?_
          refine r_goto (tgt := 27) hC dX5_openLanes_23 rfl ?_
          refine r_iaddE hC (2) dX5_openLanes_27 (by omega) (by unfold inR; omega) ?_
          refine r_istore_n hC dX5_openLanes_28 rfl ?_
          refine r_iincE hC (4) dX5_openLanes_29 rfl rfl (by omega) (by unfold inR; omega) ?_
          refine r_goto (tgt := 4) hC dX5_openLanes_32 rfl ?_
          refine r_iload_n hC dX5_openLanes_4 rfl ?_
          refine r_iconst hC dX5_openLanes_5 rfl ?_
          refine r_icmp_ge (tgt := 35) hC dX5_openLanes_6 rfl (fun h19 => ?_) (fun h19 => by omega)
          refine r_iload_n hC dX5_openLanes_35 rfl ?_
          refine y_iret hK rfl dX5_openLanes_36 ?_
          have e : cntO σ = 2 := by unfold cntO; omega
          rw [e] at k
          exact k
    · refine r_iconst hC dX5_openLanes_22 rfl ?_
      refine r_goto (tgt := 27) hC dX5_openLanes_23 rfl ?_
      refine r_iaddE hC (1) dX5_openLanes_27 (by omega) (by unfold inR; omega) ?_
      refine r_istore_n hC dX5_openLanes_28 rfl ?_
      refine r_iincE hC (2) dX5_openLanes_29 rfl rfl (by omega) (by unfold inR; omega) ?_
      refine r_goto (tgt := 4) hC dX5_openLanes_32 rfl ?_
      refine r_iload_n hC dX5_openLanes_4 rfl ?_
      refine r_iconst hC dX5_openLanes_5 rfl ?_
      refine r_icmp_ge (tgt := 35) hC dX5_openLanes_6 rfl (fun h20 => by omega) (fun h20 => ?_)
      refine r_iload_n hC dX5_openLanes_9 rfl ?_
      refine r_aload_n hC dX5_openLanes_10 rfl ?_
      refine z_getR hM dX5_openLanes_11 fl_RX5_13 rfl rfl (vld_of (n := 1) rfl (by omega) (by omega)) ?_
      refine r_iload_n hC dX5_openLanes_14 rfl ?_
      refine z_aald hM dX5_openLanes_15 rfl (by decide) (by omega) (by omega) (vld_of (n := 7) rfl (by omega) (by omega)) ?_
      refine z_getI (jz := 1) hM dX5_openLanes_16 fl_RX5_94 rfl rfl rfl (fun v21 h_v21 o_v21 t_v21 => ?_)
      have w_v21 := ((t_v21 (Or.inl (by first | exact trivial | exact tb7_ (by decide) | simp [Tb]))).trans (rfl)).symm
      clear t_v21
      subst w_v21
      have q_v21 : 0 ≤ (σ 7 2 1) ∧ (σ 7 2 1) ≤ 1 := by have := o_v21.2.1 rfl; omega
      refine r_if_eq (tgt := 26) hC dX5_openLanes_19 rfl (fun h22 => ?_) (fun h22 => ?_)
      · refine r_iconst hC dX5_openLanes_26 rfl ?_
        refine r_iaddE hC (1) dX5_openLanes_27 (by omega) (by unfold inR; omega) ?_
        refine r_istore_n hC dX5_openLanes_28 rfl ?_
        refine r_iincE hC (3) dX5_openLanes_29 rfl rfl (by omega) (by unfold inR; omega) ?_
        refine r_goto (tgt := 4) hC dX5_openLanes_32 rfl ?_
        refine r_iload_n hC dX5_openLanes_4 rfl ?_
        refine r_iconst hC dX5_openLanes_5 rfl ?_
        refine r_icmp_ge (tgt := 35) hC dX5_openLanes_6 rfl (fun h23 => by omega) (fun h23 => ?_)
        refine r_iload_n hC dX5_openLanes_9 rfl ?_
        refine r_aload_n hC dX5_openLanes_10 rfl ?_
        refine z_getR hM dX5_openLanes_11 fl_RX5_13 rfl rfl (vld_of (n := 1) rfl (by omega) (by omega)) ?_
        refine r_iload_n hC dX5_openLanes_14 rfl ?_
        refine z_aald hM dX5_openLanes_15 rfl (by decide) (by omega) (by omega) (vld_of (n := 7) rfl (by omega) (by omega)) ?_
        refine z_getI (jz := 1) hM dX5_openLanes_16 fl_RX5_94 rfl rfl rfl (fun v24 h_v24 o_v24 t_v24 => ?_)
        have w_v24 := ((t_v24 (Or.inl (by first | exact trivial | exact tb7_ (by decide) | simp [Tb]))).trans (rfl)).symm
        clear t_v24
        subst w_v24
        have q_v24 : 0 ≤ (σ 7 3 1) ∧ (σ 7 3 1) ≤ 1 := by have := o_v24.2.1 rfl; omega
        refine r_if_eq (tgt := 26) hC dX5_openLanes_19 rfl (fun h25 => ?_) (fun h25 => ?_)
        · refine r_iconst hC dX5_openLanes_26 rfl ?_
          refine r_iaddE hC (1) dX5_openLanes_27 (by omega) (by unfold inR; omega) ?_
          refine r_istore_n hC dX5_openLanes_28 rfl ?_
          refine r_iincE hC (4) dX5_openLanes_29 rfl rfl (by omega) (by unfold inR; omega) ?_
          refine r_goto (tgt := 4) hC dX5_openLanes_32 rfl ?_
          refine r_iload_n hC dX5_openLanes_4 rfl ?_
          refine r_iconst hC dX5_openLanes_5 rfl ?_
          refine r_icmp_ge (tgt := 35) hC dX5_openLanes_6 rfl (fun h26 => ?_) (fun h26 => by omega)
          refine r_iload_n hC dX5_openLanes_35 rfl ?_
          refine y_iret hK rfl dX5_openLanes_36 ?_
          have e : cntO σ = 1 := by unfold cntO; omega
          rw [e] at k
          exact k
        · refine r_iconst hC dX5_openLanes_22 rfl ?_
          refine r_goto (tgt := 27) hC dX5_openLanes_23 rfl ?_
          refine r_iaddE hC (2) dX5_openLanes_27 (by omega) (by unfold inR; omega) ?_
          refine r_istore_n hC dX5_openLanes_28 rfl ?_
          refine r_iincE hC (4) dX5_openLanes_29 rfl rfl (by omega) (by unfold inR; omega) ?_
          refine r_goto (tgt := 4) hC dX5_openLanes_32 rfl ?_
          refine r_iload_n hC dX5_openLanes_4 rfl ?_
          refine r_iconst hC dX5_openLanes_5 rfl ?_
          refine r_icmp_ge (tgt := 35) hC dX5_openLanes_6 rfl (fun h27 => ?_) (fun h27 => by omega)
          refine r_iload_n hC dX5_openLanes_35 rfl ?_
          refine y_iret hK rfl dX5_openLanes_36 ?_
          have e : cntO σ = 2 := by unfold cntO; omega
          rw [e] at k
          exact k
      · refine r_iconst hC dX5_openLanes_22 rfl ?_
        refine r_goto (tgt := 27) hC dX5_openLanes_23 rfl ?_
        refine r_iaddE hC (2) dX5_openLanes_27 (by omega) (by unfold inR; omega) ?_
        refine r_istore_n hC dX5_openLanes_28 rfl ?_
        refine r_iincE hC (3) dX5_openLanes_29 rfl rfl (by omega) (by unfold inR; omega) ?_
        refine r_goto (tgt := 4) hC dX5_openLanes_32 rfl ?_
        refine r_iload_n hC dX5_openLanes_4 rfl ?_
        refine r_iconst hC dX5_openLanes_5 rfl ?_
        refine r_icmp_ge (tgt := 35) hC dX5_openLanes_6 rfl (fun h28 => by omega) (fun h28 => ?_)
        refine r_iload_n hC dX5_openLanes_9 rfl ?_
        refine r_aload_n hC dX5_openLanes_10 rfl ?_
        refine z_getR hM dX5_openLanes_11 fl_RX5_13 rfl rfl (vld_of (n := 1) rfl (by omega) (by omega)) ?_
        refine r_iload_n hC dX5_openLanes_14 rfl ?_
        refine z_aald hM dX5_openLanes_15 rfl (by decide) (by omega) (by omega) (vld_of (n := 7) rfl (by omega) (by omega)) ?_
        refine z_getI (jz := 1) hM dX5_openLanes_16 fl_RX5_94 rfl rfl rfl (fun v29 h_v29 o_v29 t_v29 => ?_)
        have w_v29 := ((t_v29 (Or.inl (by first | exact trivial | exact tb7_ (by decide) | simp [Tb]))).trans (rfl)).symm
        clear t_v29
        subst w_v29
        have q_v29 : 0 ≤ (σ 7 3 1) ∧ (σ 7 3 1) ≤ 1 := by have := o_v29.2.1 rfl; omega
        refine r_if_eq (tgt := 26) hC dX5_openLanes_19 rfl (fun h30 => ?_) (fun h30 => ?_)
        · refine r_iconst hC dX5_openLanes_26 rfl ?_
          refine r_iaddE hC (2) dX5_openLanes_27 (by omega) (by unfold inR; omega) ?_
          refine r_istore_n hC dX5_openLanes_28 rfl ?_
          refine r_iincE hC (4) dX5_openLanes_29 rfl rfl (by omega) (by unfold inR; omega) ?_
          refine r_goto (tgt := 4) hC dX5_openLanes_32 rfl ?_
          refine r_iload_n hC dX5_openLanes_4 rfl ?_
          refine r_iconst hC dX5_openLanes_5 rfl ?_
          refine r_icmp_ge (tgt := 35) hC dX5_openLanes_6 rfl (fun h31 => ?_) (fun h31 => by omega)
          refine r_iload_n hC dX5_openLanes_35 rfl ?_
          refine y_iret hK rfl dX5_openLanes_36 ?_
          have e : cntO σ = 2 := by unfold cntO; omega
          rw [e] at k
          exact k
        · refine r_iconst hC dX5_openLanes_22 rfl ?_
          refine r_goto (tgt := 27) hC dX5_openLanes_23 rfl ?_
          refine r_iaddE hC (3) dX5_openLanes_27 (by omega) (by unfold inR; omega) ?_
          refine r_istore_n hC dX5_openLanes_28 rfl ?_
          refine r_iincE hC (4) dX5_openLanes_29 rfl rfl (by omega) (by unfold inR; omega) ?_
          refine r_goto (tgt := 4) hC dX5_openLanes_32 rfl ?_
          refine r_iload_n hC dX5_openLanes_4 rfl ?_
          refine r_iconst hC dX5_openLanes_5 rfl ?_
          refine r_icmp_ge (tgt := 35) hC dX5_openLanes_6 rfl (fun h32 => ?_) (fun h32 => by omega)
          refine r_iload_n hC dX5_openLanes_35 rfl ?_
          refine y_iret hK rfl dX5_openLanes_36 ?_
          have e : cntO σ = 3 := by unfold cntO; omega
          rw [e] at k
          exact k
  · refine r_iconst hC dX5_openLanes_22 rfl ?_
    refine r_goto (tgt := 27) hC dX5_openLanes_23 rfl ?_
    refine r_iaddE hC (1) dX5_openLanes_27 (by omega) (by unfold inR; omega) ?_
    refine r_istore_n hC dX5_openLanes_28 rfl ?_
    refine r_iincE hC (1) dX5_openLanes_29 rfl rfl (by omega) (by unfold inR; omega) ?_
    refine r_goto (tgt := 4) hC dX5_openLanes_32 rfl ?_
    refine r_iload_n hC dX5_openLanes_4 rfl ?_
    refine r_iconst hC dX5_openLanes_5 rfl ?_
    refine r_icmp_ge (tgt := 35) hC dX5_openLanes_6 rfl (fun h33 => by omega) (fun h33 => ?_)
    refine r_iload_n hC dX5_openLanes_9 rfl ?_
    refine r_aload_n hC dX5_openLanes_10 rfl ?_
    refine z_getR hM dX5_openLanes_11 fl_RX5_13 rfl rfl (vld_of (n := 1) rfl (by omega) (by omega)) ?_
    refine r_iload_n hC dX5_openLanes_14 rfl ?_
    refine z_aald hM dX5_openLanes_15 rfl (by decide) (by omega) (by omega) (vld_of (n := 7) rfl (by omega) (by omega)) ?_
    refine z_getI (jz := 1) hM dX5_openLanes_16 fl_RX5_94 rfl rfl rfl (fun v34 h_v34 o_v34 t_v34 => ?_)
    have w_v34 := ((t_v34 (Or.inl (by first | exact trivial | exact tb7_ (by decide) | simp [Tb]))).trans (rfl)).symm
    clear t_v34
    subst w_v34
    have q_v34 : 0 ≤ (σ 7 1 1) ∧ (σ 7 1 1) ≤ 1 := by have := o_v34.2.1 rfl; omega
    refine r_if_eq (tgt := 26) hC dX5_openLanes_19 rfl (fun h35 => ?_) (fun h35 => ?_)
    · refine r_iconst hC dX5_openLanes_26 rfl ?_
      refine r_iaddE hC (1) dX5_openLanes_27 (by omega) (by unfold inR; omega) ?_
      refine r_istore_n hC dX5_openLanes_28 rfl ?_
      refine r_iincE hC (2) dX5_openLanes_29 rfl rfl (by omega) (by unfold inR; omega) ?_
      refine r_goto (tgt := 4) hC dX5_openLanes_32 rfl ?_
      refine r_iload_n hC dX5_openLanes_4 rfl ?_
      refine r_iconst hC dX5_openLanes_5 rfl ?_
      refine r_icmp_ge (tgt := 35) hC dX5_openLanes_6 rfl (fun h36 => by omega) (fun h36 => ?_)
      refine r_iload_n hC dX5_openLanes_9 rfl ?_
      refine r_aload_n hC dX5_openLanes_10 rfl ?_
      refine z_getR hM dX5_openLanes_11 fl_RX5_13 rfl rfl (vld_of (n := 1) rfl (by omega) (by omega)) ?_
      refine r_iload_n hC dX5_openLanes_14 rfl ?_
      refine z_aald hM dX5_openLanes_15 rfl (by decide) (by omega) (by omega) (vld_of (n := 7) rfl (by omega) (by omega)) ?_
      refine z_getI (jz := 1) hM dX5_openLanes_16 fl_RX5_94 rfl rfl rfl (fun v37 h_v37 o_v37 t_v37 => ?_)
      have w_v37 := ((t_v37 (Or.inl (by first | exact trivial | exact tb7_ (by decide) | simp [Tb]))).trans (rfl)).symm
      clear t_v37
      subst w_v37
      have q_v37 : 0 ≤ (σ 7 2 1) ∧ (σ 7 2 1) ≤ 1 := by have := o_v37.2.1 rfl; omega
      refine r_if_eq (tgt := 26) hC dX5_openLanes_19 rfl (fun h38 => ?_) (fun h38 => ?_)
      · refine r_iconst hC dX5_openLanes_26 rfl ?_
        refine r_iaddE hC (1) dX5_openLanes_27 (by omega) (by unfold inR; omega) ?_
        refine r_istore_n hC dX5_openLanes_28 rfl ?_
        refine r_iincE hC (3) dX5_openLanes_29 rfl rfl (by omega) (by unfold inR; omega) ?_
        refine r_goto (tgt := 4) hC dX5_openLanes_32 rfl ?_
        refine r_iload_n hC dX5_openLanes_4 rfl ?_
        refine r_iconst hC dX5_openLanes_5 rfl ?_
        refine r_icmp_ge (tgt := 35) hC dX5_openLanes_6 rfl (fun h39 => by omega) (fun h39 => ?_)
        refine r_iload_n hC dX5_openLanes_9 rfl ?_
        refine r_aload_n hC dX5_openLanes_10 rfl ?_
        refine z_getR hM dX5_openLanes_11 fl_RX5_13 rfl rfl (vld_of (n := 1) rfl (by omega) (by omega)) ?_
        refine r_iload_n hC dX5_openLanes_14 rfl ?_
        refine z_aald hM dX5_openLanes_15 rfl (by decide) (by omega) (by omega) (vld_of (n := 7) rfl (by omega) (by omega)) ?_
        refine z_getI (jz := 1) hM dX5_openLanes_16 fl_RX5_94 rfl rfl rfl (fun v40 h_v40 o_v40 t_v40 => ?_)
        have w_v40 := ((t_v40 (Or.inl (by first | exact trivial | exact tb7_ (by decide) | simp [Tb]))).trans (rfl)).symm
        clear t_v40
        subst w_v40
        have q_v40 : 0 ≤ (σ 7 3 1) ∧ (σ 7 3 1) ≤ 1 := by have := o_v40.2.1 rfl; omega
        refine r_if_eq (tgt := 26) hC dX5_openLanes_19 rfl (fun h41 => ?_) (fun h41 => ?_)
        · refine r_iconst hC dX5_openLanes_26 rfl ?_
          refine r_iaddE hC (1) dX5_openLanes_27 (by omega) (by unfold inR; omega) ?_
          refine r_istore_n hC dX5_openLanes_28 rfl ?_
          refine r_iincE hC (4) dX5_openLanes_29 rfl rfl (by omega) (by unfold inR; omega) ?_
          refine r_goto (tgt := 4) hC dX5_openLanes_32 rfl ?_
          refine r_iload_n hC dX5_openLanes_4 rfl ?_
          refine r_iconst hC dX5_openLanes_5 rfl ?_
          refine r_icmp_ge (tgt := 35) hC dX5_openLanes_6 rfl (fun h42 => ?_) (fun h42 => by omega)
          refine r_iload_n hC dX5_openLanes_35 rfl ?_
          refine y_iret hK rfl dX5_openLanes_36 ?_
          have e : cntO σ = 1 := by unfold cntO; omega
          rw [e] at k
          exact k
        · refine r_iconst hC dX5_openLanes_22 rfl ?_
          refine r_goto (tgt := 27) hC dX5_openLanes_23 rfl ?_
          refine r_iaddE hC (2) dX5_openLanes_27 (by omega) (by unfold inR; omega) ?_
          refine r_istore_n hC dX5_openLanes_28 rfl ?_
          refine r_iincE hC (4) dX5_openLanes_29 rfl rfl (by omega) (by unfold inR; omega) ?_
          refine r_goto (tgt := 4) hC dX5_openLanes_32 rfl ?_
          refine r_iload_n hC dX5_openLanes_4 rfl ?_
          refine r_iconst hC dX5_openLanes_5 rfl ?_
          refine r_icmp_ge (tgt := 35) hC dX5_openLanes_6 rfl (fun h43 => ?_) (fun h43 => by omega)
          refine r_iload_n hC dX5_openLanes_35 rfl ?_
          refine y_iret hK rfl dX5_openLanes_36 ?_
          have e : cntO σ = 2 := by unfold cntO; omega
          rw [e] at k
          exact k
      · refine r_iconst hC dX5_openLanes_22 rfl ?_
        refine r_goto (tgt := 27) hC dX5_openLanes_23 rfl ?_
        refine r_iaddE hC (2) dX5_openLanes_27 (by omega) (by unfold inR; omega) ?_
        refine r_istore_n hC dX5_openLanes_28 rfl ?_
        refine r_iincE hC (3) dX5_openLanes_29 rfl rfl (by omega) (by unfold inR; omega) ?_
        refine r_goto (tgt := 4) hC dX5_openLanes_32 rfl ?_
        refine r_iload_n hC dX5_openLanes_4 rfl ?_
        refine r_iconst hC dX5_openLanes_5 rfl ?_
        refine r_icmp_ge (tgt := 35) hC dX5_openLanes_6 rfl (fun h44 => by omega) (fun h44 => ?_)
        refine r_iload_n hC dX5_openLanes_9 rfl ?_
        refine r_aload_n hC dX5_openLanes_10 rfl ?_
        refine z_getR hM dX5_openLanes_11 fl_RX5_13 rfl rfl (vld_of (n := 1) rfl (by omega) (by omega)) ?_
        refine r_iload_n hC dX5_openLanes_14 rfl ?_
        refine z_aald hM dX5_openLanes_15 rfl (by decide) (by omega) (by omega) (vld_of (n := 7) rfl (by omega) (by omega)) ?_
        refine z_getI (jz := 1) hM dX5_openLanes_16 fl_RX5_94 rfl rfl rfl (fun v45 h_v45 o_v45 t_v45 => ?_)
        have w_v45 := ((t_v45 (Or.inl (by first | exact trivial | exact tb7_ (by decide) | simp [Tb]))).trans (rfl)).symm
        clear t_v45
        subst w_v45
        have q_v45 : 0 ≤ (σ 7 3 1) ∧ (σ 7 3 1) ≤ 1 := by have := o_v45.2.1 rfl; omega
        refine r_if_eq (tgt := 26) hC dX5_openLanes_19 rfl (fun h46 => ?_) (fun h46 => ?_)
        · refine r_iconst hC dX5_openLanes_26 rfl ?_
          refine r_iaddE hC (2) dX5_openLanes_27 (by omega) (by unfold inR; omega) ?_
          refine r_istore_n hC dX5_openLanes_28 rfl ?_
          refine r_iincE hC (4) dX5_openLanes_29 rfl rfl (by omega) (by unfold inR; omega) ?_
          refine r_goto (tgt := 4) hC dX5_openLanes_32 rfl ?_
          refine r_iload_n hC dX5_openLanes_4 rfl ?_
          refine r_iconst hC dX5_openLanes_5 rfl ?_
          refine r_icmp_ge (tgt := 35) hC dX5_openLanes_6 rfl (fun h47 => ?_) (fun h47 => by omega)
          refine r_iload_n hC dX5_openLanes_35 rfl ?_
          refine y_iret hK rfl dX5_openLanes_36 ?_
          have e : cntO σ = 2 := by unfold cntO; omega
          rw [e] at k
          exact k
        · refine r_iconst hC dX5_openLanes_22 rfl ?_
          refine r_goto (tgt := 27) hC dX5_openLanes_23 rfl ?_
          refine r_iaddE hC (3) dX5_openLanes_27 (by omega) (by unfold inR; omega) ?_
          refine r_istore_n hC dX5_openLanes_28 rfl ?_
          refine r_iincE hC (4) dX5_openLanes_29 rfl rfl (by omega) (by unfold inR; omega) ?_
          refine r_goto (tgt := 4) hC dX5_openLanes_32 rfl ?_
          refine r_iload_n hC dX5_openLanes_4 rfl ?_
          refine r_iconst hC dX5_openLanes_5 rfl ?_
          refine r_icmp_ge (tgt := 35) hC dX5_openLanes_6 rfl (fun h48 => ?_) (fun h48 => by omega)
          refine r_iload_n hC dX5_openLanes_35 rfl ?_
          refine y_iret hK rfl dX5_openLanes_36 ?_
          have e : cntO σ = 3 := by unfold cntO; omega
          rw [e] at k
          exact k
    · refine r_iconst hC dX5_openLanes_22 rfl ?_
      refine r_goto (tgt := 27) hC dX5_openLanes_23 rfl ?_
      refine r_iaddE hC (2) dX5_openLanes_27 (by omega) (by unfold inR; omega) ?_
      refine r_istore_n hC dX5_openLanes_28 rfl ?_
      refine r_iincE hC (2) dX5_openLanes_29 rfl rfl (by omega) (by unfold inR; omega) ?_
      refine r_goto (tgt := 4) hC dX5_openLanes_32 rfl ?_
      refine r_iload_n hC dX5_openLanes_4 rfl ?_
      refine r_iconst hC dX5_openLanes_5 rfl ?_
      refine r_icmp_ge (tgt := 35) hC dX5_openLanes_6 rfl (fun h49 => by omega) (fun h49 => ?_)
      refine r_iload_n hC dX5_openLanes_9 rfl ?_
      refine r_aload_n hC dX5_openLanes_10 rfl ?_
      refine z_getR hM dX5_openLanes_11 fl_RX5_13 rfl rfl (vld_of (n := 1) rfl (by omega) (by omega)) ?_
      refine r_iload_n hC dX5_openLanes_14 rfl ?_
      refine z_aald hM dX5_openLanes_15 rfl (by decide) (by omega) (by omega) (vld_of (n := 7) rfl (by omega) (by omega)) ?_
      refine z_getI (jz := 1) hM dX5_openLanes_16 fl_RX5_94 rfl rfl rfl (fun v50 h_v50 o_v50 t_v50 => ?_)
      have w_v50 := ((t_v50 (Or.inl (by first | exact trivial | exact tb7_ (by decide) | simp [Tb]))).trans (rfl)).symm
      clear t_v50
      subst w_v50
      have q_v50 : 0 ≤ (σ 7 2 1) ∧ (σ 7 2 1) ≤ 1 := by have := o_v50.2.1 rfl; omega
      refine r_if_eq (tgt := 26) hC dX5_openLanes_19 rfl (fun h51 => ?_) (fun h51 => ?_)
      · refine r_iconst hC dX5_openLanes_26 rfl ?_
        refine r_iaddE hC (2) dX5_openLanes_27 (by omega) (by unfold inR; omega) ?_
        refine r_istore_n hC dX5_openLanes_28 rfl ?_
        refine r_iincE hC (3) dX5_openLanes_29 rfl rfl (by omega) (by unfold inR; omega) ?_
        refine r_goto (tgt := 4) hC dX5_openLanes_32 rfl ?_
        refine r_iload_n hC dX5_openLanes_4 rfl ?_
        refine r_iconst hC dX5_openLanes_5 rfl ?_
        refine r_icmp_ge (tgt := 35) hC dX5_openLanes_6 rfl (fun h52 => by omega) (fun h52 => ?_)
        refine r_iload_n hC dX5_openLanes_9 rfl ?_
        refine r_aload_n hC dX5_openLanes_10 rfl ?_
        refine z_getR hM dX5_openLanes_11 fl_RX5_13 rfl rfl (vld_of (n := 1) rfl (by omega) (by omega)) ?_
        refine r_iload_n hC dX5_openLanes_14 rfl ?_
        refine z_aald hM dX5_openLanes_15 rfl (by decide) (by omega) (by omega) (vld_of (n := 7) rfl (by omega) (by omega)) ?_
        refine z_getI (jz := 1) hM dX5_openLanes_16 fl_RX5_94 rfl rfl rfl (fun v53 h_v53 o_v53 t_v53 => ?_)
        have w_v53 := ((t_v53 (Or.inl (by first | exact trivial | exact tb7_ (by decide) | simp [Tb]))).trans (rfl)).symm
        clear t_v53
        subst w_v53
        have q_v53 : 0 ≤ (σ 7 3 1) ∧ (σ 7 3 1) ≤ 1 := by have := o_v53.2.1 rfl; omega
        refine r_if_eq (tgt := 26) hC dX5_openLanes_19 rfl (fun h54 => ?_) (fun h54 => ?_)
        · refine r_iconst hC dX5_openLanes_26 rfl ?_
          refine r_iaddE hC (2) dX5_openLanes_27 (by omega) (by unfold inR; omega) ?_
          refine r_istore_n hC dX5_openLanes_28 rfl ?_
          refine r_iincE hC (4) dX5_openLanes_29 rfl rfl (by omega) (by unfold inR; omega) ?_
          refine r_goto (tgt := 4) hC dX5_openLanes_32 rfl ?_
          refine r_iload_n hC dX5_openLanes_4 rfl ?_
          refine r_iconst hC dX5_openLanes_5 rfl ?_
          refine r_icmp_ge (tgt := 35) hC dX5_openLanes_6 rfl (fun h55 => ?_) (fun h55 => by omega)
          refine r_iload_n hC dX5_openLanes_35 rfl ?_
          refine y_iret hK rfl dX5_openLanes_36 ?_
          have e : cntO σ = 2 := by unfold cntO; omega
          rw [e] at k
          exact k
        · refine r_iconst hC dX5_openLanes_22 rfl ?_
          refine r_goto (tgt := 27) hC dX5_openLanes_23 rfl ?_
          refine r_iaddE hC (3) dX5_openLanes_27 (by omega) (by unfold inR; omega) ?_
          refine r_istore_n hC dX5_openLanes_28 rfl ?_
          refine r_iincE hC (4) dX5_openLanes_29 rfl rfl (by omega) (by unfold inR; omega) ?_
          refine r_goto (tgt := 4) hC dX5_openLanes_32 rfl ?_
          refine r_iload_n hC dX5_openLanes_4 rfl ?_
          refine r_iconst hC dX5_openLanes_5 rfl ?_
          refine r_icmp_ge (tgt := 35) hC dX5_openLanes_6 rfl (fun h56 => ?_) (fun h56 => by omega)
          refine r_iload_n hC dX5_openLanes_35 rfl ?_
          refine y_iret hK rfl dX5_openLanes_36 ?_
          have e : cntO σ = 3 := by unfold cntO; omega
          rw [e] at k
          exact k
      · refine r_iconst hC dX5_openLanes_22 rfl ?_
        refine r_goto (tgt := 27) hC dX5_openLanes_23 rfl ?_
        refine r_iaddE hC (3) dX5_openLanes_27 (by omega) (by unfold inR; omega) ?_
        refine r_istore_n hC dX5_openLanes_28 rfl ?_
        refine r_iincE hC (3) dX5_openLanes_29 rfl rfl (by omega) (by unfold inR; omega) ?_
        refine r_goto (tgt := 4) hC dX5_openLanes_32 rfl ?_
        refine r_iload_n hC dX5_openLanes_4 rfl ?_
        refine r_iconst hC dX5_openLanes_5 rfl ?_
        refine r_icmp_ge (tgt := 35) hC dX5_openLanes_6 rfl (fun h57 => by omega) (fun h57 => ?_)
        refine r_iload_n hC dX5_openLanes_9 rfl ?_
        refine r_aload_n hC dX5_openLanes_10 rfl ?_
        refine z_getR hM dX5_openLanes_11 fl_RX5_13 rfl rfl (vld_of (n := 1) rfl (by omega) (by omega)) ?_
        refine r_iload_n hC dX5_openLanes_14 rfl ?_
        refine z_aald hM dX5_openLanes_15 rfl (by decide) (by omega) (by omega) (vld_of (n := 7) rfl (by omega) (by omega)) ?_
        refine z_getI (jz := 1) hM dX5_openLanes_16 fl_RX5_94 rfl rfl rfl (fun v58 h_v58 o_v58 t_v58 => ?_)
        have w_v58 := ((t_v58 (Or.inl (by first | exact trivial | exact tb7_ (by decide) | simp [Tb]))).trans (rfl)).symm
        clear t_v58
        subst w_v58
        have q_v58 : 0 ≤ (σ 7 3 1) ∧ (σ 7 3 1) ≤ 1 := by have := o_v58.2.1 rfl; omega
        refine r_if_eq (tgt := 26) hC dX5_openLanes_19 rfl (fun h59 => ?_) (fun h59 => ?_)
        · refine r_iconst hC dX5_openLanes_26 rfl ?_
          refine r_iaddE hC (3) dX5_openLanes_27 (by omega) (by unfold inR; omega) ?_
          refine r_istore_n hC dX5_openLanes_28 rfl ?_
          refine r_iincE hC (4) dX5_openLanes_29 rfl rfl (by omega) (by unfold inR; omega) ?_
          refine r_goto (tgt := 4) hC dX5_openLanes_32 rfl ?_
          refine r_iload_n hC dX5_openLanes_4 rfl ?_
          refine r_iconst hC dX5_openLanes_5 rfl ?_
          refine r_icmp_ge (tgt := 35) hC dX5_openLanes_6 rfl (fun h60 => ?_) (fun h60 => by omega)
          refine r_iload_n hC dX5_openLanes_35 rfl ?_
          refine y_iret hK rfl dX5_openLanes_36 ?_
          have e : cntO σ = 3 := by unfold cntO; omega
          rw [e] at k
          exact k
        · refine r_iconst hC dX5_openLanes_22 rfl ?_
          refine r_goto (tgt := 27) hC dX5_openLanes_23 rfl ?_
          refine r_iaddE hC (4) dX5_openLanes_27 (by omega) (by unfold inR; omega) ?_
          refine r_istore_n hC dX5_openLanes_28 rfl ?_
          refine r_iincE hC (4) dX5_openLanes_29 rfl rfl (by omega) (by unfold inR; omega) ?_
          refine r_goto (tgt := 4) hC dX5_openLanes_32 rfl ?_
          refine r_iload_n hC dX5_openLanes_4 rfl ?_
          refine r_iconst hC dX5_openLanes_5 rfl ?_
          refine r_icmp_ge (tgt := 35) hC dX5_openLanes_6 rfl (fun h61 => ?_) (fun h61 => by omega)
          refine r_iload_n hC dX5_openLanes_35 rfl ?_
          refine y_iret hK rfl dX5_openLanes_36 ?_
          have e : cntO σ = 4 := by unfold cntO; omega
          rw [e] at k
          exact k
theorem x_isSize {e : Ev} {d : Nat} {P : Option Vl → Mm → Prop} {σ : Mm} {b z : Int}   (k1 : (b = 0 ∨ (b = 1 ∧ 1 ≤ z ∧ z ≤ 120) ∨ (b = 2 ∧ 1 ≤ z ∧ z ≤ 10000)) → P (some (vI 1)) σ) (k0 : ¬ (b = 0 ∨ (b = 1 ∧ 1 ≤ z ∧ z ≤ 120) ∨ (b = 2 ∧ 1 ≤ z ∧ z ≤ 10000)) → P (some (vI 0)) σ) : WT e (d + 2) 59 [vI b, vI z] σ P := by
  refine WT_in fun K hK => ?_
  have hK : StpY e cX5_isSize RX5 (some .boolean) (WT e (d + 1)) P K := hK
  have hM := hK.1
  have hC := hK.1.1
  show K 0 [some (vI b), some (vI z)] [] σ
  refine r_rngz hC (fun g0 => ?_)
  have r_b : -2147483648 ≤ b ∧ b ≤ 2147483647 := inR_le (g0 (vI b) (by simp))
  have r_z : -2147483648 ≤ z ∧ z ≤ 2147483647 := inR_le (g0 (vI z) (by simp))
  refine r_iload_n hC dX5_isSize_0 rfl ?_
  rcases (by omega : (b < 0 ∨ 2 < b) ∨ b = 0 ∨ b = 1 ∨ b = 2) with h1 | h1 | h1 | h1
  · refine r_tableOut (tgt := 47) hC dX5_isSize_1 h1 rfl ?_
    refine r_iconst hC dX5_isSize_47 rfl ?_
    refine y_zret hK rfl dX5_isSize_48 (by omega) ?_
    exact k0 (by omega)
  · refine r_tableIn (tgt := 28) (off := 27) hC dX5_isSize_1 (by omega) (by omega) (by rw [h1]; rfl) rfl ?_
    refine r_iconst hC dX5_isSize_28 rfl ?_
    refine y_zret hK rfl dX5_isSize_29 (by omega) ?_
    exact k1 (by omega)
  · refine r_tableIn (tgt := 30) (off := 29) hC dX5_isSize_1 (by omega) (by omega) (by rw [h1]; rfl) rfl ?_
    refine r_iload_n hC dX5_isSize_30 rfl ?_
    refine r_iconst hC dX5_isSize_31 rfl ?_
    refine r_bipush hC dX5_isSize_32 rfl ?_
    refine z_ins3 hM dX5_isSize_34 tl_RX5_59 rfl (Nat.le_of_ble_eq_true rfl) (Nat.le_of_ble_eq_true rfl) ?_
    refine s_within (fun h3 => ?_) (fun h3 => ?_)
    · refine y_zret hK rfl dX5_isSize_37 (by omega) ?_
      exact k1 (by omega)
    · refine y_zret hK rfl dX5_isSize_37 (by omega) ?_
      exact k0 (by omega)
  · refine r_tableIn (tgt := 38) (off := 37) hC dX5_isSize_1 (by omega) (by omega) (by rw [h1]; rfl) rfl ?_
    refine r_iload_n hC dX5_isSize_38 rfl ?_
    refine r_iconst hC dX5_isSize_39 rfl ?_
    refine r_sipush hC dX5_isSize_40 rfl ?_
    refine z_ins3 hM dX5_isSize_43 tl_RX5_59 rfl (Nat.le_of_ble_eq_true rfl) (Nat.le_of_ble_eq_true rfl) ?_
    refine s_within (fun h5 => ?_) (fun h5 => ?_)
    · refine y_zret hK rfl dX5_isSize_46 (by omega) ?_
      exact k1 (by omega)
    · refine y_zret hK rfl dX5_isSize_46 (by omega) ?_
      exact k0 (by omega)
theorem x_open {ec : Bool} {d : Nat} {P : Option Vl → Mm → Prop} {σ : Mm} {l o b z y : Int}   (k : P (some (vI (onR σ l o b z y))) (onM σ l o b z y)) : WT (true, false, ec) (d + 4) 58 [vR 2 0, vI l, vI o, vI b, vI z, vI y] σ P := by
  refine WT_in fun K hK => ?_
  have hK : StpY (true, false, ec) cX5_open RX5 (some .int) (WT (true, false, ec) (d + 3)) P K := hK
  have hM := hK.1
  have hC := hK.1.1
  show K 0 [some (vR 2 0), some (vI l), some (vI o), some (vI b), some (vI z), some (vI y)] [] σ
  refine r_rngz hC (fun g0 => ?_)
  have r_l : -2147483648 ≤ l ∧ l ≤ 2147483647 := inR_le (g0 (vI l) (by simp))
  have r_o : -2147483648 ≤ o ∧ o ≤ 2147483647 := inR_le (g0 (vI o) (by simp))
  have r_b : -2147483648 ≤ b ∧ b ≤ 2147483647 := inR_le (g0 (vI b) (by simp))
  have r_z : -2147483648 ≤ z ∧ z ≤ 2147483647 := inR_le (g0 (vI z) (by simp))
  have r_y : -2147483648 ≤ y ∧ y ≤ 2147483647 := inR_le (g0 (vI y) (by simp))
  refine r_iload_n hC dX5_open_0 rfl ?_
  refine z_ins1 hM dX5_open_1 tl_RX5_102 rfl (Nat.le_of_ble_eq_true rfl) (Nat.le_of_ble_eq_true rfl) ?_
  refine s_isLane (fun h2 => ?_) (fun h2 => ?_)
  · refine r_if_eq (tgt := 38) hC dX5_open_4 rfl (fun h3 => by omega) (fun h3 => ?_)
    refine r_iload_n hC dX5_open_7 rfl ?_
    refine r_iconst hC dX5_open_8 rfl ?_
    refine r_bipush hC dX5_open_9 rfl ?_
    refine z_ins3 hM dX5_open_11 tl_RX5_59 rfl (Nat.le_of_ble_eq_true rfl) (Nat.le_of_ble_eq_true rfl) ?_
    refine s_within (fun h5 => ?_) (fun h5 => ?_)
    · refine r_if_eq (tgt := 38) hC dX5_open_14 rfl (fun h6 => by omega) (fun h6 => ?_)
      refine r_iload hC dX5_open_17 rfl ?_
      refine r_iconst hC dX5_open_19 rfl ?_
      refine r_sipush hC dX5_open_20 rfl ?_
      refine z_ins3 hM dX5_open_23 tl_RX5_59 rfl (Nat.le_of_ble_eq_true rfl) (Nat.le_of_ble_eq_true rfl) ?_
      refine s_within (fun h8 => ?_) (fun h8 => ?_)
      · refine r_if_eq (tgt := 38) hC dX5_open_26 rfl (fun h9 => by omega) (fun h9 => ?_)
        refine r_iload_n hC dX5_open_29 rfl ?_
        refine r_iload hC dX5_open_30 rfl ?_
        refine z_ins2 hM dX5_open_32 tl_RX5_105 rfl (Nat.le_of_ble_eq_true rfl) (Nat.le_of_ble_eq_true rfl) ?_
        refine x_isSize (fun h10 => ?_) (fun h10 => ?_)
        · refine r_if_ne (tgt := 40) hC dX5_open_35 rfl (fun h11 => ?_) (fun h11 => by omega)
          refine r_iload_n hC dX5_open_40 rfl ?_
          refine r_bipush hC dX5_open_41 rfl ?_
          refine r_icmp_ne (tgt := 58) hC dX5_open_43 rfl (fun h12 => ?_) (fun h12 => ?_)
          · refine r_aload_n hC dX5_open_58 rfl ?_
            refine z_getR hM dX5_open_59 fl_RX5_13 rfl rfl (vld_of (n := 1) rfl (by omega) (by omega)) ?_
            refine r_iload_n hC dX5_open_62 rfl ?_
            refine z_aald hM dX5_open_63 rfl (by decide) (by omega) (by omega) (vld_of (n := 7) rfl (by omega) (by omega)) ?_
            refine r_iload_n hC dX5_open_64 rfl ?_
            refine r_iload_n hC dX5_open_65 rfl ?_
            refine r_iload_n hC dX5_open_66 rfl ?_
            refine r_if_ne (tgt := 74) hC dX5_open_67 rfl (fun h13 => ?_) (fun h13 => ?_)
            · refine r_iload hC dX5_open_74 rfl ?_
              refine r_iload hC dX5_open_76 rfl ?_
              refine z_inv4 hM dX5_open_78 vl_RX5_113 rfl rfl rfl (Nat.le_of_ble_eq_true rfl) (Nat.le_of_ble_eq_true rfl) ?_
              refine x_begin_L (by omega) (by omega) ?_
              refine r_aload_n hC dX5_open_81 rfl ?_
              refine r_iload_n hC dX5_open_82 rfl ?_
              refine z_inv1 hM dX5_open_83 vl_RX5_117 rfl rfl rfl (Nat.le_of_ble_eq_true rfl) (Nat.le_of_ble_eq_true rfl) ?_
              refine x_endTies (by omega) ?_
              refine r_aload_n hC dX5_open_86 rfl ?_
              refine z_inv0 hM dX5_open_87 vl_RX5_120 rfl rfl rfl (Nat.le_of_ble_eq_true rfl) (Nat.le_of_ble_eq_true rfl) ?_
              refine x_openLanes ?_
              refine y_iret hK rfl dX5_open_90 ?_
              have hM : onM σ l o b z y = (etM (bgM σ l o b z y) l) := by
                unfold onM
                first | (rw [if_pos (by omega), if_pos (by omega)]; done) | (rw [if_pos (by omega), if_neg (by omega)]; done)
              rw [hM] at k
              have hR : onR σ l o b z y = (cntO (etM (bgM σ l o b z y) l)) := by
                unfold onR
                rw [if_pos (by omega), hM]
              rw [hR] at k
              exact k
            · refine r_iconst hC dX5_open_70 rfl ?_
              refine r_goto (tgt := 76) hC dX5_open_71 rfl ?_
              refine r_iload hC dX5_open_76 rfl ?_
              refine z_inv4 hM dX5_open_78 vl_RX5_113 rfl rfl rfl (Nat.le_of_ble_eq_true rfl) (Nat.le_of_ble_eq_true rfl) ?_
              refine x_begin_L (by omega) (by omega) ?_
              refine r_aload_n hC dX5_open_81 rfl ?_
              refine r_iload_n hC dX5_open_82 rfl ?_
              refine z_inv1 hM dX5_open_83 vl_RX5_117 rfl rfl rfl (Nat.le_of_ble_eq_true rfl) (Nat.le_of_ble_eq_true rfl) ?_
              refine x_endTies (by omega) ?_
              refine r_aload_n hC dX5_open_86 rfl ?_
              refine z_inv0 hM dX5_open_87 vl_RX5_120 rfl rfl rfl (Nat.le_of_ble_eq_true rfl) (Nat.le_of_ble_eq_true rfl) ?_
              refine x_openLanes ?_
              refine y_iret hK rfl dX5_open_90 ?_
              have hM : onM σ l o b z y = (etM (bgM σ l o b 0 y) l) := by
                unfold onM
                first | (rw [if_pos (by omega), if_pos (by omega)]; done) | (rw [if_pos (by omega), if_neg (by omega)]; done)
              rw [hM] at k
              have hR : onR σ l o b z y = (cntO (etM (bgM σ l o b 0 y) l)) := by
                unfold onR
                rw [if_pos (by omega), hM]
              rw [hR] at k
              exact k
          · refine r_aload_n hC dX5_open_46 rfl ?_
            refine r_iconst hC dX5_open_47 rfl ?_
            refine z_inv1 hM dX5_open_48 vl_RX5_109 rfl rfl rfl (Nat.le_of_ble_eq_true rfl) (Nat.le_of_ble_eq_true rfl) ?_
            refine s_tripleX ?_
            refine r_bipush hC dX5_open_51 rfl ?_
            refine r_icmp_eq (tgt := 58) hC dX5_open_53 rfl (fun h14 => ?_) (fun h14 => ?_)
            · refine r_aload_n hC dX5_open_58 rfl ?_
              refine z_getR hM dX5_open_59 fl_RX5_13 rfl rfl (vld_of (n := 1) rfl (by omega) (by omega)) ?_
              refine r_iload_n hC dX5_open_62 rfl ?_
              refine z_aald hM dX5_open_63 rfl (by decide) (by omega) (by omega) (vld_of (n := 7) rfl (by omega) (by omega)) ?_
              refine r_iload_n hC dX5_open_64 rfl ?_
              refine r_iload_n hC dX5_open_65 rfl ?_
              refine r_iload_n hC dX5_open_66 rfl ?_
              refine r_if_ne (tgt := 74) hC dX5_open_67 rfl (fun h15 => ?_) (fun h15 => ?_)
              · refine r_iload hC dX5_open_74 rfl ?_
                refine r_iload hC dX5_open_76 rfl ?_
                refine z_inv4 hM dX5_open_78 vl_RX5_113 rfl rfl rfl (Nat.le_of_ble_eq_true rfl) (Nat.le_of_ble_eq_true rfl) ?_
                refine x_begin_L (by omega) (by omega) ?_
                refine r_aload_n hC dX5_open_81 rfl ?_
                refine r_iload_n hC dX5_open_82 rfl ?_
                refine z_inv1 hM dX5_open_83 vl_RX5_117 rfl rfl rfl (Nat.le_of_ble_eq_true rfl) (Nat.le_of_ble_eq_true rfl) ?_
                refine x_endTies (by omega) ?_
                refine r_aload_n hC dX5_open_86 rfl ?_
                refine z_inv0 hM dX5_open_87 vl_RX5_120 rfl rfl rfl (Nat.le_of_ble_eq_true rfl) (Nat.le_of_ble_eq_true rfl) ?_
                refine x_openLanes ?_
                refine y_iret hK rfl dX5_open_90 ?_
                have hM : onM σ l o b z y = (etM (bgM σ l o b z y) l) := by
                  unfold onM
                  first | (rw [if_pos (by omega), if_pos (by omega)]; done) | (rw [if_pos (by omega), if_neg (by omega)]; done)
                rw [hM] at k
                have hR : onR σ l o b z y = (cntO (etM (bgM σ l o b z y) l)) := by
                  unfold onR
                  rw [if_pos (by omega), hM]
                rw [hR] at k
                exact k
              · refine r_iconst hC dX5_open_70 rfl ?_
                refine r_goto (tgt := 76) hC dX5_open_71 rfl ?_
                refine r_iload hC dX5_open_76 rfl ?_
                refine z_inv4 hM dX5_open_78 vl_RX5_113 rfl rfl rfl (Nat.le_of_ble_eq_true rfl) (Nat.le_of_ble_eq_true rfl) ?_
                refine x_begin_L (by omega) (by omega) ?_
                refine r_aload_n hC dX5_open_81 rfl ?_
                refine r_iload_n hC dX5_open_82 rfl ?_
                refine z_inv1 hM dX5_open_83 vl_RX5_117 rfl rfl rfl (Nat.le_of_ble_eq_true rfl) (Nat.le_of_ble_eq_true rfl) ?_
                refine x_endTies (by omega) ?_
                refine r_aload_n hC dX5_open_86 rfl ?_
                refine z_inv0 hM dX5_open_87 vl_RX5_120 rfl rfl rfl (Nat.le_of_ble_eq_true rfl) (Nat.le_of_ble_eq_true rfl) ?_
                refine x_openLanes ?_
                refine y_iret hK rfl dX5_open_90 ?_
                have hM : onM σ l o b z y = (etM (bgM σ l o b 0 y) l) := by
                  unfold onM
                  first | (rw [if_pos (by omega), if_pos (by omega)]; done) | (rw [if_pos (by omega), if_neg (by omega)]; done)
                rw [hM] at k
                have hR : onR σ l o b z y = (cntO (etM (bgM σ l o b 0 y) l)) := by
                  unfold onR
                  rw [if_pos (by omega), hM]
                rw [hR] at k
                exact k
            · refine r_iconst hC dX5_open_56 rfl ?_
              refine y_iret hK rfl dX5_open_57 ?_
              have hM : onM σ l o b z y = σ := by
                exact if_neg (by omega)
              rw [hM] at k
              have hR : onR σ l o b z y = (-1) := by
                exact if_neg (by omega)
              rw [hR] at k
              exact k
        · refine r_if_ne (tgt := 40) hC dX5_open_35 rfl (fun h16 => by omega) (fun h16 => ?_)
          refine r_iconst hC dX5_open_38 rfl ?_
          refine y_iret hK rfl dX5_open_39 ?_
          have hM : onM σ l o b z y = σ := by
            exact if_neg (by omega)
          rw [hM] at k
          have hR : onR σ l o b z y = (-1) := by
            exact if_neg (by omega)
          rw [hR] at k
          exact k
      · refine r_if_eq (tgt := 38) hC dX5_open_26 rfl (fun h17 => ?_) (fun h17 => by omega)
        refine r_iconst hC dX5_open_38 rfl ?_
        refine y_iret hK rfl dX5_open_39 ?_
        have hM : onM σ l o b z y = σ := by
          exact if_neg (by omega)
        rw [hM] at k
        have hR : onR σ l o b z y = (-1) := by
          exact if_neg (by omega)
        rw [hR] at k
        exact k
    · refine r_if_eq (tgt := 38) hC dX5_open_14 rfl (fun h18 => ?_) (fun h18 => by omega)
      refine r_iconst hC dX5_open_38 rfl ?_
      refine y_iret hK rfl dX5_open_39 ?_
      have hM : onM σ l o b z y = σ := by
        exact if_neg (by omega)
      rw [hM] at k
      have hR : onR σ l o b z y = (-1) := by
        exact if_neg (by omega)
      rw [hR] at k
      exact k
  · refine r_if_eq (tgt := 38) hC dX5_open_4 rfl (fun h19 => ?_) (fun h19 => by omega)
    refine r_iconst hC dX5_open_38 rfl ?_
    refine y_iret hK rfl dX5_open_39 ?_
    have hM : onM σ l o b z y = σ := by
      exact if_neg (by omega)
    rw [hM] at k
    have hR : onR σ l o b z y = (-1) := by
      exact if_neg (by omega)
    rw [hR] at k
    exact k
theorem x_shut {ec : Bool} {d : Nat} {P : Option Vl → Mm → Prop} {σ : Mm} {l : Int}   (k : P (some (vI (shR σ l))) (shM σ l)) : WT (true, false, ec) (d + 4) 60 [vR 2 0, vI l] σ P := by
  refine WT_in fun K hK => ?_
  have hK : StpY (true, false, ec) cX5_shut RX5 (some .boolean) (WT (true, false, ec) (d + 3)) P K := hK
  have hM := hK.1
  have hC := hK.1.1
  show K 0 [some (vR 2 0), some (vI l), none] [] σ
  refine r_rngz hC (fun g0 => ?_)
  have r_l : -2147483648 ≤ l ∧ l ≤ 2147483647 := inR_le (g0 (vI l) (by simp))
  refine r_aload_n hC dX5_shut_0 rfl ?_
  refine r_iload_n hC dX5_shut_1 rfl ?_
  refine z_inv1 hM dX5_shut_2 vl_RX5_123 rfl rfl rfl (Nat.le_of_ble_eq_true rfl) (Nat.le_of_ble_eq_true rfl) ?_
  refine x_openLane (fun h1 => ?_) (fun h1 => ?_)
  · -- h1
    refine r_astore_n hC dX5_shut_5 rfl ?_
    refine r_aload_n hC dX5_shut_6 rfl ?_
    refine r_ifnonnullR (tgt := 12) hC dX5_shut_7 rfl ?_
    refine r_aload_n hC dX5_shut_12 rfl ?_
    refine r_iconst hC dX5_shut_13 rfl ?_
    refine z_putZT (jz := 1) hM dX5_shut_14 fw_RX5_94 rfl rfl rfl (by omega) ⟨Or.inr (by first | exact id | exact dl7_ (by decide) | simp [DL]), Or.inr (by first | exact id | exact df14_ (by decide) | simp [DF])⟩ (by first | trivial | (simp only [Okv]; omega) | (simp [Okv]; try omega)) ?_
    refine r_aload_n hC dX5_shut_17 rfl ?_
    refine r_iload_n hC dX5_shut_18 rfl ?_
    refine z_inv1 hM dX5_shut_19 vl_RX5_117 rfl rfl rfl (Nat.le_of_ble_eq_true rfl) (Nat.le_of_ble_eq_true rfl) ?_
    refine x_endTies (by omega) ?_
    refine r_iconst hC dX5_shut_22 rfl ?_
    refine y_zret hK rfl dX5_shut_23 (by omega) ?_
    have hM : shM σ l = (etM (mu σ 7 l 1 0) l) := by
      exact if_pos (by omega)
    rw [hM] at k
    have hR : shR σ l = 1 := by
      exact if_pos (by omega)
    rw [hR] at k
    exact k
  · -- h1
    refine r_astoreN_n hC dX5_shut_5 rfl ?_
    refine r_aloadN_n hC dX5_shut_6 rfl ?_
    refine r_ifnonnullN hC dX5_shut_7 ?_
    refine r_iconst hC dX5_shut_10 rfl ?_
    refine y_zret hK rfl dX5_shut_11 (by omega) ?_
    have hM : shM σ l = σ := by
      exact if_neg (by omega)
    rw [hM] at k
    have hR : shR σ l = 0 := by
      exact if_neg (by omega)
    rw [hR] at k
    exact k
-- B: the class: LINKS, BOXES
theorem r7_cp {f g : Int → Int} {t : Int} : r7 (f 0) (f 1) (f 2) (f 3) (f 4) (f 5) (f 6) g t = if 0 ≤ t ∧ t ≤ 6 then f t else g t := by
  unfold r7
  by_cases h : 0 ≤ t ∧ t ≤ 6
  · rw [if_pos h]
    rcases (by omega : t = 0 ∨ t = 1 ∨ t = 2 ∨ t = 3 ∨ t = 4 ∨ t = 5 ∨ t = 6) with rfl | rfl | rfl | rfl | rfl | rfl | rfl
    · rfl
    · rfl
    · rfl
    · rfl
    · rfl
    · rfl
    · rfl
  · rw [if_neg h, if_neg (by omega), if_neg (by omega), if_neg (by omega), if_neg (by omega), if_neg (by omega), if_neg (by omega), if_neg (by omega)]
theorem cpM_ne {V : Mm} {a b x y : Int} {c : Nat} (h : x ≠ b) : cpM V a b c x y = V c x y := if_neg h
theorem fun0 {f : Int → Int} : (fun j => f (0 + j)) = f := by
  funext j
  rw [Int.zero_add]
/-- the fold's places are not seen at the loose sight -/
abbrev Fo (c : Nat) : Prop := c = 14 ∨ c = 17 ∨ c = 18 ∨ c = 21 ∨ c = 22
def ov (F σ : Mm) : Mm := fun c x y => if Fo c then F c x y else σ c x y
theorem ov_ne {F σ : Mm} {c : Nat} (h : ¬ Fo c) : ov F σ c = σ c := by
  funext x y
  exact if_neg h
theorem DF_k {c : Nat} {j : Int} (h : DF c j) : c = 14 ∨ c = 17 := by
  unfold DF at h
  split at h
  · exact Or.inl rfl
  · exact Or.inr rfl
  · exact h.elim
theorem DX_k {e : Ev} {c : Nat} {j : Int} (h : DX e c j) : Fo c := by
  unfold DX at h
  split at h
  · exact Or.inl rfl
  · exact Or.inr (Or.inl rfl)
  · exact Or.inr (Or.inr (Or.inl rfl))
  · exact Or.inr (Or.inr (Or.inr (Or.inl rfl)))
  · exact Or.inr (Or.inr (Or.inr (Or.inr rfl)))
  · exact h.elim
theorem Tk_fo {eb : Bool} {c : Nat} {j : Int} (h : Tk (true, false, eb) c j) : ¬ Fo c := by
  rintro (rfl | rfl | rfl | rfl | rfl)
  all_goals
    rcases h with q | q | q | q
    · exact q
    · exact q.2
    · cases q.1
    · exact q.2
theorem WT_fold {eb : Bool} {d M : Nat} {as : List Vl} {σ : Mm} {P : Option Vl → Mm → Prop} (h : ∀ ρ : Mm, (∀ c : Nat, ¬ Fo c → ρ c = σ c) → InF ρ → WT (true, true, eb) d M as ρ (fun r ρ2 => InF ρ2 ∧ ∃ σ2 : Mm, P r σ2 ∧ ∀ (c : Nat) (x y : Int), ¬ Fo c → ρ2 c x y = σ2 c x y)) : WT (true, false, eb) d M as σ P := by
  intro τ hA
  have hI : InF (ov τ σ) := by
    have q := hA.2.2.2 rfl
    exact q.to fun c i j hD => if_pos (by rcases DF_k hD with z | z; exact Or.inl z; exact Or.inr (Or.inl z))
  have hT : ∀ (c : Nat) (i j : Int), Tk (true, true, eb) c j → τ c i j = ov τ σ c i j := fun c i j q => by
    unfold ov
    split
    · rfl
    · rename_i hc
      refine hA.1 c i j ?_
      rcases q with q | q | q | q
      · exact Or.inl q
      · exact Or.inr (Or.inl q)
      · exfalso
        rcases q.2 with w | w
        · rcases DF_k w with z | z
          · exact hc (Or.inl z)
          · exact hc (Or.inr (Or.inl z))
        · exact hc (DX_k w)
      · exact Or.inr (Or.inr (Or.inr q))
  refine WP.mono (fun r τ2 hp => ?_) _ _ _ _ (h (ov τ σ) (fun c hc => ov_ne hc) hI τ ⟨hT, hA.2.1, hA.2.2.1, fun q => by cases q⟩)
  obtain ⟨ρ2, ⟨g1, σ2, g2, g3⟩, g5⟩ := hp
  refine ⟨σ2, g2, ?_, g5.2.1, g5.2.2.1, fun _ => ?_⟩
  · intro c i j q
    have hc : ¬ Fo c := Tk_fo q
    refine (g5.1 c i j ?_).trans (g3 c i j hc)
    rcases q with q | q | q | q
    · exact Or.inl q
    · exact Or.inr (Or.inl q)
    · cases q.1
    · exact Or.inr (Or.inr (Or.inr q))
  · exact g1.to fun c i j hD => g5.1 c i j (Or.inr (Or.inr (Or.inl ⟨rfl, Or.inl hD⟩)))
theorem cpM_eq {V : Mm} {i j : Int} (hij : i ≠ j) : cpM V j i = (su (mu (mu (mu (mu (mu (cpy (cpy (cpy (mu (mu (mu (mu (mu (mu (mu V 7 i 0 (V 7 j 0)) 7 i 1 (V 7 j 1)) 7 i 2 (V 7 j 2)) 7 i 3 (V 7 j 3)) 7 i 4 (V 7 j 4)) 7 i 5 (V 7 j 5)) 7 i 6 (V 7 j 6)) 8 j 0 8 i 0 (V 7 j 6)) 9 j 0 9 i 0 (V 7 j 6)) 10 j 0 10 i 0 (V 7 j 6)) 7 i 10 (V 7 j 10)) 7 i 12 (V 7 j 12)) 7 i 13 (V 7 j 13)) 7 i 14 (V 7 j 14)) 7 i 15 (V 7 j 15)) 11 i (r7 ((mu (mu (mu (mu (mu (cpy (cpy (cpy (mu (mu (mu (mu (mu (mu (mu V 7 i 0 (V 7 j 0)) 7 i 1 (V 7 j 1)) 7 i 2 (V 7 j 2)) 7 i 3 (V 7 j 3)) 7 i 4 (V 7 j 4)) 7 i 5 (V 7 j 5)) 7 i 6 (V 7 j 6)) 8 j 0 8 i 0 (V 7 j 6)) 9 j 0 9 i 0 (V 7 j 6)) 10 j 0 10 i 0 (V 7 j 6)) 7 i 10 (V 7 j 10)) 7 i 12 (V 7 j 12)) 7 i 13 (V 7 j 13)) 7 i 14 (V 7 j 14)) 7 i 15 (V 7 j 15)) 11 j 0) ((mu (mu (mu (mu (mu (cpy (cpy (cpy (mu (mu (mu (mu (mu (mu (mu V 7 i 0 (V 7 j 0)) 7 i 1 (V 7 j 1)) 7 i 2 (V 7 j 2)) 7 i 3 (V 7 j 3)) 7 i 4 (V 7 j 4)) 7 i 5 (V 7 j 5)) 7 i 6 (V 7 j 6)) 8 j 0 8 i 0 (V 7 j 6)) 9 j 0 9 i 0 (V 7 j 6)) 10 j 0 10 i 0 (V 7 j 6)) 7 i 10 (V 7 j 10)) 7 i 12 (V 7 j 12)) 7 i 13 (V 7 j 13)) 7 i 14 (V 7 j 14)) 7 i 15 (V 7 j 15)) 11 j 1) ((mu (mu (mu (mu (mu (cpy (cpy (cpy (mu (mu (mu (mu (mu (mu (mu V 7 i 0 (V 7 j 0)) 7 i 1 (V 7 j 1)) 7 i 2 (V 7 j 2)) 7 i 3 (V 7 j 3)) 7 i 4 (V 7 j 4)) 7 i 5 (V 7 j 5)) 7 i 6 (V 7 j 6)) 8 j 0 8 i 0 (V 7 j 6)) 9 j 0 9 i 0 (V 7 j 6)) 10 j 0 10 i 0 (V 7 j 6)) 7 i 10 (V 7 j 10)) 7 i 12 (V 7 j 12)) 7 i 13 (V 7 j 13)) 7 i 14 (V 7 j 14)) 7 i 15 (V 7 j 15)) 11 j 2) ((mu (mu (mu (mu (mu (cpy (cpy (cpy (mu (mu (mu (mu (mu (mu (mu V 7 i 0 (V 7 j 0)) 7 i 1 (V 7 j 1)) 7 i 2 (V 7 j 2)) 7 i 3 (V 7 j 3)) 7 i 4 (V 7 j 4)) 7 i 5 (V 7 j 5)) 7 i 6 (V 7 j 6)) 8 j 0 8 i 0 (V 7 j 6)) 9 j 0 9 i 0 (V 7 j 6)) 10 j 0 10 i 0 (V 7 j 6)) 7 i 10 (V 7 j 10)) 7 i 12 (V 7 j 12)) 7 i 13 (V 7 j 13)) 7 i 14 (V 7 j 14)) 7 i 15 (V 7 j 15)) 11 j 3) ((mu (mu (mu (mu (mu (cpy (cpy (cpy (mu (mu (mu (mu (mu (mu (mu V 7 i 0 (V 7 j 0)) 7 i 1 (V 7 j 1)) 7 i 2 (V 7 j 2)) 7 i 3 (V 7 j 3)) 7 i 4 (V 7 j 4)) 7 i 5 (V 7 j 5)) 7 i 6 (V 7 j 6)) 8 j 0 8 i 0 (V 7 j 6)) 9 j 0 9 i 0 (V 7 j 6)) 10 j 0 10 i 0 (V 7 j 6)) 7 i 10 (V 7 j 10)) 7 i 12 (V 7 j 12)) 7 i 13 (V 7 j 13)) 7 i 14 (V 7 j 14)) 7 i 15 (V 7 j 15)) 11 j 4) ((mu (mu (mu (mu (mu (cpy (cpy (cpy (mu (mu (mu (mu (mu (mu (mu V 7 i 0 (V 7 j 0)) 7 i 1 (V 7 j 1)) 7 i 2 (V 7 j 2)) 7 i 3 (V 7 j 3)) 7 i 4 (V 7 j 4)) 7 i 5 (V 7 j 5)) 7 i 6 (V 7 j 6)) 8 j 0 8 i 0 (V 7 j 6)) 9 j 0 9 i 0 (V 7 j 6)) 10 j 0 10 i 0 (V 7 j 6)) 7 i 10 (V 7 j 10)) 7 i 12 (V 7 j 12)) 7 i 13 (V 7 j 13)) 7 i 14 (V 7 j 14)) 7 i 15 (V 7 j 15)) 11 j 5) ((mu (mu (mu (mu (mu (cpy (cpy (cpy (mu (mu (mu (mu (mu (mu (mu V 7 i 0 (V 7 j 0)) 7 i 1 (V 7 j 1)) 7 i 2 (V 7 j 2)) 7 i 3 (V 7 j 3)) 7 i 4 (V 7 j 4)) 7 i 5 (V 7 j 5)) 7 i 6 (V 7 j 6)) 8 j 0 8 i 0 (V 7 j 6)) 9 j 0 9 i 0 (V 7 j 6)) 10 j 0 10 i 0 (V 7 j 6)) 7 i 10 (V 7 j 10)) 7 i 12 (V 7 j 12)) 7 i 13 (V 7 j 13)) 7 i 14 (V 7 j 14)) 7 i 15 (V 7 j 15)) 11 j 6) ((mu (mu (mu (mu (mu (cpy (cpy (cpy (mu (mu (mu (mu (mu (mu (mu V 7 i 0 (V 7 j 0)) 7 i 1 (V 7 j 1)) 7 i 2 (V 7 j 2)) 7 i 3 (V 7 j 3)) 7 i 4 (V 7 j 4)) 7 i 5 (V 7 j 5)) 7 i 6 (V 7 j 6)) 8 j 0 8 i 0 (V 7 j 6)) 9 j 0 9 i 0 (V 7 j 6)) 10 j 0 10 i 0 (V 7 j 6)) 7 i 10 (V 7 j 10)) 7 i 12 (V 7 j 12)) 7 i 13 (V 7 j 13)) 7 i 14 (V 7 j 14)) 7 i 15 (V 7 j 15)) 11 i))) := by
  funext c x t
  by_cases hx : i = x
  · subst hx
    unfold cpM
    rw [if_pos rfl]
    by_cases c7 : c = 7
    · subst c7
      rw [if_pos rfl]
      by_cases t0 : t = 0
      · subst t0
        rw [su_ne (by omega), mu_ne (by omega), mu_ne (by omega), mu_ne (by omega), mu_ne (by omega), mu_ne (by omega), cpy_ne (by omega), cpy_ne (by omega), cpy_ne (by omega), mu_ne (by omega), mu_ne (by omega), mu_ne (by omega), mu_ne (by omega), mu_ne (by omega), mu_ne (by omega), mu_self]
        first | rfl | (exact if_pos (by omega))
      by_cases t1 : t = 1
      · subst t1
        rw [su_ne (by omega), mu_ne (by omega), mu_ne (by omega), mu_ne (by omega), mu_ne (by omega), mu_ne (by omega), cpy_ne (by omega), cpy_ne (by omega), cpy_ne (by omega), mu_ne (by omega), mu_ne (by omega), mu_ne (by omega), mu_ne (by omega), mu_ne (by omega), mu_self]
        first | rfl | (exact if_pos (by omega))
      by_cases t2 : t = 2
      · subst t2
        rw [su_ne (by omega), mu_ne (by omega), mu_ne (by omega), mu_ne (by omega), mu_ne (by omega), mu_ne (by omega), cpy_ne (by omega), cpy_ne (by omega), cpy_ne (by omega), mu_ne (by omega), mu_ne (by omega), mu_ne (by omega), mu_ne (by omega), mu_self]
        first | rfl | (exact if_pos (by omega))
      by_cases t3 : t = 3
      · subst t3
        rw [su_ne (by omega), mu_ne (by omega), mu_ne (by omega), mu_ne (by omega), mu_ne (by omega), mu_ne (by omega), cpy_ne (by omega), cpy_ne (by omega), cpy_ne (by omega), mu_ne (by omega), mu_ne (by omega), mu_ne (by omega), mu_self]
        first | rfl | (exact if_pos (by omega))
      by_cases t4 : t = 4
      · subst t4
        rw [su_ne (by omega), mu_ne (by omega), mu_ne (by omega), mu_ne (by omega), mu_ne (by omega), mu_ne (by omega), cpy_ne (by omega), cpy_ne (by omega), cpy_ne (by omega), mu_ne (by omega), mu_ne (by omega), mu_self]
        first | rfl | (exact if_pos (by omega))
      by_cases t5 : t = 5
      · subst t5
        rw [su_ne (by omega), mu_ne (by omega), mu_ne (by omega), mu_ne (by omega), mu_ne (by omega), mu_ne (by omega), cpy_ne (by omega), cpy_ne (by omega), cpy_ne (by omega), mu_ne (by omega), mu_self]
        first | rfl | (exact if_pos (by omega))
      by_cases t6 : t = 6
      · subst t6
        rw [su_ne (by omega), mu_ne (by omega), mu_ne (by omega), mu_ne (by omega), mu_ne (by omega), mu_ne (by omega), cpy_ne (by omega), cpy_ne (by omega), cpy_ne (by omega), mu_self]
        first | rfl | (exact if_pos (by omega))
      by_cases t10 : t = 10
      · subst t10
        rw [su_ne (by omega), mu_ne (by omega), mu_ne (by omega), mu_ne (by omega), mu_ne (by omega), mu_self]
        first | rfl | (exact if_pos (by omega))
      by_cases t12 : t = 12
      · subst t12
        rw [su_ne (by omega), mu_ne (by omega), mu_ne (by omega), mu_ne (by omega), mu_self]
        first | rfl | (exact if_pos (by omega))
      by_cases t13 : t = 13
      · subst t13
        rw [su_ne (by omega), mu_ne (by omega), mu_ne (by omega), mu_self]
        first | rfl | (exact if_pos (by omega))
      by_cases t14 : t = 14
      · subst t14
        rw [su_ne (by omega), mu_ne (by omega), mu_self]
        first | rfl | (exact if_pos (by omega))
      by_cases t15 : t = 15
      · subst t15
        rw [su_ne (by omega), mu_self]
        first | rfl | (exact if_pos (by omega))
      rw [su_ne (by omega), mu_ne (by omega), mu_ne (by omega), mu_ne (by omega), mu_ne (by omega), mu_ne (by omega), cpy_ne (by omega), cpy_ne (by omega), cpy_ne (by omega), mu_ne (by omega), mu_ne (by omega), mu_ne (by omega), mu_ne (by omega), mu_ne (by omega), mu_ne (by omega), mu_ne (by omega)]
      rw [if_neg (by omega)]
    rw [if_neg c7]
    by_cases c8 : c = 8 ∨ c = 9 ∨ c = 10
    · rw [if_pos c8]
      by_cases ht : 0 ≤ t ∧ t < V 7 j 6
      · rw [if_pos ht]
        rcases c8 with rfl | rfl | rfl
        · rw [su_ne (by omega), mu_ne (by omega), mu_ne (by omega), mu_ne (by omega), mu_ne (by omega), mu_ne (by omega), cpy_ne (by omega), cpy_ne (by omega), cpy_in (by omega), show (0 : Int) + (t - 0) = t from by omega, mu_ne (by omega), mu_ne (by omega), mu_ne (by omega), mu_ne (by omega), mu_ne (by omega), mu_ne (by omega), mu_ne (by omega)]
        · rw [su_ne (by omega), mu_ne (by omega), mu_ne (by omega), mu_ne (by omega), mu_ne (by omega), mu_ne (by omega), cpy_ne (by omega), cpy_in (by omega), show (0 : Int) + (t - 0) = t from by omega, cpy_ne (by omega), mu_ne (by omega), mu_ne (by omega), mu_ne (by omega), mu_ne (by omega), mu_ne (by omega), mu_ne (by omega), mu_ne (by omega)]
        · rw [su_ne (by omega), mu_ne (by omega), mu_ne (by omega), mu_ne (by omega), mu_ne (by omega), mu_ne (by omega), cpy_in (by omega), show (0 : Int) + (t - 0) = t from by omega, cpy_ne (by omega), cpy_ne (by omega), mu_ne (by omega), mu_ne (by omega), mu_ne (by omega), mu_ne (by omega), mu_ne (by omega), mu_ne (by omega), mu_ne (by omega)]
      · rw [if_neg ht]
        rcases c8 with rfl | rfl | rfl
        · rw [su_ne (by omega), mu_ne (by omega), mu_ne (by omega), mu_ne (by omega), mu_ne (by omega), mu_ne (by omega), cpy_ne (by omega), cpy_ne (by omega), cpy_off (by omega), mu_ne (by omega), mu_ne (by omega), mu_ne (by omega), mu_ne (by omega), mu_ne (by omega), mu_ne (by omega), mu_ne (by omega)]
        · rw [su_ne (by omega), mu_ne (by omega), mu_ne (by omega), mu_ne (by omega), mu_ne (by omega), mu_ne (by omega), cpy_ne (by omega), cpy_off (by omega), cpy_ne (by omega), mu_ne (by omega), mu_ne (by omega), mu_ne (by omega), mu_ne (by omega), mu_ne (by omega), mu_ne (by omega), mu_ne (by omega)]
        · rw [su_ne (by omega), mu_ne (by omega), mu_ne (by omega), mu_ne (by omega), mu_ne (by omega), mu_ne (by omega), cpy_off (by omega), cpy_ne (by omega), cpy_ne (by omega), mu_ne (by omega), mu_ne (by omega), mu_ne (by omega), mu_ne (by omega), mu_ne (by omega), mu_ne (by omega), mu_ne (by omega)]
    rw [if_neg c8]
    by_cases c11 : c = 11
    · subst c11
      rw [if_pos rfl, su_at]
      rw [show (mu (mu (mu (mu (mu (cpy (cpy (cpy (mu (mu (mu (mu (mu (mu (mu V 7 i 0 (V 7 j 0)) 7 i 1 (V 7 j 1)) 7 i 2 (V 7 j 2)) 7 i 3 (V 7 j 3)) 7 i 4 (V 7 j 4)) 7 i 5 (V 7 j 5)) 7 i 6 (V 7 j 6)) 8 j 0 8 i 0 (V 7 j 6)) 9 j 0 9 i 0 (V 7 j 6)) 10 j 0 10 i 0 (V 7 j 6)) 7 i 10 (V 7 j 10)) 7 i 12 (V 7 j 12)) 7 i 13 (V 7 j 13)) 7 i 14 (V 7 j 14)) 7 i 15 (V 7 j 15)) 11 j = V 11 j from funext fun y => by rw [mu_ne (by omega), mu_ne (by omega), mu_ne (by omega), mu_ne (by omega), mu_ne (by omega), cpy_ne (by omega), cpy_ne (by omega), cpy_ne (by omega), mu_ne (by omega), mu_ne (by omega), mu_ne (by omega), mu_ne (by omega), mu_ne (by omega), mu_ne (by omega), mu_ne (by omega)], show (mu (mu (mu (mu (mu (cpy (cpy (cpy (mu (mu (mu (mu (mu (mu (mu V 7 i 0 (V 7 j 0)) 7 i 1 (V 7 j 1)) 7 i 2 (V 7 j 2)) 7 i 3 (V 7 j 3)) 7 i 4 (V 7 j 4)) 7 i 5 (V 7 j 5)) 7 i 6 (V 7 j 6)) 8 j 0 8 i 0 (V 7 j 6)) 9 j 0 9 i 0 (V 7 j 6)) 10 j 0 10 i 0 (V 7 j 6)) 7 i 10 (V 7 j 10)) 7 i 12 (V 7 j 12)) 7 i 13 (V 7 j 13)) 7 i 14 (V 7 j 14)) 7 i 15 (V 7 j 15)) 11 i = V 11 i from funext fun y => by rw [mu_ne (by omega), mu_ne (by omega), mu_ne (by omega), mu_ne (by omega), mu_ne (by omega), cpy_ne (by omega), cpy_ne (by omega), cpy_ne (by omega), mu_ne (by omega), mu_ne (by omega), mu_ne (by omega), mu_ne (by omega), mu_ne (by omega), mu_ne (by omega), mu_ne (by omega)], r7_cp]
    rw [if_neg c11]
    rw [su_ne (by omega), mu_ne (by omega), mu_ne (by omega), mu_ne (by omega), mu_ne (by omega), mu_ne (by omega), cpy_ne (by omega), cpy_ne (by omega), cpy_ne (by omega), mu_ne (by omega), mu_ne (by omega), mu_ne (by omega), mu_ne (by omega), mu_ne (by omega), mu_ne (by omega), mu_ne (by omega)]
  · unfold cpM
    rw [if_neg (fun q => hx q.symm)]
    rw [su_ne (by omega), mu_ne (by omega), mu_ne (by omega), mu_ne (by omega), mu_ne (by omega), mu_ne (by omega), cpy_ni (by omega), cpy_ni (by omega), cpy_ni (by omega), mu_ne (by omega), mu_ne (by omega), mu_ne (by omega), mu_ne (by omega), mu_ne (by omega), mu_ne (by omega), mu_ne (by omega)]
theorem x_copyL {eb ec : Bool} {d : Nat} {P : Option Vl → Mm → Prop} {σ : Mm} {i j : Int} (b_i : 0 ≤ i ∧ i ≤ 6) (b_j : 0 ≤ j ∧ j ≤ 6) (hij : i ≠ j)  (k : P none (cpM σ j i)) : WT (true, eb, ec) (d + 2) 27 [vR 7 i, vR 7 j] σ P := by
  refine WT_in fun K hK => ?_
  have hK : StpY (true, eb, ec) cX2_copyFrom RX2 (none) (WT (true, eb, ec) (d + 1)) P K := hK
  have hM := hK.1
  have hC := hK.1.1
  show K 0 [some (vR 7 i), some (vR 7 j)] [] σ
  refine r_aload_n hC dX2_copyFrom_0 rfl ?_
  refine r_aload_n hC dX2_copyFrom_1 rfl ?_
  refine z_getI (jz := 0) hM dX2_copyFrom_2 fl_RX2_9 rfl rfl rfl (fun v1 h_v1 o_v1 t_v1 => ?_)
  have w_v1 := ((t_v1 (Or.inl (by first | exact trivial | exact tb7_ (by decide) | simp [Tb]))).trans (rfl)).symm
  clear t_v1
  subst w_v1
  refine z_putIT (jz := 0) hM dX2_copyFrom_5 fw_RX2_9 rfl rfl rfl ⟨Or.inr (by first | exact id | exact dl7_ (by decide) | simp [DL]), Or.inr (by first | exact id | exact df14_ (by decide) | simp [DF])⟩ (by first | trivial | (simp only [Okv]; omega) | (simp [Okv]; try omega)) ?_
  refine r_aload_n hC dX2_copyFrom_8 rfl ?_
  refine r_aload_n hC dX2_copyFrom_9 rfl ?_
  refine z_getI (jz := 1) hM dX2_copyFrom_10 fl_RX2_32 rfl rfl rfl (fun v2 h_v2 o_v2 t_v2 => ?_)
  have w_v2 := ((t_v2 (Or.inl (by first | exact trivial | exact tb7_ (by decide) | simp [Tb]))).trans ((mu_ne (by omega)).trans (rfl))).symm
  clear t_v2
  subst w_v2
  have q_v2 : 0 ≤ (σ 7 j 1) ∧ (σ 7 j 1) ≤ 1 := by have := o_v2.2.1 rfl; omega
  refine z_putZT (jz := 1) hM dX2_copyFrom_13 fw_RX2_32 rfl rfl rfl (by omega) ⟨Or.inr (by first | exact id | exact dl7_ (by decide) | simp [DL]), Or.inr (by first | exact id | exact df14_ (by decide) | simp [DF])⟩ (by first | trivial | (simp only [Okv]; omega) | (simp [Okv]; try omega)) ?_
  refine r_aload_n hC dX2_copyFrom_16 rfl ?_
  refine r_aload_n hC dX2_copyFrom_17 rfl ?_
  refine z_getI (jz := 2) hM dX2_copyFrom_18 fl_RX2_36 rfl rfl rfl (fun v3 h_v3 o_v3 t_v3 => ?_)
  have w_v3 := ((t_v3 (Or.inl (by first | exact trivial | exact tb7_ (by decide) | simp [Tb]))).trans ((mu_ne (by omega)).trans ((mu_ne (by omega)).trans (rfl)))).symm
  clear t_v3
  subst w_v3
  have q_v3 : 0 ≤ (σ 7 j 2) ∧ (σ 7 j 2) ≤ 9 := o_v3.2.2 rfl
  refine z_putIT (jz := 2) hM dX2_copyFrom_21 fw_RX2_36 rfl rfl rfl ⟨Or.inr (by first | exact id | exact dl7_ (by decide) | simp [DL]), Or.inr (by first | exact id | exact df14_ (by decide) | simp [DF])⟩ (by first | trivial | (simp only [Okv]; omega) | (simp [Okv]; try omega)) ?_
  refine r_aload_n hC dX2_copyFrom_24 rfl ?_
  refine r_aload_n hC dX2_copyFrom_25 rfl ?_
  refine z_getI (jz := 3) hM dX2_copyFrom_26 fl_RX2_39 rfl rfl rfl (fun v4 h_v4 o_v4 t_v4 => ?_)
  have w_v4 := ((t_v4 (Or.inl (by first | exact trivial | exact tb7_ (by decide) | simp [Tb]))).trans ((mu_ne (by omega)).trans ((mu_ne (by omega)).trans ((mu_ne (by omega)).trans (rfl))))).symm
  clear t_v4
  subst w_v4
  refine z_putIT (jz := 3) hM dX2_copyFrom_29 fw_RX2_39 rfl rfl rfl ⟨Or.inl rfl, Or.inr (by first | exact id | exact df14_ (by decide) | simp [DF])⟩ (by first | trivial | (simp only [Okv]; omega) | (simp [Okv]; try omega)) ?_
  refine r_aload_n hC dX2_copyFrom_32 rfl ?_
  refine r_aload_n hC dX2_copyFrom_33 rfl ?_
  refine z_getI (jz := 4) hM dX2_copyFrom_34 fl_RX2_42 rfl rfl rfl (fun v5 h_v5 o_v5 t_v5 => ?_)
  have w_v5 := ((t_v5 (Or.inl (by first | exact trivial | exact tb7_ (by decide) | simp [Tb]))).trans ((mu_ne (by omega)).trans ((mu_ne (by omega)).trans ((mu_ne (by omega)).trans ((mu_ne (by omega)).trans (rfl)))))).symm
  clear t_v5
  subst w_v5
  refine z_putIT (jz := 4) hM dX2_copyFrom_37 fw_RX2_42 rfl rfl rfl ⟨Or.inl rfl, Or.inr (by first | exact id | exact df14_ (by decide) | simp [DF])⟩ (by first | trivial | (simp only [Okv]; omega) | (simp [Okv]; try omega)) ?_
  refine r_aload_n hC dX2_copyFrom_40 rfl ?_
  refine r_aload_n hC dX2_copyFrom_41 rfl ?_
  refine z_getI (jz := 5) hM dX2_copyFrom_42 fl_RX2_45 rfl rfl rfl (fun v6 h_v6 o_v6 t_v6 => ?_)
  have w_v6 := ((t_v6 (Or.inl (by first | exact trivial | exact tb7_ (by decide) | simp [Tb]))).trans ((mu_ne (by omega)).trans ((mu_ne (by omega)).trans ((mu_ne (by omega)).trans ((mu_ne (by omega)).trans ((mu_ne (by omega)).trans (rfl))))))).symm
  clear t_v6
  subst w_v6
  refine z_putIT (jz := 5) hM dX2_copyFrom_45 fw_RX2_45 rfl rfl rfl ⟨Or.inr (by first | exact id | exact dl7_ (by decide) | simp [DL]), Or.inr (by first | exact id | exact df14_ (by decide) | simp [DF])⟩ (by first | trivial | (simp only [Okv]; omega) | (simp [Okv]; try omega)) ?_
  refine r_aload_n hC dX2_copyFrom_48 rfl ?_
  refine r_aload_n hC dX2_copyFrom_49 rfl ?_
  refine z_getI (jz := 6) hM dX2_copyFrom_50 fl_RX2_48 rfl rfl rfl (fun v7 h_v7 o_v7 t_v7 => ?_)
  have w_v7 := ((t_v7 (Or.inl (by first | exact trivial | exact tb7_ (by decide) | simp [Tb]))).trans ((mu_ne (by omega)).trans ((mu_ne (by omega)).trans ((mu_ne (by omega)).trans ((mu_ne (by omega)).trans ((mu_ne (by omega)).trans ((mu_ne (by omega)).trans (rfl)))))))).symm
  clear t_v7
  subst w_v7
  have q_v7 : 0 ≤ (σ 7 j 6) ∧ (σ 7 j 6) ≤ 121 := o_v7.1 rfl
  refine z_putIT (jz := 6) hM dX2_copyFrom_53 fw_RX2_48 rfl rfl rfl ⟨Or.inl rfl, Or.inr (by first | exact id | exact df14_ (by decide) | simp [DF])⟩ (by first | trivial | (simp only [Okv]; omega) | (simp [Okv]; try omega)) ?_
  refine r_aload_n hC dX2_copyFrom_56 rfl ?_
  refine z_getR hM dX2_copyFrom_57 fl_RX2_15 rfl rfl (vld_of (n := 7) rfl (by omega) (by omega)) ?_
  refine r_iconst hC dX2_copyFrom_60 rfl ?_
  refine r_aload_n hC dX2_copyFrom_61 rfl ?_
  refine z_getR hM dX2_copyFrom_62 fl_RX2_15 rfl rfl (vld_of (n := 7) rfl (by omega) (by omega)) ?_
  refine r_iconst hC dX2_copyFrom_65 rfl ?_
  refine r_aload_n hC dX2_copyFrom_66 rfl ?_
  refine z_getI (jz := 6) hM dX2_copyFrom_67 fl_RX2_48 rfl rfl rfl (fun v8 h_v8 o_v8 t_v8 => ?_)
  have w_v8 := ((t_v8 (Or.inl (by first | exact trivial | exact tb7_ (by decide) | simp [Tb]))).trans (mu_self _ _ _ _ _)).symm
  clear t_v8
  subst w_v8
  refine z_copyT hM dX2_copyFrom_70 ac_RX2_72 rfl rfl (by omega) (by omega) (by omega) (by omega) (by omega) (Nat.le_of_ble_eq_true rfl) (fun _ => ⟨by simp [DL], by simp [DF]⟩) (fun _ _ _ h => by simp [Okv] at *; try exact h) (fun x _ _ _ => (Or.inl (by first | exact trivial | exact tb7_ (by decide) | simp [Tb]))) ?_
  refine r_aload_n hC dX2_copyFrom_73 rfl ?_
  refine z_getR hM dX2_copyFrom_74 fl_RX2_19 rfl rfl (vld_of (n := 7) rfl (by omega) (by omega)) ?_
  refine r_iconst hC dX2_copyFrom_77 rfl ?_
  refine r_aload_n hC dX2_copyFrom_78 rfl ?_
  refine z_getR hM dX2_copyFrom_79 fl_RX2_19 rfl rfl (vld_of (n := 7) rfl (by omega) (by omega)) ?_
  refine r_iconst hC dX2_copyFrom_82 rfl ?_
  refine r_aload_n hC dX2_copyFrom_83 rfl ?_
  refine z_getI (jz := 6) hM dX2_copyFrom_84 fl_RX2_48 rfl rfl rfl (fun v9 h_v9 o_v9 t_v9 => ?_)
  have w_v9 := ((t_v9 (Or.inl (by first | exact trivial | exact tb7_ (by decide) | simp [Tb]))).trans ((cpy_ne (by omega)).trans (mu_self _ _ _ _ _))).symm
  clear t_v9
  subst w_v9
  refine z_copyT hM dX2_copyFrom_87 ac_RX2_72 rfl rfl (by omega) (by omega) (by omega) (by omega) (by omega) (Nat.le_of_ble_eq_true rfl) (fun _ => ⟨by simp [DL], by simp [DF]⟩) (fun _ _ _ h => by simp [Okv] at *; try exact h) (fun x _ _ _ => (Or.inl (by first | exact trivial | exact tb7_ (by decide) | simp [Tb]))) ?_
  refine r_aload_n hC dX2_copyFrom_90 rfl ?_
  refine z_getR hM dX2_copyFrom_91 fl_RX2_22 rfl rfl (vld_of (n := 7) rfl (by omega) (by omega)) ?_
  refine r_iconst hC dX2_copyFrom_94 rfl ?_
  refine r_aload_n hC dX2_copyFrom_95 rfl ?_
  refine z_getR hM dX2_copyFrom_96 fl_RX2_22 rfl rfl (vld_of (n := 7) rfl (by omega) (by omega)) ?_
  refine r_iconst hC dX2_copyFrom_99 rfl ?_
  refine r_aload_n hC dX2_copyFrom_100 rfl ?_
  refine z_getI (jz := 6) hM dX2_copyFrom_101 fl_RX2_48 rfl rfl rfl (fun v10 h_v10 o_v10 t_v10 => ?_)
  have w_v10 := ((t_v10 (Or.inl (by first | exact trivial | exact tb7_ (by decide) | simp [Tb]))).trans ((cpy_ne (by omega)).trans ((cpy_ne (by omega)).trans (mu_self _ _ _ _ _)))).symm
  clear t_v10
  subst w_v10
  refine z_copyT hM dX2_copyFrom_104 ac_RX2_72 rfl rfl (by omega) (by omega) (by omega) (by omega) (by omega) (Nat.le_of_ble_eq_true rfl) (fun _ => ⟨by simp [DL], by simp [DF]⟩) (fun _ _ _ h => by simp [Okv] at *; try exact h) (fun x _ _ _ => (Or.inl (by first | exact trivial | exact tb7_ (by decide) | simp [Tb]))) ?_
  refine r_aload_n hC dX2_copyFrom_107 rfl ?_
  refine r_aload_n hC dX2_copyFrom_108 rfl ?_
  refine z_getI (jz := 10) hM dX2_copyFrom_109 fl_RX2_51 rfl rfl rfl (fun v11 h_v11 o_v11 t_v11 => ?_)
  have w_v11 := ((t_v11 (Or.inl (by first | exact trivial | exact tb7_ (by decide) | simp [Tb]))).trans ((cpy_ne (by omega)).trans ((cpy_ne (by omega)).trans ((cpy_ne (by omega)).trans ((mu_ne (by omega)).trans ((mu_ne (by omega)).trans ((mu_ne (by omega)).trans ((mu_ne (by omega)).trans ((mu_ne (by omega)).trans ((mu_ne (by omega)).trans ((mu_ne (by omega)).trans (rfl)))))))))))).symm
  clear t_v11
  subst w_v11
  refine z_putIT (jz := 10) hM dX2_copyFrom_112 fw_RX2_51 rfl rfl rfl ⟨Or.inr (by first | exact id | exact dl7_ (by decide) | simp [DL]), Or.inr (by first | exact id | exact df14_ (by decide) | simp [DF])⟩ (by first | trivial | (simp only [Okv]; omega) | (simp [Okv]; try omega)) ?_
  refine r_aload_n hC dX2_copyFrom_115 rfl ?_
  refine r_aload_n hC dX2_copyFrom_116 rfl ?_
  refine z_getI (jz := 11) hM dX2_copyFrom_117 fl_RX2_54 rfl rfl rfl (fun v12 h_v12 o_v12 t_v12 => ?_)
  clear t_v12
  refine z_putIU (jz := 11) hM dX2_copyFrom_120 fw_RX2_54 rfl rfl rfl (by simp [Un, Tb, DL, DF, DR, DX]) (by simp [Okv]) ?_
  refine r_aload_n hC dX2_copyFrom_123 rfl ?_
  refine r_aload_n hC dX2_copyFrom_124 rfl ?_
  refine z_getI (jz := 12) hM dX2_copyFrom_125 fl_RX2_57 rfl rfl rfl (fun v13 h_v13 o_v13 t_v13 => ?_)
  have w_v13 := ((t_v13 (Or.inl (by first | exact trivial | exact tb7_ (by decide) | simp [Tb]))).trans ((mu_ne (by omega)).trans ((cpy_ne (by omega)).trans ((cpy_ne (by omega)).trans ((cpy_ne (by omega)).trans ((mu_ne (by omega)).trans ((mu_ne (by omega)).trans ((mu_ne (by omega)).trans ((mu_ne (by omega)).trans ((mu_ne (by omega)).trans ((mu_ne (by omega)).trans ((mu_ne (by omega)).trans (rfl))))))))))))).symm
  clear t_v13
  subst w_v13
  refine z_putIT (jz := 12) hM dX2_copyFrom_128 fw_RX2_57 rfl rfl rfl ⟨Or.inr (by first | exact id | exact dl7_ (by decide) | simp [DL]), Or.inr (by first | exact id | exact df14_ (by decide) | simp [DF])⟩ (by first | trivial | (simp only [Okv]; omega) | (simp [Okv]; try omega)) ?_
  refine r_aload_n hC dX2_copyFrom_131 rfl ?_
  refine r_aload_n hC dX2_copyFrom_132 rfl ?_
  refine z_getI (jz := 13) hM dX2_copyFrom_133 fl_RX2_60 rfl rfl rfl (fun v14 h_v14 o_v14 t_v14 => ?_)
  have w_v14 := ((t_v14 (Or.inl (by first | exact trivial | exact tb7_ (by decide) | simp [Tb]))).trans ((mu_ne (by omega)).trans ((mu_ne (by omega)).trans ((cpy_ne (by omega)).trans ((cpy_ne (by omega)).trans ((cpy_ne (by omega)).trans ((mu_ne (by omega)).trans ((mu_ne (by omega)).trans ((mu_ne (by omega)).trans ((mu_ne (by omega)).trans ((mu_ne (by omega)).trans ((mu_ne (by omega)).trans ((mu_ne (by omega)).trans (rfl)))))))))))))).symm
  clear t_v14
  subst w_v14
  refine z_putIT (jz := 13) hM dX2_copyFrom_136 fw_RX2_60 rfl rfl rfl ⟨Or.inr (by first | exact id | exact dl7_ (by decide) | simp [DL]), Or.inr (by first | exact id | exact df14_ (by decide) | simp [DF])⟩ (by first | trivial | (simp only [Okv]; omega) | (simp [Okv]; try omega)) ?_
  refine r_aload_n hC dX2_copyFrom_139 rfl ?_
  refine r_aload_n hC dX2_copyFrom_140 rfl ?_
  refine z_getI (jz := 14) hM dX2_copyFrom_141 fl_RX2_63 rfl rfl rfl (fun v15 h_v15 o_v15 t_v15 => ?_)
  have w_v15 := ((t_v15 (Or.inl (by first | exact trivial | exact tb7_ (by decide) | simp [Tb]))).trans ((mu_ne (by omega)).trans ((mu_ne (by omega)).trans ((mu_ne (by omega)).trans ((cpy_ne (by omega)).trans ((cpy_ne (by omega)).trans ((cpy_ne (by omega)).trans ((mu_ne (by omega)).trans ((mu_ne (by omega)).trans ((mu_ne (by omega)).trans ((mu_ne (by omega)).trans ((mu_ne (by omega)).trans ((mu_ne (by omega)).trans ((mu_ne (by omega)).trans (rfl))))))))))))))).symm
  clear t_v15
  subst w_v15
  refine z_putIT (jz := 14) hM dX2_copyFrom_144 fw_RX2_63 rfl rfl rfl ⟨Or.inr (by first | exact id | exact dl7_ (by decide) | simp [DL]), Or.inr (by first | exact id | exact df14_ (by decide) | simp [DF])⟩ (by first | trivial | (simp only [Okv]; omega) | (simp [Okv]; try omega)) ?_
  refine r_aload_n hC dX2_copyFrom_147 rfl ?_
  refine r_aload_n hC dX2_copyFrom_148 rfl ?_
  refine z_getI (jz := 15) hM dX2_copyFrom_149 fl_RX2_66 rfl rfl rfl (fun v16 h_v16 o_v16 t_v16 => ?_)
  have w_v16 := ((t_v16 (Or.inl (by first | exact trivial | exact tb7_ (by decide) | simp [Tb]))).trans ((mu_ne (by omega)).trans ((mu_ne (by omega)).trans ((mu_ne (by omega)).trans ((mu_ne (by omega)).trans ((cpy_ne (by omega)).trans ((cpy_ne (by omega)).trans ((cpy_ne (by omega)).trans ((mu_ne (by omega)).trans ((mu_ne (by omega)).trans ((mu_ne (by omega)).trans ((mu_ne (by omega)).trans ((mu_ne (by omega)).trans ((mu_ne (by omega)).trans ((mu_ne (by omega)).trans (rfl)))))))))))))))).symm
  clear t_v16
  subst w_v16
  refine z_putIT (jz := 15) hM dX2_copyFrom_152 fw_RX2_66 rfl rfl rfl ⟨Or.inr (by first | exact id | exact dl7_ (by decide) | simp [DL]), Or.inr (by first | exact id | exact df14_ (by decide) | simp [DF])⟩ (by first | trivial | (simp only [Okv]; omega) | (simp [Okv]; try omega)) ?_
  refine r_aload_n hC dX2_copyFrom_155 rfl ?_
  refine z_getR hM dX2_copyFrom_156 fl_RX2_28 rfl rfl (vld_of (n := 8) rfl (by omega) (by omega)) ?_
  refine r_aload_n hC dX2_copyFrom_159 rfl ?_
  refine z_getR hM dX2_copyFrom_160 fl_RX2_28 rfl rfl (vld_of (n := 8) rfl (by omega) (by omega)) ?_
  refine z_inv1 hM dX2_copyFrom_163 vl_RX2_78 rfl rfl rfl (Nat.le_of_ble_eq_true rfl) (Nat.le_of_ble_eq_true rfl) ?_
  refine x_copyFrom (by omega) (by omega) (by omega) ?_
  refine y_vret hK rfl dX2_copyFrom_166 ?_
  have hm : cpM σ j i = (su (mu (mu (mu (mu (mu (cpy (cpy (cpy (mu (mu (mu (mu (mu (mu (mu σ 7 i 0 (σ 7 j 0)) 7 i 1 (σ 7 j 1)) 7 i 2 (σ 7 j 2)) 7 i 3 (σ 7 j 3)) 7 i 4 (σ 7 j 4)) 7 i 5 (σ 7 j 5)) 7 i 6 (σ 7 j 6)) 8 j 0 8 i 0 (σ 7 j 6)) 9 j 0 9 i 0 (σ 7 j 6)) 10 j 0 10 i 0 (σ 7 j 6)) 7 i 10 (σ 7 j 10)) 7 i 12 (σ 7 j 12)) 7 i 13 (σ 7 j 13)) 7 i 14 (σ 7 j 14)) 7 i 15 (σ 7 j 15)) 11 i (r7 ((mu (mu (mu (mu (mu (cpy (cpy (cpy (mu (mu (mu (mu (mu (mu (mu σ 7 i 0 (σ 7 j 0)) 7 i 1 (σ 7 j 1)) 7 i 2 (σ 7 j 2)) 7 i 3 (σ 7 j 3)) 7 i 4 (σ 7 j 4)) 7 i 5 (σ 7 j 5)) 7 i 6 (σ 7 j 6)) 8 j 0 8 i 0 (σ 7 j 6)) 9 j 0 9 i 0 (σ 7 j 6)) 10 j 0 10 i 0 (σ 7 j 6)) 7 i 10 (σ 7 j 10)) 7 i 12 (σ 7 j 12)) 7 i 13 (σ 7 j 13)) 7 i 14 (σ 7 j 14)) 7 i 15 (σ 7 j 15)) 11 j 0) ((mu (mu (mu (mu (mu (cpy (cpy (cpy (mu (mu (mu (mu (mu (mu (mu σ 7 i 0 (σ 7 j 0)) 7 i 1 (σ 7 j 1)) 7 i 2 (σ 7 j 2)) 7 i 3 (σ 7 j 3)) 7 i 4 (σ 7 j 4)) 7 i 5 (σ 7 j 5)) 7 i 6 (σ 7 j 6)) 8 j 0 8 i 0 (σ 7 j 6)) 9 j 0 9 i 0 (σ 7 j 6)) 10 j 0 10 i 0 (σ 7 j 6)) 7 i 10 (σ 7 j 10)) 7 i 12 (σ 7 j 12)) 7 i 13 (σ 7 j 13)) 7 i 14 (σ 7 j 14)) 7 i 15 (σ 7 j 15)) 11 j 1) ((mu (mu (mu (mu (mu (cpy (cpy (cpy (mu (mu (mu (mu (mu (mu (mu σ 7 i 0 (σ 7 j 0)) 7 i 1 (σ 7 j 1)) 7 i 2 (σ 7 j 2)) 7 i 3 (σ 7 j 3)) 7 i 4 (σ 7 j 4)) 7 i 5 (σ 7 j 5)) 7 i 6 (σ 7 j 6)) 8 j 0 8 i 0 (σ 7 j 6)) 9 j 0 9 i 0 (σ 7 j 6)) 10 j 0 10 i 0 (σ 7 j 6)) 7 i 10 (σ 7 j 10)) 7 i 12 (σ 7 j 12)) 7 i 13 (σ 7 j 13)) 7 i 14 (σ 7 j 14)) 7 i 15 (σ 7 j 15)) 11 j 2) ((mu (mu (mu (mu (mu (cpy (cpy (cpy (mu (mu (mu (mu (mu (mu (mu σ 7 i 0 (σ 7 j 0)) 7 i 1 (σ 7 j 1)) 7 i 2 (σ 7 j 2)) 7 i 3 (σ 7 j 3)) 7 i 4 (σ 7 j 4)) 7 i 5 (σ 7 j 5)) 7 i 6 (σ 7 j 6)) 8 j 0 8 i 0 (σ 7 j 6)) 9 j 0 9 i 0 (σ 7 j 6)) 10 j 0 10 i 0 (σ 7 j 6)) 7 i 10 (σ 7 j 10)) 7 i 12 (σ 7 j 12)) 7 i 13 (σ 7 j 13)) 7 i 14 (σ 7 j 14)) 7 i 15 (σ 7 j 15)) 11 j 3) ((mu (mu (mu (mu (mu (cpy (cpy (cpy (mu (mu (mu (mu (mu (mu (mu σ 7 i 0 (σ 7 j 0)) 7 i 1 (σ 7 j 1)) 7 i 2 (σ 7 j 2)) 7 i 3 (σ 7 j 3)) 7 i 4 (σ 7 j 4)) 7 i 5 (σ 7 j 5)) 7 i 6 (σ 7 j 6)) 8 j 0 8 i 0 (σ 7 j 6)) 9 j 0 9 i 0 (σ 7 j 6)) 10 j 0 10 i 0 (σ 7 j 6)) 7 i 10 (σ 7 j 10)) 7 i 12 (σ 7 j 12)) 7 i 13 (σ 7 j 13)) 7 i 14 (σ 7 j 14)) 7 i 15 (σ 7 j 15)) 11 j 4) ((mu (mu (mu (mu (mu (cpy (cpy (cpy (mu (mu (mu (mu (mu (mu (mu σ 7 i 0 (σ 7 j 0)) 7 i 1 (σ 7 j 1)) 7 i 2 (σ 7 j 2)) 7 i 3 (σ 7 j 3)) 7 i 4 (σ 7 j 4)) 7 i 5 (σ 7 j 5)) 7 i 6 (σ 7 j 6)) 8 j 0 8 i 0 (σ 7 j 6)) 9 j 0 9 i 0 (σ 7 j 6)) 10 j 0 10 i 0 (σ 7 j 6)) 7 i 10 (σ 7 j 10)) 7 i 12 (σ 7 j 12)) 7 i 13 (σ 7 j 13)) 7 i 14 (σ 7 j 14)) 7 i 15 (σ 7 j 15)) 11 j 5) ((mu (mu (mu (mu (mu (cpy (cpy (cpy (mu (mu (mu (mu (mu (mu (mu σ 7 i 0 (σ 7 j 0)) 7 i 1 (σ 7 j 1)) 7 i 2 (σ 7 j 2)) 7 i 3 (σ 7 j 3)) 7 i 4 (σ 7 j 4)) 7 i 5 (σ 7 j 5)) 7 i 6 (σ 7 j 6)) 8 j 0 8 i 0 (σ 7 j 6)) 9 j 0 9 i 0 (σ 7 j 6)) 10 j 0 10 i 0 (σ 7 j 6)) 7 i 10 (σ 7 j 10)) 7 i 12 (σ 7 j 12)) 7 i 13 (σ 7 j 13)) 7 i 14 (σ 7 j 14)) 7 i 15 (σ 7 j 15)) 11 j 6) ((mu (mu (mu (mu (mu (cpy (cpy (cpy (mu (mu (mu (mu (mu (mu (mu σ 7 i 0 (σ 7 j 0)) 7 i 1 (σ 7 j 1)) 7 i 2 (σ 7 j 2)) 7 i 3 (σ 7 j 3)) 7 i 4 (σ 7 j 4)) 7 i 5 (σ 7 j 5)) 7 i 6 (σ 7 j 6)) 8 j 0 8 i 0 (σ 7 j 6)) 9 j 0 9 i 0 (σ 7 j 6)) 10 j 0 10 i 0 (σ 7 j 6)) 7 i 10 (σ 7 j 10)) 7 i 12 (σ 7 j 12)) 7 i 13 (σ 7 j 13)) 7 i 14 (σ 7 j 14)) 7 i 15 (σ 7 j 15)) 11 i))) := cpM_eq hij
  rw [hm] at k
  exact k
theorem x_keep {ec : Bool} {d : Nat} {P : Option Vl → Mm → Prop} {σ : Mm} {l x : Int}   (k : P (some (vI (kpR σ l x))) (kpM σ l x)) : WT (true, false, ec) (d + 4) 114 [vR 2 0, vI l, vI x] σ P := by
  refine WT_in fun K hK => ?_
  have hK : StpY (true, false, ec) cX5_keep RX5 (some .int) (WT (true, false, ec) (d + 3)) P K := hK
  have hM := hK.1
  have hC := hK.1.1
  show K 0 [some (vR 2 0), some (vI l), some (vI x), none] [] σ
  refine r_rngz hC (fun g0 => ?_)
  have r_l : -2147483648 ≤ l ∧ l ≤ 2147483647 := inR_le (g0 (vI l) (by simp))
  have r_x : -2147483648 ≤ x ∧ x ≤ 2147483647 := inR_le (g0 (vI x) (by simp))
  refine r_aload_n hC dX5_keep_0 rfl ?_
  refine r_iload_n hC dX5_keep_1 rfl ?_
  refine z_inv1 hM dX5_keep_2 vl_RX5_123 rfl rfl rfl (Nat.le_of_ble_eq_true rfl) (Nat.le_of_ble_eq_true rfl) ?_
  refine x_openLane (fun h1 => ?_) (fun h1 => ?_)
  · -- h1
    refine r_astore_n hC dX5_keep_5 rfl ?_
    refine r_aload_n hC dX5_keep_6 rfl ?_
    refine r_ifnullR hC dX5_keep_7 ?_
    refine r_iload_n hC dX5_keep_10 rfl ?_
    refine r_iconst hC dX5_keep_11 rfl ?_
    refine r_iconst hC dX5_keep_12 rfl ?_
    refine z_ins3 hM dX5_keep_13 tl_RX5_59 rfl (Nat.le_of_ble_eq_true rfl) (Nat.le_of_ble_eq_true rfl) ?_
    refine s_within (fun h3 => ?_) (fun h3 => ?_)
    · refine r_if_ne (tgt := 21) hC dX5_keep_16 rfl (fun h4 => ?_) (fun h4 => by omega)
      refine r_aload_n hC dX5_keep_21 rfl ?_
      refine z_getR hM dX5_keep_22 fl_RX5_27 rfl rfl (vld_of (n := 1) rfl (by omega) (by omega)) ?_
      refine r_iload_n hC dX5_keep_25 rfl ?_
      refine z_aald hM dX5_keep_26 rfl (by decide) (by omega) (by omega) (vld_of (n := 7) rfl (by omega) (by omega)) ?_
      rw [show rfa 4 x = (7, (x + 4)) from by simp [rfa]; try omega]
      refine r_aload_n hC dX5_keep_27 rfl ?_
      refine z_inv1 hM dX5_keep_28 vl_RX5_349 rfl rfl rfl (Nat.le_of_ble_eq_true rfl) (Nat.le_of_ble_eq_true rfl) ?_
      refine x_copyL (by omega) (by omega) (by omega) ?_
      refine r_aload_n hC dX5_keep_31 rfl ?_
      refine z_getI (jz := 6) hM dX5_keep_32 fl_RX5_154 rfl rfl rfl (fun v5 h_v5 o_v5 t_v5 => ?_)
      have w_v5 := ((t_v5 (Or.inl (by first | exact trivial | exact tb7_ (by decide) | simp [Tb]))).trans ((cpM_ne (by omega)).trans (rfl))).symm
      clear t_v5
      subst w_v5
      have q_v5 : 0 ≤ (σ 7 l 6) ∧ (σ 7 l 6) ≤ 121 := o_v5.1 rfl
      refine y_iret hK rfl dX5_keep_35 ?_
      have hM : kpM σ l x = (cpM σ l (x + 4)) := by
        exact if_pos (by omega)
      rw [hM] at k
      have hR : kpR σ l x = (σ 7 l 6) := by
        exact if_pos (by omega)
      rw [hR] at k
      exact k
    · refine r_if_ne (tgt := 21) hC dX5_keep_16 rfl (fun h6 => by omega) (fun h6 => ?_)
      refine r_iconst hC dX5_keep_19 rfl ?_
      refine y_iret hK rfl dX5_keep_20 ?_
      have hM : kpM σ l x = σ := by
        exact if_neg (by omega)
      rw [hM] at k
      have hR : kpR σ l x = (-1) := by
        exact if_neg (by omega)
      rw [hR] at k
      exact k
  · -- h1
    refine r_astoreN_n hC dX5_keep_5 rfl ?_
    refine r_aloadN_n hC dX5_keep_6 rfl ?_
    refine r_ifnullN (tgt := 19) hC dX5_keep_7 rfl ?_
    refine r_iconst hC dX5_keep_19 rfl ?_
    refine y_iret hK rfl dX5_keep_20 ?_
    have hM : kpM σ l x = σ := by
      exact if_neg (by omega)
    rw [hM] at k
    have hR : kpR σ l x = (-1) := by
      exact if_neg (by omega)
    rw [hR] at k
    exact k
theorem x_back {ec : Bool} {d : Nat} {P : Option Vl → Mm → Prop} {σ : Mm} {x : Int}  (hbx : bkC σ x → 0 ≤ (σ 7 (x + 4) 0) ∧ (σ 7 (x + 4) 0) ≤ 3)  (k : P (some (vI (bkR σ x))) (bkM σ x)) : WT (true, false, ec) (d + 3) 115 [vR 2 0, vI x] σ P := by
  refine WT_in fun K hK => ?_
  have hK : StpY (true, false, ec) cX5_back RX5 (some .int) (WT (true, false, ec) (d + 2)) P K := hK
  have hM := hK.1
  have hC := hK.1.1
  show K 0 [some (vR 2 0), some (vI x), none] [] σ
  refine r_rngz hC (fun g0 => ?_)
  have r_x : -2147483648 ≤ x ∧ x ≤ 2147483647 := inR_le (g0 (vI x) (by simp))
  refine r_iload_n hC dX5_back_0 rfl ?_
  refine r_iconst hC dX5_back_1 rfl ?_
  refine r_iconst hC dX5_back_2 rfl ?_
  refine z_ins3 hM dX5_back_3 tl_RX5_59 rfl (Nat.le_of_ble_eq_true rfl) (Nat.le_of_ble_eq_true rfl) ?_
  refine s_within (fun h2 => ?_) (fun h2 => ?_)
  · refine r_if_eq (tgt := 21) hC dX5_back_6 rfl (fun h3 => by omega) (fun h3 => ?_)
    refine r_aload_n hC dX5_back_9 rfl ?_
    refine z_getR hM dX5_back_10 fl_RX5_27 rfl rfl (vld_of (n := 1) rfl (by omega) (by omega)) ?_
    refine r_iload_n hC dX5_back_13 rfl ?_
    refine z_aald hM dX5_back_14 rfl (by decide) (by omega) (by omega) (vld_of (n := 7) rfl (by omega) (by omega)) ?_
    rw [show rfa 4 x = (7, (x + 4)) from by simp [rfa]; try omega]
    refine z_getI (jz := 1) hM dX5_back_15 fl_RX5_94 rfl rfl rfl (fun v4 h_v4 o_v4 t_v4 => ?_)
    have w_v4 := ((t_v4 (Or.inl (by first | exact trivial | exact tb7_ (by decide) | simp [Tb]))).trans (rfl)).symm
    clear t_v4
    subst w_v4
    have q_v4 : 0 ≤ (σ 7 (x + 4) 1) ∧ (σ 7 (x + 4) 1) ≤ 1 := by have := o_v4.2.1 rfl; omega
    refine r_if_ne (tgt := 23) hC dX5_back_18 rfl (fun h5 => ?_) (fun h5 => ?_)
    · refine r_aload_n hC dX5_back_23 rfl ?_
      refine z_getR hM dX5_back_24 fl_RX5_27 rfl rfl (vld_of (n := 1) rfl (by omega) (by omega)) ?_
      refine r_iload_n hC dX5_back_27 rfl ?_
      refine z_aald hM dX5_back_28 rfl (by decide) (by omega) (by omega) (vld_of (n := 7) rfl (by omega) (by omega)) ?_
      rw [show rfa 4 x = (7, (x + 4)) from by simp [rfa]; try omega]
      refine r_astore_n hC dX5_back_29 rfl ?_
      refine r_aload_n hC dX5_back_30 rfl ?_
      refine z_getR hM dX5_back_31 fl_RX5_13 rfl rfl (vld_of (n := 1) rfl (by omega) (by omega)) ?_
      refine r_aload_n hC dX5_back_34 rfl ?_
      refine z_getI (jz := 0) hM dX5_back_35 fl_RX5_212 rfl rfl rfl (fun v6 h_v6 o_v6 t_v6 => ?_)
      have w_v6 := ((t_v6 (Or.inl (by first | exact trivial | exact tb7_ (by decide) | simp [Tb]))).trans (rfl)).symm
      clear t_v6
      subst w_v6
      refine z_aald hM dX5_back_38 rfl (by decide) (by omega) (by omega) (vld_of (n := 7) rfl (by omega) (by omega)) ?_
      refine r_aload_n hC dX5_back_39 rfl ?_
      refine z_inv1 hM dX5_back_40 vl_RX5_349 rfl rfl rfl (Nat.le_of_ble_eq_true rfl) (Nat.le_of_ble_eq_true rfl) ?_
      refine x_copyL (by omega) (by omega) (by omega) ?_
      refine r_aload_n hC dX5_back_43 rfl ?_
      refine r_aload_n hC dX5_back_44 rfl ?_
      refine z_getI (jz := 0) hM dX5_back_45 fl_RX5_212 rfl rfl rfl (fun v7 h_v7 o_v7 t_v7 => ?_)
      have w_v7 := ((t_v7 (Or.inl (by first | exact trivial | exact tb7_ (by decide) | simp [Tb]))).trans ((cpM_ne (by omega)).trans (rfl))).symm
      clear t_v7
      subst w_v7
      refine z_inv1 hM dX5_back_48 vl_RX5_117 rfl rfl rfl (Nat.le_of_ble_eq_true rfl) (Nat.le_of_ble_eq_true rfl) ?_
      refine x_endTies (by omega) ?_
      refine r_aload_n hC dX5_back_51 rfl ?_
      refine z_getI (jz := 6) hM dX5_back_52 fl_RX5_154 rfl rfl rfl (fun v8 h_v8 o_v8 t_v8 => ?_)
      have w_v8 := ((t_v8 (Or.inl (by first | exact trivial | exact tb7_ (by decide) | simp [Tb]))).trans ((etM_ne (by omega)).trans ((cpM_ne (by omega)).trans (rfl)))).symm
      clear t_v8
      subst w_v8
      have q_v8 : 0 ≤ (σ 7 (x + 4) 6) ∧ (σ 7 (x + 4) 6) ≤ 121 := o_v8.1 rfl
      refine y_iret hK rfl dX5_back_55 ?_
      have hM : bkM σ x = (etM (cpM σ (x + 4) (σ 7 (x + 4) 0)) (σ 7 (x + 4) 0)) := by
        exact if_pos (by omega)
      rw [hM] at k
      have hR : bkR σ x = (σ 7 (x + 4) 6) := by
        exact if_pos (by omega)
      rw [hR] at k
      exact k
    · refine r_iconst hC dX5_back_21 rfl ?_
      refine y_iret hK rfl dX5_back_22 ?_
      have hM : bkM σ x = σ := by
        exact if_neg (by omega)
      rw [hM] at k
      have hR : bkR σ x = (-1) := by
        exact if_neg (by omega)
      rw [hR] at k
      exact k
  · refine r_if_eq (tgt := 21) hC dX5_back_6 rfl (fun h9 => ?_) (fun h9 => by omega)
    refine r_iconst hC dX5_back_21 rfl ?_
    refine y_iret hK rfl dX5_back_22 ?_
    have hM : bkM σ x = σ := by
      exact if_neg (by omega)
    rw [hM] at k
    have hR : bkR σ x = (-1) := by
      exact if_neg (by omega)
    rw [hR] at k
    exact k
theorem x_isLinkedTo {e : Ev} {d : Nat} {P : Option Vl → Mm → Prop} {σ : Mm} {l : Int}   (k1 : ¬ (∀ j : Int, 0 ≤ j → j < 4 → σ 13 j 0 ≠ l) → P (some (vI 1)) σ) (k0 : (∀ j : Int, 0 ≤ j → j < 4 → σ 13 j 0 ≠ l) → P (some (vI 0)) σ) : WT e (d + 1) 107 [vR 2 0, vI l] σ P := by
  refine WT_in fun K hK => ?_
  have hK : StpY e cX5_isLinkedTo RX5 (some .boolean) (WT e (d + 0)) P K := hK
  have hM := hK.1
  have hC := hK.1.1
  show K 0 [some (vR 2 0), some (vI l), none] [] σ
  refine r_rngz hC (fun g0 => ?_)
  have r_l : -2147483648 ≤ l ∧ l ≤ 2147483647 := inR_le (g0 (vI l) (by simp))
  refine r_iconst hC dX5_isLinkedTo_0 rfl ?_
  refine r_istore_n hC dX5_isLinkedTo_1 rfl ?_
  have L2 : ∀ (n2 : Nat) (w1 : Int), 0 ≤ w1 ∧ w1 ≤ 4 → (∀ j : Int, 0 ≤ j → j < (w1) → σ 13 j 0 ≠ l) → 4 - w1 < (n2 : Int) → K 2 [some (vR 2 0), some (vI l), some (vI w1)] [] σ := by
    intro n2
    induction n2 with
    | zero => intro w1  f_w1 i0_2 hm  ; omega
    | succ n2 ih2 =>
      intro w1  f_w1 i0_2 hm2  
      refine r_iload_n hC dX5_isLinkedTo_2 rfl ?_
      refine r_iconst hC dX5_isLinkedTo_3 rfl ?_
      refine r_icmp_ge (tgt := 28) hC dX5_isLinkedTo_4 rfl (fun h2 => ?_) (fun h2 => ?_)
      · refine r_iconst hC dX5_isLinkedTo_28 rfl ?_
        refine y_zret hK rfl dX5_isLinkedTo_29 (by omega) ?_
        exact k0 (fun j h0 h1 => i0_2 j h0 (by omega))
      · refine r_aload_n hC dX5_isLinkedTo_7 rfl ?_
        refine z_getR hM dX5_isLinkedTo_8 fl_RX5_19 rfl rfl (vld_of (n := 1) rfl (by omega) (by omega)) ?_
        refine r_iload_n hC dX5_isLinkedTo_11 rfl ?_
        refine z_aald hM dX5_isLinkedTo_12 rfl (by decide) (by omega) (by omega) (vld_of (n := 4) rfl (by omega) (by omega)) ?_
        refine z_getI (jz := 0) hM dX5_isLinkedTo_13 fl_RX5_215 rfl rfl rfl (fun v3 h_v3 o_v3 t_v3 => ?_)
        have w_v3 := ((t_v3 (Or.inl (by first | exact trivial | exact tb7_ (by decide) | simp [Tb]))).trans (rfl)).symm
        clear t_v3
        subst w_v3
        refine r_iload_n hC dX5_isLinkedTo_16 rfl ?_
        refine r_icmp_ne (tgt := 22) hC dX5_isLinkedTo_17 rfl (fun h4 => ?_) (fun h4 => ?_)
        · refine r_iincE hC ((w1 + 1)) dX5_isLinkedTo_22 rfl rfl (by omega) (by unfold inR; omega) ?_
          refine r_goto (tgt := 2) hC dX5_isLinkedTo_25 rfl ?_
          exact ih2 ((w1 + 1))  (by omega) (by first | (intro j h0 h1; omega) | (intro j h0 h1; rcases (by omega : j < w1 ∨ j = w1) with h | h; exact i0_2 j h0 h; subst h; assumption)) (by omega)  
        · refine r_iconst hC dX5_isLinkedTo_20 rfl ?_
          refine y_zret hK rfl dX5_isLinkedTo_21 (by omega) ?_
          exact k1 (fun q => by have := q w1 (by omega) (by omega); omega)
  exact L2 6 (0)  (by omega) (by first | (intro j h0 h1; omega) | (intro j h0 h1; rcases (by omega : j < w1 ∨ j = w1) with h | h; exact i0_2 j h0 h; subst h; assumption)) (by omega)  
theorem x_Lbegin {e : Ev} {d : Nat} {P : Option Vl → Mm → Prop} {σ : Mm} {l o z w : Int} (b_l : 0 ≤ l ∧ l ≤ 3) (b_o : -1 ≤ o ∧ o ≤ 3)  (k : P none (lkM σ l o z w)) : WT e (d + 1) 39 [vR 13 l, vI o, vI z, vI w] σ P := by
  refine WT_in fun K hK => ?_
  have hK : StpY e cX3_begin RX3 (none) (WT e (d + 0)) P K := hK
  have hM := hK.1
  have hC := hK.1.1
  show K 0 [some (vR 13 l), some (vI o), some (vI z), some (vI w)] [] σ
  refine r_rngz hC (fun g0 => ?_)
  have r_z : -2147483648 ≤ z ∧ z ≤ 2147483647 := inR_le (g0 (vI z) (by simp))
  have r_w : -2147483648 ≤ w ∧ w ≤ 2147483647 := inR_le (g0 (vI w) (by simp))
  refine r_aload_n hC dX3_begin_0 rfl ?_
  refine r_iload_n hC dX3_begin_1 rfl ?_
  refine z_putIT (jz := 0) hM dX3_begin_2 fw_RX3_9 rfl rfl rfl ⟨Or.inr (by first | exact id | exact dl7_ (by decide) | simp [DL]), Or.inr (by first | exact id | exact df14_ (by decide) | simp [DF])⟩ (by first | trivial | (simp only [Okv]; omega) | (simp [Okv]; try omega)) ?_
  refine r_aload_n hC dX3_begin_5 rfl ?_
  refine r_iload_n hC dX3_begin_6 rfl ?_
  refine z_putIT (jz := 1) hM dX3_begin_7 fw_RX3_15 rfl rfl rfl ⟨Or.inr (by first | exact id | exact dl7_ (by decide) | simp [DL]), Or.inr (by first | exact id | exact df14_ (by decide) | simp [DF])⟩ (by first | trivial | (simp only [Okv]; omega) | (simp [Okv]; try omega)) ?_
  refine r_aload_n hC dX3_begin_10 rfl ?_
  refine r_iload_n hC dX3_begin_11 rfl ?_
  refine z_putIT (jz := 2) hM dX3_begin_12 fw_RX3_18 rfl rfl rfl ⟨Or.inr (by first | exact id | exact dl7_ (by decide) | simp [DL]), Or.inr (by first | exact id | exact df14_ (by decide) | simp [DF])⟩ (by first | trivial | (simp only [Okv]; omega) | (simp [Okv]; try omega)) ?_
  refine r_aload_n hC dX3_begin_15 rfl ?_
  refine r_iconst hC dX3_begin_16 rfl ?_
  refine z_putIT (jz := 3) hM dX3_begin_17 fw_RX3_21 rfl rfl rfl ⟨Or.inr (by first | exact id | exact dl7_ (by decide) | simp [DL]), Or.inr (by first | exact id | exact df14_ (by decide) | simp [DF])⟩ (by first | trivial | (simp only [Okv]; omega) | (simp [Okv]; try omega)) ?_
  refine y_vret hK rfl dX3_begin_20 ?_
  exact k
theorem x_link {ec : Bool} {d : Nat} {P : Option Vl → Mm → Prop} {σ : Mm} {l o z w : Int}   (k1 : lkC σ l o z w → P (some (vI 1)) (lkM σ l o z w)) (k0 : ¬ lkC σ l o z w → P (some (vI 0)) σ) : WT (true, false, ec) (d + 5) 104 [vR 2 0, vI l, vI o, vI z, vI w] σ P := by
  refine WT_in fun K hK => ?_
  have hK : StpY (true, false, ec) cX5_link RX5 (some .boolean) (WT (true, false, ec) (d + 4)) P K := hK
  have hM := hK.1
  have hC := hK.1.1
  show K 0 [some (vR 2 0), some (vI l), some (vI o), some (vI z), some (vI w), none] [] σ
  refine r_rngz hC (fun g0 => ?_)
  have r_l : -2147483648 ≤ l ∧ l ≤ 2147483647 := inR_le (g0 (vI l) (by simp))
  have r_o : -2147483648 ≤ o ∧ o ≤ 2147483647 := inR_le (g0 (vI o) (by simp))
  have r_z : -2147483648 ≤ z ∧ z ≤ 2147483647 := inR_le (g0 (vI z) (by simp))
  have r_w : -2147483648 ≤ w ∧ w ≤ 2147483647 := inR_le (g0 (vI w) (by simp))
  refine r_aload_n hC dX5_link_0 rfl ?_
  refine r_iload_n hC dX5_link_1 rfl ?_
  refine r_iload hC dX5_link_2 rfl ?_
  refine z_inv2 hM dX5_link_4 vl_RX5_248 rfl rfl rfl (Nat.le_of_ble_eq_true rfl) (Nat.le_of_ble_eq_true rfl) ?_
  refine x_laneWith (fun h1 => ?_) (fun h1 => ?_)
  · refine r_astore hC dX5_link_7 rfl ?_
    refine r_aload hC dX5_link_9 rfl ?_
    refine r_ifnullR hC dX5_link_11 ?_
    refine r_aload_n hC dX5_link_14 rfl ?_
    refine r_iload_n hC dX5_link_15 rfl ?_
    refine z_inv1 hM dX5_link_16 vl_RX5_123 rfl rfl rfl (Nat.le_of_ble_eq_true rfl) (Nat.le_of_ble_eq_true rfl) ?_
    refine x_openLane (fun h2 => ?_) (fun h2 => ?_)
    · -- h2
      refine r_ifnullR hC dX5_link_19 ?_
      refine r_iload_n hC dX5_link_22 rfl ?_
      refine r_iload_n hC dX5_link_23 rfl ?_
      refine r_icmp_eq (tgt := 34) hC dX5_link_24 rfl (fun h3 => ?_) (fun h3 => ?_)
      · refine r_iconst hC dX5_link_34 rfl ?_
        refine y_zret hK rfl dX5_link_35 (by omega) ?_
        exact k0 (fun q => by have q1 := q.1; have q2 := q.2.1; have q3 := q.2.2.1; have q4 := q.2.2.2.1; have q5 := q.2.2.2.2.1; have q6 := q.2.2.2.2.2; first | omega | exact hlk q6)
      · refine r_iload_n hC dX5_link_27 rfl ?_
        refine z_ins1 hM dX5_link_28 tl_RX5_285 rfl (Nat.le_of_ble_eq_true rfl) (Nat.le_of_ble_eq_true rfl) ?_
        refine s_isGap (fun h5 => ?_) (fun h5 => ?_)
        · refine r_if_ne (tgt := 36) hC dX5_link_31 rfl (fun h6 => ?_) (fun h6 => by omega)
          refine r_aload_n hC dX5_link_36 rfl ?_
          refine z_getR hM dX5_link_37 fl_RX5_19 rfl rfl (vld_of (n := 1) rfl (by omega) (by omega)) ?_
          refine r_iload_n hC dX5_link_40 rfl ?_
          refine z_aald hM dX5_link_41 rfl (by decide) (by omega) (by omega) (vld_of (n := 4) rfl (by omega) (by omega)) ?_
          refine z_getI (jz := 0) hM dX5_link_42 fl_RX5_215 rfl rfl rfl (fun v7 h_v7 o_v7 t_v7 => ?_)
          have w_v7 := ((t_v7 (Or.inl (by first | exact trivial | exact tb7_ (by decide) | simp [Tb]))).trans (rfl)).symm
          clear t_v7
          subst w_v7
          refine r_iconst hC dX5_link_45 rfl ?_
          refine r_icmp_ne (tgt := 57) hC dX5_link_46 rfl (fun h8 => ?_) (fun h8 => ?_)
          · refine r_iconst hC dX5_link_57 rfl ?_
            refine y_zret hK rfl dX5_link_58 (by omega) ?_
            exact k0 (fun q => by have q1 := q.1; have q2 := q.2.1; have q3 := q.2.2.1; have q4 := q.2.2.2.1; have q5 := q.2.2.2.2.1; have q6 := q.2.2.2.2.2; first | omega | exact hlk q6)
          · refine r_aload_n hC dX5_link_49 rfl ?_
            refine r_iload_n hC dX5_link_50 rfl ?_
            refine z_inv1 hM dX5_link_51 vl_RX5_335 rfl rfl rfl (Nat.le_of_ble_eq_true rfl) (Nat.le_of_ble_eq_true rfl) ?_
            refine x_isLinkedTo (fun hlk => ?_) (fun hlk => ?_)
            · refine r_if_eq (tgt := 59) hC dX5_link_54 rfl (fun h9 => by omega) (fun h9 => ?_)
              refine r_iconst hC dX5_link_57 rfl ?_
              refine y_zret hK rfl dX5_link_58 (by omega) ?_
              exact k0 (fun q => by have q1 := q.1; have q2 := q.2.1; have q3 := q.2.2.1; have q4 := q.2.2.2.1; have q5 := q.2.2.2.2.1; have q6 := q.2.2.2.2.2; first | omega | exact hlk q6)
            · refine r_if_eq (tgt := 59) hC dX5_link_54 rfl (fun h10 => ?_) (fun h10 => by omega)
              refine r_aload_n hC dX5_link_59 rfl ?_
              refine z_getR hM dX5_link_60 fl_RX5_19 rfl rfl (vld_of (n := 1) rfl (by omega) (by omega)) ?_
              refine r_iload_n hC dX5_link_63 rfl ?_
              refine z_aald hM dX5_link_64 rfl (by decide) (by omega) (by omega) (vld_of (n := 4) rfl (by omega) (by omega)) ?_
              refine r_iload_n hC dX5_link_65 rfl ?_
              refine r_iload_n hC dX5_link_66 rfl ?_
              refine r_iload hC dX5_link_67 rfl ?_
              refine z_inv3 hM dX5_link_69 vl_RX5_338 rfl rfl rfl (Nat.le_of_ble_eq_true rfl) (Nat.le_of_ble_eq_true rfl) ?_
              refine x_Lbegin (by omega) (by omega) ?_
              refine r_iconst hC dX5_link_72 rfl ?_
              refine y_zret hK rfl dX5_link_73 (by omega) ?_
              exact k1 ⟨by omega, by omega, by omega, by omega, by omega, hlk⟩
        · refine r_if_ne (tgt := 36) hC dX5_link_31 rfl (fun h11 => by omega) (fun h11 => ?_)
          refine r_iconst hC dX5_link_34 rfl ?_
          refine y_zret hK rfl dX5_link_35 (by omega) ?_
          exact k0 (fun q => by have q1 := q.1; have q2 := q.2.1; have q3 := q.2.2.1; have q4 := q.2.2.2.1; have q5 := q.2.2.2.2.1; have q6 := q.2.2.2.2.2; first | omega | exact hlk q6)
    · -- h2
      refine r_ifnullN (tgt := 34) hC dX5_link_19 rfl ?_
      refine r_iconst hC dX5_link_34 rfl ?_
      refine y_zret hK rfl dX5_link_35 (by omega) ?_
      exact k0 (fun q => by have q1 := q.1; have q2 := q.2.1; have q3 := q.2.2.1; have q4 := q.2.2.2.1; have q5 := q.2.2.2.2.1; have q6 := q.2.2.2.2.2; first | omega | exact hlk q6)
  · refine r_astoreN hC dX5_link_7 rfl ?_
    refine r_aloadN hC dX5_link_9 rfl ?_
    refine r_ifnullN (tgt := 34) hC dX5_link_11 rfl ?_
    refine r_iconst hC dX5_link_34 rfl ?_
    refine y_zret hK rfl dX5_link_35 (by omega) ?_
    exact k0 (fun q => by have q1 := q.1; have q2 := q.2.1; have q3 := q.2.2.1; have q4 := q.2.2.2.1; have q5 := q.2.2.2.2.1; have q6 := q.2.2.2.2.2; first | omega | exact hlk q6)
theorem x_unlink {ec : Bool} {d : Nat} {P : Option Vl → Mm → Prop} {σ : Mm} {l : Int}   (k : P (some (vI (ulR σ l))) (ulM σ l)) : WT (true, false, ec) (d + 3) 105 [vR 2 0, vI l] σ P := by
  refine WT_in fun K hK => ?_
  have hK : StpY (true, false, ec) cX5_unlink RX5 (some .boolean) (WT (true, false, ec) (d + 2)) P K := hK
  have hM := hK.1
  have hC := hK.1.1
  show K 0 [some (vR 2 0), some (vI l)] [] σ
  refine r_rngz hC (fun g0 => ?_)
  have r_l : -2147483648 ≤ l ∧ l ≤ 2147483647 := inR_le (g0 (vI l) (by simp))
  refine r_iload_n hC dX5_unlink_0 rfl ?_
  refine z_ins1 hM dX5_unlink_1 tl_RX5_102 rfl (Nat.le_of_ble_eq_true rfl) (Nat.le_of_ble_eq_true rfl) ?_
  refine s_isLane (fun h2 => ?_) (fun h2 => ?_)
  · refine r_if_eq (tgt := 20) hC dX5_unlink_4 rfl (fun h3 => by omega) (fun h3 => ?_)
    refine r_aload_n hC dX5_unlink_7 rfl ?_
    refine z_getR hM dX5_unlink_8 fl_RX5_19 rfl rfl (vld_of (n := 1) rfl (by omega) (by omega)) ?_
    refine r_iload_n hC dX5_unlink_11 rfl ?_
    refine z_aald hM dX5_unlink_12 rfl (by decide) (by omega) (by omega) (vld_of (n := 4) rfl (by omega) (by omega)) ?_
    refine z_getI (jz := 0) hM dX5_unlink_13 fl_RX5_215 rfl rfl rfl (fun v4 h_v4 o_v4 t_v4 => ?_)
    have w_v4 := ((t_v4 (Or.inl (by first | exact trivial | exact tb7_ (by decide) | simp [Tb]))).trans (rfl)).symm
    clear t_v4
    subst w_v4
    refine r_iconst hC dX5_unlink_16 rfl ?_
    refine r_icmp_ne (tgt := 22) hC dX5_unlink_17 rfl (fun h5 => ?_) (fun h5 => ?_)
    · refine r_aload_n hC dX5_unlink_22 rfl ?_
      refine z_getR hM dX5_unlink_23 fl_RX5_19 rfl rfl (vld_of (n := 1) rfl (by omega) (by omega)) ?_
      refine r_iload_n hC dX5_unlink_26 rfl ?_
      refine z_aald hM dX5_unlink_27 rfl (by decide) (by omega) (by omega) (vld_of (n := 4) rfl (by omega) (by omega)) ?_
      refine z_inv0 hM dX5_unlink_28 vl_RX5_340 rfl rfl rfl (Nat.le_of_ble_eq_true rfl) (Nat.le_of_ble_eq_true rfl) ?_
      refine x_lend (by omega) ?_
      refine r_iconst hC dX5_unlink_31 rfl ?_
      refine y_zret hK rfl dX5_unlink_32 (by omega) ?_
      have hM : ulM σ l = (mu σ 13 l 0 (-1)) := by
        exact if_pos (by omega)
      rw [hM] at k
      have hR : ulR σ l = 1 := by
        exact if_pos (by omega)
      rw [hR] at k
      exact k
    · refine r_iconst hC dX5_unlink_20 rfl ?_
      refine y_zret hK rfl dX5_unlink_21 (by omega) ?_
      have hM : ulM σ l = σ := by
        exact if_neg (by omega)
      rw [hM] at k
      have hR : ulR σ l = 0 := by
        exact if_neg (by omega)
      rw [hR] at k
      exact k
  · refine r_if_eq (tgt := 20) hC dX5_unlink_4 rfl (fun h6 => ?_) (fun h6 => by omega)
    refine r_iconst hC dX5_unlink_20 rfl ?_
    refine y_zret hK rfl dX5_unlink_21 (by omega) ?_
    have hM : ulM σ l = σ := by
      exact if_neg (by omega)
    rw [hM] at k
    have hR : ulR σ l = 0 := by
      exact if_neg (by omega)
    rw [hR] at k
    exact k
-- B: WATCHES told, TABLE and LETTERS
abbrev lwC (V : Mm) (l w : Int) : Prop := opV V l ∧ 0 ≤ w ∧ w < numF (V 7 l 2)
abbrev wtC (V : Mm) (v l w : Int) : Prop := lwC V l w ∧ 0 ≤ v ∧ v ≤ 7
def rc1 (V : Mm) (l w b : Int) : Int := if nmV V l w ≠ NO ∧ b ≤ nmV V l w then 1 else 0
def wtM (V : Mm) (v l w b : Int) : Mm := if wtC V v l w then mu (mu (mu (mu (mu (mu V 12 v 0 l) 12 v 1 w) 12 v 2 b) 12 v 3 (rc1 V l w b)) 12 v 4 0) 12 v 5 (-1) else V
def wtR (V : Mm) (v l w b : Int) : Int := if wtC V v l w then rc1 V l w b else -1
theorem rc1_01 (V : Mm) (l w b : Int) : rc1 V l w b = 0 ∨ rc1 V l w b = 1 := by
  unfold rc1
  split
  · exact Or.inr rfl
  · exact Or.inl rfl
theorem nmV_c {V W : Mm} {l w : Int} (h16 : W 16 = V 16) (h15 : W 15 = V 15) (h7 : W 7 = V 7) (h9 : W 9 = V 9) : nmV W l w = nmV V l w := by
  unfold nmV
  rw [h16, h15, h7, h9]
-- B: the class: watch, table, letter
theorem x_Wbegin {e : Ev} {d : Nat} {P : Option Vl → Mm → Prop} {σ : Mm} {v l w b z : Int} (b_v : 0 ≤ v ∧ v ≤ 7) (b_z : 0 ≤ z ∧ z ≤ 1)  (k : P none (mu (mu (mu (mu (mu (mu σ 12 v 0 l) 12 v 1 w) 12 v 2 b) 12 v 3 z) 12 v 4 0) 12 v 5 (-1))) : WT e (d + 1) 43 [vR 12 v, vI l, vI w, vI b, vI z] σ P := by
  refine WT_in fun K hK => ?_
  have hK : StpY e cX4_begin RX4 (none) (WT e (d + 0)) P K := hK
  have hM := hK.1
  have hC := hK.1.1
  show K 0 [some (vR 12 v), some (vI l), some (vI w), some (vI b), some (vI z)] [] σ
  refine r_rngz hC (fun g0 => ?_)
  have r_l : -2147483648 ≤ l ∧ l ≤ 2147483647 := inR_le (g0 (vI l) (by simp))
  have r_w : -2147483648 ≤ w ∧ w ≤ 2147483647 := inR_le (g0 (vI w) (by simp))
  have r_b : -2147483648 ≤ b ∧ b ≤ 2147483647 := inR_le (g0 (vI b) (by simp))
  refine r_aload_n hC dX4_begin_0 rfl ?_
  refine r_iload_n hC dX4_begin_1 rfl ?_
  refine z_putIT (jz := 0) hM dX4_begin_2 fw_RX4_9 rfl rfl rfl ⟨Or.inr (by simp [DL]), Or.inr (by simp [DF])⟩ (by first | trivial | (simp only [Okv]; omega) | (simp [Okv]; try omega)) ?_
  refine r_aload_n hC dX4_begin_5 rfl ?_
  refine r_iload_n hC dX4_begin_6 rfl ?_
  refine z_putIT (jz := 1) hM dX4_begin_7 fw_RX4_15 rfl rfl rfl ⟨Or.inr (by simp [DL]), Or.inr (by simp [DF])⟩ (by first | trivial | (simp only [Okv]; omega) | (simp [Okv]; try omega)) ?_
  refine r_aload_n hC dX4_begin_10 rfl ?_
  refine r_iload_n hC dX4_begin_11 rfl ?_
  refine z_putIT (jz := 2) hM dX4_begin_12 fw_RX4_18 rfl rfl rfl ⟨Or.inr (by simp [DL]), Or.inr (by simp [DF])⟩ (by first | trivial | (simp only [Okv]; omega) | (simp [Okv]; try omega)) ?_
  refine r_aload_n hC dX4_begin_15 rfl ?_
  refine r_iload hC dX4_begin_16 rfl ?_
  refine z_putZT (jz := 3) hM dX4_begin_18 fw_RX4_21 rfl rfl rfl (by omega) ⟨Or.inr (by simp [DL]), Or.inr (by simp [DF])⟩ (by first | trivial | (simp only [Okv]; omega) | (simp [Okv]; try omega)) ?_
  refine r_aload_n hC dX4_begin_21 rfl ?_
  refine r_iconst hC dX4_begin_22 rfl ?_
  refine z_putIT (jz := 4) hM dX4_begin_23 fw_RX4_25 rfl rfl rfl ⟨Or.inr (by simp [DL]), Or.inr (by simp [DF])⟩ (by first | trivial | (simp only [Okv]; omega) | (simp [Okv]; try omega)) ?_
  refine r_aload_n hC dX4_begin_26 rfl ?_
  refine r_iconst hC dX4_begin_27 rfl ?_
  refine z_putIT (jz := 5) hM dX4_begin_28 fw_RX4_28 rfl rfl rfl ⟨Or.inr (by simp [DL]), Or.inr (by simp [DF])⟩ (by first | trivial | (simp only [Okv]; omega) | (simp [Okv]; try omega)) ?_
  refine y_vret hK rfl dX4_begin_31 ?_
  exact k
theorem x_watch_S {eb : Bool} {d : Nat} {P : Option Vl → Mm → Prop} {σ : Mm} {v l w b : Int}  (hI : InF σ) (hhL : ∀ l : Int, 0 ≤ l → l ≤ 3 → 0 ≤ σ 7 l 6 ∧ σ 7 l 6 ≤ 120)  (k : ∀ ρ : Mm, (∀ (c : Nat) (x y : Int), ¬ Fo c → ρ c x y = wtM σ v l w b c x y) → InF ρ → P (some (vI (wtR σ v l w b))) ρ) : WT (true, true, eb) (d + 5) 98 [vR 2 0, vI v, vI l, vI w, vI b] σ P := by
  refine WT_in fun K hK => ?_
  have hK : StpY (true, true, eb) cX5_watch RX5 (some .int) (WT (true, true, eb) (d + 4)) P K := hK
  have hM := hK.1
  have hC := hK.1.1
  show K 0 [some (vR 2 0), some (vI v), some (vI l), some (vI w), some (vI b), none, none] [] σ
  refine z_ok hM (fun hok => ?_)
  refine r_rngz hC (fun g0 => ?_)
  have r_v : -2147483648 ≤ v ∧ v ≤ 2147483647 := inR_le (g0 (vI v) (by simp))
  have r_l : -2147483648 ≤ l ∧ l ≤ 2147483647 := inR_le (g0 (vI l) (by simp))
  have r_w : -2147483648 ≤ w ∧ w ≤ 2147483647 := inR_le (g0 (vI w) (by simp))
  have r_b : -2147483648 ≤ b ∧ b ≤ 2147483647 := inR_le (g0 (vI b) (by simp))
  have h6L := hhL l
  refine r_aload_n hC dX5_watch_0 rfl ?_
  refine r_iload_n hC dX5_watch_1 rfl ?_
  refine r_iload_n hC dX5_watch_2 rfl ?_
  refine z_inv2 hM dX5_watch_3 vl_RX5_248 rfl rfl rfl (Nat.le_of_ble_eq_true rfl) (Nat.le_of_ble_eq_true rfl) ?_
  refine x_laneWith (fun h1 => ?_) (fun h1 => ?_)
  · refine r_astore hC dX5_watch_6 rfl ?_
    refine r_aload hC dX5_watch_8 rfl ?_
    refine r_ifnullR hC dX5_watch_10 ?_
    refine r_iload_n hC dX5_watch_13 rfl ?_
    refine r_iconst hC dX5_watch_14 rfl ?_
    refine r_bipush hC dX5_watch_15 rfl ?_
    refine z_ins3 hM dX5_watch_17 tl_RX5_59 rfl (Nat.le_of_ble_eq_true rfl) (Nat.le_of_ble_eq_true rfl) ?_
    refine s_within (fun h3 => ?_) (fun h3 => ?_)
    · refine r_if_ne (tgt := 25) hC dX5_watch_20 rfl (fun h4 => ?_) (fun h4 => by omega)
      refine r_aload_n hC dX5_watch_25 rfl ?_
      refine r_aload hC dX5_watch_26 rfl ?_
      refine r_iconst hC dX5_watch_28 rfl ?_
      refine r_aload hC dX5_watch_29 rfl ?_
      refine z_getI (jz := 6) hM dX5_watch_31 fl_RX5_154 rfl rfl rfl (fun v5 h_v5 o_v5 t_v5 => ?_)
      have w_v5 := ((t_v5 (Or.inl (by simp [Tb]))).trans (rfl)).symm
      subst w_v5
      have q_v5 : 0 ≤ (σ 7 l 6) ∧ (σ 7 l 6) ≤ 121 := o_v5.1 rfl
      refine z_inv3 hM dX5_watch_34 vl_RX5_259 rfl rfl rfl (Nat.le_of_ble_eq_true rfl) (Nat.le_of_ble_eq_true rfl) ?_
      refine x_foldPart (by omega) (by omega) (by omega) (fun ρ6 g_ρ6 r_ρ6 => ?_)
      have t_ρ6 : ∀ (c : Nat) (p q : Int), ¬ Fo c → ρ6 c p q = σ c p q := fun c p q hc => (g_ρ6 c p q (by omega))
      rw [fun0, show (((σ 7 l 6)) - 0).toNat = (σ 7 l 6).toNat from by omega] at r_ρ6
      refine r_aload_n hC dX5_watch_37 rfl ?_
      refine z_getR hM dX5_watch_38 fl_RX5_40 rfl rfl (vld_of (n := 1) rfl (by omega) (by omega)) ?_
      refine r_iload_n hC dX5_watch_41 rfl ?_
      refine r_iload hC dX5_watch_42 rfl ?_
      refine z_inv2 hM dX5_watch_44 vl_RX5_256 rfl rfl rfl (Nat.le_of_ble_eq_true rfl) (Nat.le_of_ble_eq_true rfl) ?_
      refine x_reaches (o := σ 7 l 2) (u := σ 9 l) (n := (σ 7 l 6).toNat) (by have := hok 7 l 2 (Or.inl (by simp [Tb])); exact this.2.2 rfl) (by omega) r_ρ6 (fun h7 => ?_) (fun h7 => ?_)
      · have hz : rc1 σ l w b = 1 := by
          unfold rc1 nmV
          rw [show ρ6 16 0 = σ 16 0 from funext fun y => t_ρ6 16 0 y (by omega), show ρ6 15 0 = σ 15 0 from funext fun y => t_ρ6 15 0 y (by omega)] at h7
          exact if_pos h7
        refine r_istore hC dX5_watch_47 rfl ?_
        refine r_aload_n hC dX5_watch_49 rfl ?_
        refine z_getR hM dX5_watch_50 fl_RX5_32 rfl rfl (vld_of (n := 1) rfl (by omega) (by omega)) ?_
        refine r_iload_n hC dX5_watch_53 rfl ?_
        refine z_aald hM dX5_watch_54 rfl (by decide) (by omega) (by omega) (vld_of (n := 8) rfl (by omega) (by omega)) ?_
        refine r_iload_n hC dX5_watch_55 rfl ?_
        refine r_iload_n hC dX5_watch_56 rfl ?_
        refine r_iload hC dX5_watch_57 rfl ?_
        refine r_iload hC dX5_watch_59 rfl ?_
        refine z_inv4 hM dX5_watch_61 vl_RX5_309 rfl rfl rfl (Nat.le_of_ble_eq_true rfl) (Nat.le_of_ble_eq_true rfl) ?_
        refine x_Wbegin (by omega) (by omega) ?_
        refine r_iload hC dX5_watch_64 rfl ?_
        refine r_if_eq (tgt := 73) hC dX5_watch_66 rfl (fun h8 => by omega) (fun h8 => ?_)
        refine r_iconst hC dX5_watch_69 rfl ?_
        refine r_goto (tgt := 74) hC dX5_watch_70 rfl ?_
        refine y_iret hK rfl dX5_watch_74 ?_
        have hM : wtM σ v l w b = mu (mu (mu (mu (mu (mu σ 12 v 0 l) 12 v 1 w) 12 v 2 b) 12 v 3 (rc1 σ l w b)) 12 v 4 0) 12 v 5 (-1) := if_pos (by omega)
        have hR : wtR σ v l w b = rc1 σ l w b := if_pos (by omega)
        rw [hM, hR, hz] at k
        refine k _ (fun c p q hc => ?_) (InF.to (FRc.inF r_ρ6 (fun j h0 h1 => by rw [t_ρ6 15 0 j (by omega)]; exact hok 15 0 j (Or.inl trivial))) (fun c p q hD => ?_))
        · unfold mu
          rw [t_ρ6 c p q hc]
        · have hk := DF_k hD
          rw [mu_ne (by omega), mu_ne (by omega), mu_ne (by omega), mu_ne (by omega), mu_ne (by omega), mu_ne (by omega)]
      · have hz : rc1 σ l w b = 0 := by
          unfold rc1 nmV
          rw [show ρ6 16 0 = σ 16 0 from funext fun y => t_ρ6 16 0 y (by omega), show ρ6 15 0 = σ 15 0 from funext fun y => t_ρ6 15 0 y (by omega)] at h7
          exact if_neg h7
        refine r_istore hC dX5_watch_47 rfl ?_
        refine r_aload_n hC dX5_watch_49 rfl ?_
        refine z_getR hM dX5_watch_50 fl_RX5_32 rfl rfl (vld_of (n := 1) rfl (by omega) (by omega)) ?_
        refine r_iload_n hC dX5_watch_53 rfl ?_
        refine z_aald hM dX5_watch_54 rfl (by decide) (by omega) (by omega) (vld_of (n := 8) rfl (by omega) (by omega)) ?_
        refine r_iload_n hC dX5_watch_55 rfl ?_
        refine r_iload_n hC dX5_watch_56 rfl ?_
        refine r_iload hC dX5_watch_57 rfl ?_
        refine r_iload hC dX5_watch_59 rfl ?_
        refine z_inv4 hM dX5_watch_61 vl_RX5_309 rfl rfl rfl (Nat.le_of_ble_eq_true rfl) (Nat.le_of_ble_eq_true rfl) ?_
        refine x_Wbegin (by omega) (by omega) ?_
        refine r_iload hC dX5_watch_64 rfl ?_
        refine r_if_eq (tgt := 73) hC dX5_watch_66 rfl (fun h9 => ?_) (fun h9 => by omega)
        refine r_iconst hC dX5_watch_73 rfl ?_
        refine y_iret hK rfl dX5_watch_74 ?_
        have hM : wtM σ v l w b = mu (mu (mu (mu (mu (mu σ 12 v 0 l) 12 v 1 w) 12 v 2 b) 12 v 3 (rc1 σ l w b)) 12 v 4 0) 12 v 5 (-1) := if_pos (by omega)
        have hR : wtR σ v l w b = rc1 σ l w b := if_pos (by omega)
        rw [hM, hR, hz] at k
        refine k _ (fun c p q hc => ?_) (InF.to (FRc.inF r_ρ6 (fun j h0 h1 => by rw [t_ρ6 15 0 j (by omega)]; exact hok 15 0 j (Or.inl trivial))) (fun c p q hD => ?_))
        · unfold mu
          rw [t_ρ6 c p q hc]
        · have hk := DF_k hD
          rw [mu_ne (by omega), mu_ne (by omega), mu_ne (by omega), mu_ne (by omega), mu_ne (by omega), mu_ne (by omega)]
    · refine r_if_ne (tgt := 25) hC dX5_watch_20 rfl (fun h10 => by omega) (fun h10 => ?_)
      refine r_iconst hC dX5_watch_23 rfl ?_
      refine y_iret hK rfl dX5_watch_24 ?_
      have hM : wtM σ v l w b = σ := if_neg (by omega)
      have hR : wtR σ v l w b = -1 := if_neg (by omega)
      rw [hM, hR] at k
      exact k σ (fun _ _ _ _ => rfl) hI
  · refine r_astoreN hC dX5_watch_6 rfl ?_
    refine r_aloadN hC dX5_watch_8 rfl ?_
    refine r_ifnullN (tgt := 23) hC dX5_watch_10 rfl ?_
    refine r_iconst hC dX5_watch_23 rfl ?_
    refine y_iret hK rfl dX5_watch_24 ?_
    have hM : wtM σ v l w b = σ := if_neg (by omega)
    have hR : wtR σ v l w b = -1 := if_neg (by omega)
    rw [hM, hR] at k
    exact k σ (fun _ _ _ _ => rfl) hI
theorem wtC_c {V W : Mm} {v l w : Int} (h : W 7 = V 7) : wtC W v l w ↔ wtC V v l w := by
  unfold wtC lwC opV
  rw [h]
theorem rc1_c {V W : Mm} {l w b : Int} (h : ∀ c : Nat, ¬ Fo c → W c = V c) : rc1 W l w b = rc1 V l w b := by
  unfold rc1
  rw [nmV_c (h 16 (by decide)) (h 15 (by decide)) (h 7 (by decide)) (h 9 (by decide))]
theorem wtM_c {V W : Mm} {v l w b : Int} (h : ∀ c : Nat, ¬ Fo c → W c = V c) {c : Nat} (hc : ¬ Fo c) (x y : Int) : wtM W v l w b c x y = wtM V v l w b c x y := by
  unfold wtM
  have hw := wtC_c (v := v) (l := l) (w := w) (h 7 (by decide))
  by_cases q : wtC V v l w
  · rw [if_pos q, if_pos (hw.mpr q), rc1_c h]
    unfold mu
    rw [h c hc]
  · rw [if_neg q, if_neg (fun z => q (hw.mp z)), h c hc]
theorem wtR_c {V W : Mm} {v l w b : Int} (h : ∀ c : Nat, ¬ Fo c → W c = V c) : wtR W v l w b = wtR V v l w b := by
  unfold wtR
  have hw := wtC_c (v := v) (l := l) (w := w) (h 7 (by decide))
  by_cases q : wtC V v l w
  · rw [if_pos q, if_pos (hw.mpr q), rc1_c h]
  · rw [if_neg q, if_neg (fun z => q (hw.mp z))]
theorem x_watch {eb : Bool} {d : Nat} {P : Option Vl → Mm → Prop} {σ : Mm} {v l w b : Int} (hhL : ∀ l : Int, 0 ≤ l → l ≤ 3 → 0 ≤ σ 7 l 6 ∧ σ 7 l 6 ≤ 120) (k : P (some (vI (wtR σ v l w b))) (wtM σ v l w b)) : WT (true, false, eb) (d + 5) 98 [vR 2 0, vI v, vI l, vI w, vI b] σ P := WT_fold fun ρ e hI => x_watch_S hI (by rw [e 7 (by decide)]; exact hhL) (fun ρ2 g hI2 => ⟨hI2, wtM σ v l w b, by rw [wtR_c e]; exact k, fun c x y hc => (g c x y hc).trans (wtM_c e hc x y)⟩)
theorem x_isUsed {e : Ev} {d : Nat} {P : Option Vl → Mm → Prop} {σ : Mm} {o : Int}   (k1 : usV σ o → P (some (vI 1)) σ) (k0 : ¬ usV σ o → P (some (vI 0)) σ) : WT e (d + 1) 57 [vR 2 0, vI o] σ P := by
  refine WT_in fun K hK => ?_
  have hK : StpY e cX5_isUsed RX5 (some .boolean) (WT e (d + 0)) P K := hK
  have hM := hK.1
  have hC := hK.1.1
  show K 0 [some (vR 2 0), some (vI o), none] [] σ
  refine r_rngz hC (fun g0 => ?_)
  have r_o : -2147483648 ≤ o ∧ o ≤ 2147483647 := inR_le (g0 (vI o) (by simp))
  refine r_iconst hC dX5_isUsed_0 rfl ?_
  refine r_istore_n hC dX5_isUsed_1 rfl ?_
  have L2 : ∀ (n2 : Nat) (w1 : Int), 0 ≤ w1 ∧ w1 ≤ 4 → (∀ j : Int, 0 ≤ j → j < (w1) → ¬ (σ 7 j 1 = 1 ∧ σ 7 j 2 = o)) → 4 - w1 < (n2 : Int) → K 2 [some (vR 2 0), some (vI o), some (vI w1)] [] σ := by
    intro n2
    induction n2 with
    | zero => intro w1  f_w1 i0_2 hm  ; omega
    | succ n2 ih2 =>
      intro w1  f_w1 i0_2 hm2  
      refine r_iload_n hC dX5_isUsed_2 rfl ?_
      refine r_iconst hC dX5_isUsed_3 rfl ?_
      refine r_icmp_ge (tgt := 40) hC dX5_isUsed_4 rfl (fun h2 => ?_) (fun h2 => ?_)
      · refine r_iconst hC dX5_isUsed_40 rfl ?_
        refine r_istore_n hC dX5_isUsed_41 rfl ?_
        have L42 : ∀ (n42 : Nat) (w3 : Int), 0 ≤ w3 ∧ w3 ≤ 3 → (∀ j : Int, 0 ≤ j → j < (w3) + 4 → ¬ (σ 7 j 1 = 1 ∧ σ 7 j 2 = o)) → 3 - w3 < (n42 : Int) → K 42 [some (vR 2 0), some (vI o), some (vI w3)] [] σ := by
          intro n42
          induction n42 with
          | zero => intro w3  f_w3 i0_42 hm  ; omega
          | succ n42 ih42 =>
            intro w3  f_w3 i0_42 hm42  
            refine r_iload_n hC dX5_isUsed_42 rfl ?_
            refine r_iconst hC dX5_isUsed_43 rfl ?_
            refine r_icmp_ge (tgt := 80) hC dX5_isUsed_44 rfl (fun h4 => ?_) (fun h4 => ?_)
            · refine r_iconst hC dX5_isUsed_80 rfl ?_
              refine y_zret hK rfl dX5_isUsed_81 (by omega) ?_
              exact k0 (by rintro ⟨j, j0, j1, j2⟩; exact i0_42 j j0.1 (by omega) ⟨j1, j2⟩)
            · refine r_aload_n hC dX5_isUsed_47 rfl ?_
              refine z_getR hM dX5_isUsed_48 fl_RX5_27 rfl rfl (vld_of (n := 1) rfl (by omega) (by omega)) ?_
              refine r_iload_n hC dX5_isUsed_51 rfl ?_
              refine z_aald hM dX5_isUsed_52 rfl (by decide) (by omega) (by omega) (vld_of (n := 7) rfl (by omega) (by omega)) ?_
              rw [show rfa 4 w3 = (7, (w3 + 4)) from by simp [rfa]; try omega]
              refine z_getI (jz := 1) hM dX5_isUsed_53 fl_RX5_94 rfl rfl rfl (fun v5 h_v5 o_v5 t_v5 => ?_)
              have w_v5 := ((t_v5 (Or.inl (by simp [Tb]))).trans (rfl)).symm
              subst w_v5
              have q_v5 : 0 ≤ (σ 7 (w3 + 4) 1) ∧ (σ 7 (w3 + 4) 1) ≤ 1 := by have := o_v5.2.1 rfl; omega
              refine r_if_eq (tgt := 74) hC dX5_isUsed_56 rfl (fun h6 => ?_) (fun h6 => ?_)
              · refine r_iincE hC ((w3 + 1)) dX5_isUsed_74 rfl rfl (by omega) (by unfold inR; omega) ?_
                refine r_goto (tgt := 42) hC dX5_isUsed_77 rfl ?_
                exact ih42 ((w3 + 1))  (by omega) (by intro j h0 h1; first | exact i0_2 j h0 (by omega) | (rcases (by omega : j < w3 + 4 ∨ j = w3 + 4) with h | h; exact i0_42 j h0 h; subst h; omega)) (by omega)  
              · refine r_aload_n hC dX5_isUsed_59 rfl ?_
                refine z_getR hM dX5_isUsed_60 fl_RX5_27 rfl rfl (vld_of (n := 1) rfl (by omega) (by omega)) ?_
                refine r_iload_n hC dX5_isUsed_63 rfl ?_
                refine z_aald hM dX5_isUsed_64 rfl (by decide) (by omega) (by omega) (vld_of (n := 7) rfl (by omega) (by omega)) ?_
                rw [show rfa 4 w3 = (7, (w3 + 4)) from by simp [rfa]; try omega]
                refine z_getI (jz := 2) hM dX5_isUsed_65 fl_RX5_98 rfl rfl rfl (fun v7 h_v7 o_v7 t_v7 => ?_)
                have w_v7 := ((t_v7 (Or.inl (by simp [Tb]))).trans (rfl)).symm
                subst w_v7
                have q_v7 : 0 ≤ (σ 7 (w3 + 4) 2) ∧ (σ 7 (w3 + 4) 2) ≤ 9 := o_v7.2.2 rfl
                refine r_iload_n hC dX5_isUsed_68 rfl ?_
                refine r_icmp_ne (tgt := 74) hC dX5_isUsed_69 rfl (fun h8 => ?_) (fun h8 => ?_)
                · refine r_iincE hC ((w3 + 1)) dX5_isUsed_74 rfl rfl (by omega) (by unfold inR; omega) ?_
                  refine r_goto (tgt := 42) hC dX5_isUsed_77 rfl ?_
                  exact ih42 ((w3 + 1))  (by omega) (by intro j h0 h1; first | exact i0_2 j h0 (by omega) | (rcases (by omega : j < w3 + 4 ∨ j = w3 + 4) with h | h; exact i0_42 j h0 h; subst h; omega)) (by omega)  
                · refine r_iconst hC dX5_isUsed_72 rfl ?_
                  refine y_zret hK rfl dX5_isUsed_73 (by omega) ?_
                  exact k1 ⟨w3 + 4, by omega, by omega, by omega⟩
        exact L42 5 (0)  (by omega) (by intro j h0 h1; first | exact i0_2 j h0 (by omega) | (rcases (by omega : j < w3 + 4 ∨ j = w3 + 4) with h | h; exact i0_42 j h0 h; subst h; omega)) (by omega)  
      · refine r_aload_n hC dX5_isUsed_7 rfl ?_
        refine z_getR hM dX5_isUsed_8 fl_RX5_13 rfl rfl (vld_of (n := 1) rfl (by omega) (by omega)) ?_
        refine r_iload_n hC dX5_isUsed_11 rfl ?_
        refine z_aald hM dX5_isUsed_12 rfl (by decide) (by omega) (by omega) (vld_of (n := 7) rfl (by omega) (by omega)) ?_
        refine z_getI (jz := 1) hM dX5_isUsed_13 fl_RX5_94 rfl rfl rfl (fun v9 h_v9 o_v9 t_v9 => ?_)
        have w_v9 := ((t_v9 (Or.inl (by simp [Tb]))).trans (rfl)).symm
        subst w_v9
        have q_v9 : 0 ≤ (σ 7 w1 1) ∧ (σ 7 w1 1) ≤ 1 := by have := o_v9.2.1 rfl; omega
        refine r_if_eq (tgt := 34) hC dX5_isUsed_16 rfl (fun h10 => ?_) (fun h10 => ?_)
        · refine r_iincE hC ((w1 + 1)) dX5_isUsed_34 rfl rfl (by omega) (by unfold inR; omega) ?_
          refine r_goto (tgt := 2) hC dX5_isUsed_37 rfl ?_
          exact ih2 ((w1 + 1))  (by omega) (by intro j h0 h1; first | omega | (rcases (by omega : j < w1 ∨ j = w1) with h | h; exact i0_2 j h0 h; subst h; omega)) (by omega)  
        · refine r_aload_n hC dX5_isUsed_19 rfl ?_
          refine z_getR hM dX5_isUsed_20 fl_RX5_13 rfl rfl (vld_of (n := 1) rfl (by omega) (by omega)) ?_
          refine r_iload_n hC dX5_isUsed_23 rfl ?_
          refine z_aald hM dX5_isUsed_24 rfl (by decide) (by omega) (by omega) (vld_of (n := 7) rfl (by omega) (by omega)) ?_
          refine z_getI (jz := 2) hM dX5_isUsed_25 fl_RX5_98 rfl rfl rfl (fun v11 h_v11 o_v11 t_v11 => ?_)
          have w_v11 := ((t_v11 (Or.inl (by simp [Tb]))).trans (rfl)).symm
          subst w_v11
          have q_v11 : 0 ≤ (σ 7 w1 2) ∧ (σ 7 w1 2) ≤ 9 := o_v11.2.2 rfl
          refine r_iload_n hC dX5_isUsed_28 rfl ?_
          refine r_icmp_ne (tgt := 34) hC dX5_isUsed_29 rfl (fun h12 => ?_) (fun h12 => ?_)
          · refine r_iincE hC ((w1 + 1)) dX5_isUsed_34 rfl rfl (by omega) (by unfold inR; omega) ?_
            refine r_goto (tgt := 2) hC dX5_isUsed_37 rfl ?_
            exact ih2 ((w1 + 1))  (by omega) (by intro j h0 h1; first | omega | (rcases (by omega : j < w1 ∨ j = w1) with h | h; exact i0_2 j h0 h; subst h; omega)) (by omega)  
          · refine r_iconst hC dX5_isUsed_32 rfl ?_
            refine y_zret hK rfl dX5_isUsed_33 (by omega) ?_
            exact k1 ⟨w1, by omega, by omega, by omega⟩
  exact L2 6 (0)  (by omega) (by intro j h0 h1; first | omega | (rcases (by omega : j < w1 ∨ j = w1) with h | h; exact i0_2 j h0 h; subst h; omega)) (by omega)  
theorem x_table {ec : Bool} {d : Nat} {P : Option Vl → Mm → Prop} {σ : Mm} {x y : Int}   (k1 : ((0 ≤ x ∧ x ≤ 15) ∧ 0 ≤ y ∧ y ≤ 3) ∧ ¬ usV σ 9 → P (some (vI 1)) (mu σ 15 0 x y)) (k0 : ¬ (((0 ≤ x ∧ x ≤ 15) ∧ 0 ≤ y ∧ y ≤ 3) ∧ ¬ usV σ 9) → P (some (vI 0)) σ) : WT (true, false, ec) (d + 2) 47 [vR 2 0, vI x, vI y] σ P := by
  refine WT_in fun K hK => ?_
  have hK : StpY (true, false, ec) cX5_table RX5 (some .boolean) (WT (true, false, ec) (d + 1)) P K := hK
  have hM := hK.1
  have hC := hK.1.1
  show K 0 [some (vR 2 0), some (vI x), some (vI y)] [] σ
  refine r_rngz hC (fun g0 => ?_)
  have r_x : -2147483648 ≤ x ∧ x ≤ 2147483647 := inR_le (g0 (vI x) (by simp))
  have r_y : -2147483648 ≤ y ∧ y ≤ 2147483647 := inR_le (g0 (vI y) (by simp))
  refine r_iload_n hC dX5_table_0 rfl ?_
  refine r_iconst hC dX5_table_1 rfl ?_
  refine r_bipush hC dX5_table_2 rfl ?_
  refine z_ins3 hM dX5_table_4 tl_RX5_59 rfl (Nat.le_of_ble_eq_true rfl) (Nat.le_of_ble_eq_true rfl) ?_
  refine s_within (fun h2 => ?_) (fun h2 => ?_)
  · refine r_if_eq (tgt := 28) hC dX5_table_7 rfl (fun h3 => by omega) (fun h3 => ?_)
    refine r_iload_n hC dX5_table_10 rfl ?_
    refine r_iconst hC dX5_table_11 rfl ?_
    refine r_iconst hC dX5_table_12 rfl ?_
    refine z_ins3 hM dX5_table_13 tl_RX5_59 rfl (Nat.le_of_ble_eq_true rfl) (Nat.le_of_ble_eq_true rfl) ?_
    refine s_within (fun h5 => ?_) (fun h5 => ?_)
    · refine r_if_eq (tgt := 28) hC dX5_table_16 rfl (fun h6 => by omega) (fun h6 => ?_)
      refine r_aload_n hC dX5_table_19 rfl ?_
      refine r_bipush hC dX5_table_20 rfl ?_
      refine z_inv1 hM dX5_table_22 vl_RX5_63 rfl rfl rfl (Nat.le_of_ble_eq_true rfl) (Nat.le_of_ble_eq_true rfl) ?_
      refine x_isUsed (fun hus => ?_) (fun hus => ?_)
      · refine r_if_eq (tgt := 30) hC dX5_table_25 rfl (fun h7 => by omega) (fun h7 => ?_)
        refine r_iconst hC dX5_table_28 rfl ?_
        refine y_zret hK rfl dX5_table_29 (by omega) ?_
        exact k0 (fun q => by have q1 := q.1; first | omega | exact q.2 hus)
      · refine r_if_eq (tgt := 30) hC dX5_table_25 rfl (fun h8 => ?_) (fun h8 => by omega)
        refine r_aload_n hC dX5_table_30 rfl ?_
        refine z_getR hM dX5_table_31 fl_RX5_40 rfl rfl (vld_of (n := 1) rfl (by omega) (by omega)) ?_
        refine z_getR hM dX5_table_34 fl_RX5_67 rfl rfl (vld_of (n := 1) rfl (by omega) (by omega)) ?_
        refine r_iload_n hC dX5_table_37 rfl ?_
        refine r_iload_n hC dX5_table_38 rfl ?_
        refine z_iastT hM dX5_table_39 rfl (by omega) (by omega) ⟨Or.inr (by simp [DL]), Or.inr (by simp [DF])⟩ (by first | trivial | (simp only [Okv]; omega) | (simp [Okv]; try omega)) ?_
        refine r_iconst hC dX5_table_40 rfl ?_
        refine y_zret hK rfl dX5_table_41 (by omega) ?_
        exact k1 ⟨by omega, hus⟩
    · refine r_if_eq (tgt := 28) hC dX5_table_16 rfl (fun h9 => ?_) (fun h9 => by omega)
      refine r_iconst hC dX5_table_28 rfl ?_
      refine y_zret hK rfl dX5_table_29 (by omega) ?_
      exact k0 (fun q => by have q1 := q.1; first | omega | exact q.2 hus)
  · refine r_if_eq (tgt := 28) hC dX5_table_7 rfl (fun h10 => ?_) (fun h10 => by omega)
    refine r_iconst hC dX5_table_28 rfl ?_
    refine y_zret hK rfl dX5_table_29 (by omega) ?_
    exact k0 (fun q => by have q1 := q.1; first | omega | exact q.2 hus)
theorem x_letter {ec : Bool} {d : Nat} {P : Option Vl → Mm → Prop} {σ : Mm} {x y : Int}   (k1 : ((0 ≤ x ∧ x ≤ 7) ∧ 0 ≤ y ∧ y ≤ 255) ∧ ¬ usV σ 4 → P (some (vI 1)) (mu σ 16 0 x y)) (k0 : ¬ (((0 ≤ x ∧ x ≤ 7) ∧ 0 ≤ y ∧ y ≤ 255) ∧ ¬ usV σ 4) → P (some (vI 0)) σ) : WT (true, false, ec) (d + 2) 48 [vR 2 0, vI x, vI y] σ P := by
  refine WT_in fun K hK => ?_
  have hK : StpY (true, false, ec) cX5_letter RX5 (some .boolean) (WT (true, false, ec) (d + 1)) P K := hK
  have hM := hK.1
  have hC := hK.1.1
  show K 0 [some (vR 2 0), some (vI x), some (vI y)] [] σ
  refine r_rngz hC (fun g0 => ?_)
  have r_x : -2147483648 ≤ x ∧ x ≤ 2147483647 := inR_le (g0 (vI x) (by simp))
  have r_y : -2147483648 ≤ y ∧ y ≤ 2147483647 := inR_le (g0 (vI y) (by simp))
  refine r_iload_n hC dX5_letter_0 rfl ?_
  refine r_iconst hC dX5_letter_1 rfl ?_
  refine r_bipush hC dX5_letter_2 rfl ?_
  refine z_ins3 hM dX5_letter_4 tl_RX5_59 rfl (Nat.le_of_ble_eq_true rfl) (Nat.le_of_ble_eq_true rfl) ?_
  refine s_within (fun h2 => ?_) (fun h2 => ?_)
  · refine r_if_eq (tgt := 29) hC dX5_letter_7 rfl (fun h3 => by omega) (fun h3 => ?_)
    refine r_iload_n hC dX5_letter_10 rfl ?_
    refine r_iconst hC dX5_letter_11 rfl ?_
    refine r_sipush hC dX5_letter_12 rfl ?_
    refine z_ins3 hM dX5_letter_15 tl_RX5_59 rfl (Nat.le_of_ble_eq_true rfl) (Nat.le_of_ble_eq_true rfl) ?_
    refine s_within (fun h5 => ?_) (fun h5 => ?_)
    · refine r_if_eq (tgt := 29) hC dX5_letter_18 rfl (fun h6 => by omega) (fun h6 => ?_)
      refine r_aload_n hC dX5_letter_21 rfl ?_
      refine r_iconst hC dX5_letter_22 rfl ?_
      refine z_inv1 hM dX5_letter_23 vl_RX5_63 rfl rfl rfl (Nat.le_of_ble_eq_true rfl) (Nat.le_of_ble_eq_true rfl) ?_
      refine x_isUsed (fun hus => ?_) (fun hus => ?_)
      · refine r_if_eq (tgt := 31) hC dX5_letter_26 rfl (fun h7 => by omega) (fun h7 => ?_)
        refine r_iconst hC dX5_letter_29 rfl ?_
        refine y_zret hK rfl dX5_letter_30 (by omega) ?_
        exact k0 (fun q => by have q1 := q.1; first | omega | exact q.2 hus)
      · refine r_if_eq (tgt := 31) hC dX5_letter_26 rfl (fun h8 => ?_) (fun h8 => by omega)
        refine r_aload_n hC dX5_letter_31 rfl ?_
        refine z_getR hM dX5_letter_32 fl_RX5_40 rfl rfl (vld_of (n := 1) rfl (by omega) (by omega)) ?_
        refine z_getR hM dX5_letter_35 fl_RX5_71 rfl rfl (vld_of (n := 1) rfl (by omega) (by omega)) ?_
        refine r_iload_n hC dX5_letter_38 rfl ?_
        refine r_iload_n hC dX5_letter_39 rfl ?_
        refine z_iastT hM dX5_letter_40 rfl (by omega) (by omega) ⟨Or.inr (by simp [DL]), Or.inr (by simp [DF])⟩ (by first | trivial | (simp only [Okv]; omega) | (simp [Okv]; try omega)) ?_
        refine r_iconst hC dX5_letter_41 rfl ?_
        refine y_zret hK rfl dX5_letter_42 (by omega) ?_
        exact k1 ⟨by omega, hus⟩
    · refine r_if_eq (tgt := 29) hC dX5_letter_18 rfl (fun h9 => ?_) (fun h9 => by omega)
      refine r_iconst hC dX5_letter_29 rfl ?_
      refine y_zret hK rfl dX5_letter_30 (by omega) ?_
      exact k0 (fun q => by have q1 := q.1; first | omega | exact q.2 hus)
  · refine r_if_eq (tgt := 29) hC dX5_letter_7 rfl (fun h10 => ?_) (fun h10 => by omega)
    refine r_iconst hC dX5_letter_29 rfl ?_
    refine y_zret hK rfl dX5_letter_30 (by omega) ?_
    exact k0 (fun q => by have q1 := q.1; first | omega | exact q.2 hus)
