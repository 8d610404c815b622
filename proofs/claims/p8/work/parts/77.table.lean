-- B: the TABLE
theorem m_isIn {e : Ev} {d : Nat} {P : Option Vl → Mm → Prop} {σ : Mm} {a lo hi : Int}   (k1 : (lo ≤ a ∧ a ≤ hi) → P (some (vI 1)) σ) (k0 : ¬ (lo ≤ a ∧ a ≤ hi) → P (some (vI 0)) σ) : WT e (d + 1) 136 [vI a, vI lo, vI hi] σ P := by
  refine WT_in fun K hK => ?_
  have hK : StpY e cX6_isIn RX6 (some .boolean) (WT e (d + 0)) P K := hK
  have hM := hK.1
  have hC := hK.1.1
  show K 0 [some (vI a), some (vI lo), some (vI hi)] [] σ
  refine r_rngz hC (fun g0 => ?_)
  have r_a : -2147483648 ≤ a ∧ a ≤ 2147483647 := inR_le (g0 (vI a) (by simp))
  have r_lo : -2147483648 ≤ lo ∧ lo ≤ 2147483647 := inR_le (g0 (vI lo) (by simp))
  have r_hi : -2147483648 ≤ hi ∧ hi ≤ 2147483647 := inR_le (g0 (vI hi) (by simp))
  refine r_iload_n hC dX6_isIn_0 rfl ?_
  refine r_iload_n hC dX6_isIn_1 rfl ?_
  refine r_icmp_lt (tgt := 14) hC dX6_isIn_2 rfl (fun h1 => ?_) (fun h1 => ?_)
  · refine r_iconst hC dX6_isIn_14 rfl ?_
    refine y_zret hK rfl dX6_isIn_15 (by omega) ?_
    exact k0 (by omega)
  · refine r_iload_n hC dX6_isIn_5 rfl ?_
    refine r_iload_n hC dX6_isIn_6 rfl ?_
    refine r_icmp_gt (tgt := 14) hC dX6_isIn_7 rfl (fun h2 => ?_) (fun h2 => ?_)
    · refine r_iconst hC dX6_isIn_14 rfl ?_
      refine y_zret hK rfl dX6_isIn_15 (by omega) ?_
      exact k0 (by omega)
    · refine r_iconst hC dX6_isIn_10 rfl ?_
      refine r_goto (tgt := 15) hC dX6_isIn_11 rfl ?_
      refine y_zret hK rfl dX6_isIn_15 (by omega) ?_
      exact k1 (by omega)
def pr (k : Nat) (σ : Mm) (x y : Int) : Int := σ k 0 (4 * x + y)
def asc (k : Nat) (σ : Mm) (t : Int) : Bool := pr k σ (pr k σ (t / 16) (t / 4 % 4)) (t % 4) == pr k σ (t / 16) (pr k σ (t / 4 % 4) (t % 4))
def cntA (k : Nat) (σ : Mm) : Nat → Int
  | 0 => 0
  | n + 1 => cntA k σ n + (if asc k σ (n : Int) = true then 1 else 0)
def fstA (k : Nat) (σ : Mm) : Nat → Int
  | 0 => -1
  | n + 1 => if fstA k σ n = -1 then (if asc k σ (n : Int) = true then -1 else (n : Int)) else fstA k σ n
theorem asc_yes {k : Nat} {σ : Mm} {t : Int} (h : pr k σ (pr k σ (t / 16) (t / 4 % 4)) (t % 4) = pr k σ (t / 16) (pr k σ (t / 4 % 4) (t % 4))) : asc k σ t = true := by
  unfold asc; rw [h]; exact beq_self_eq_true _
theorem asc_no {k : Nat} {σ : Mm} {t : Int} (h : ¬ pr k σ (pr k σ (t / 16) (t / 4 % 4)) (t % 4) = pr k σ (t / 16) (pr k σ (t / 4 % 4) (t % 4))) : ¬ asc k σ t = true := by
  unfold asc; intro q; exact h (eq_of_beq q)
theorem cntA_yes {k : Nat} {σ : Mm} {t : Int} (h0 : 0 ≤ t) (h : pr k σ (pr k σ (t / 16) (t / 4 % 4)) (t % 4) = pr k σ (t / 16) (pr k σ (t / 4 % 4) (t % 4))) : cntA k σ (t + 1).toNat = cntA k σ t.toNat + 1 := by
  rw [nat_succ h0]
  show cntA k σ t.toNat + (if asc k σ (t.toNat : Int) = true then 1 else 0) = _
  rw [Int.toNat_of_nonneg h0, if_pos (asc_yes h)]
theorem cntA_no {k : Nat} {σ : Mm} {t : Int} (h0 : 0 ≤ t) (h : ¬ pr k σ (pr k σ (t / 16) (t / 4 % 4)) (t % 4) = pr k σ (t / 16) (pr k σ (t / 4 % 4) (t % 4))) : cntA k σ (t + 1).toNat = cntA k σ t.toNat := by
  rw [nat_succ h0]
  show cntA k σ t.toNat + (if asc k σ (t.toNat : Int) = true then 1 else 0) = _
  rw [Int.toNat_of_nonneg h0, if_neg (asc_no h)]
  omega
theorem fstA_yes {k : Nat} {σ : Mm} {t : Int} (h0 : 0 ≤ t) (h : pr k σ (pr k σ (t / 16) (t / 4 % 4)) (t % 4) = pr k σ (t / 16) (pr k σ (t / 4 % 4) (t % 4))) : fstA k σ (t + 1).toNat = fstA k σ t.toNat := by
  rw [nat_succ h0]
  show (if fstA k σ t.toNat = -1 then (if asc k σ (t.toNat : Int) = true then -1 else (t.toNat : Int)) else fstA k σ t.toNat) = _
  rw [Int.toNat_of_nonneg h0, if_pos (asc_yes h)]
  split <;> omega
theorem fstA_new {k : Nat} {σ : Mm} {t : Int} (h0 : 0 ≤ t) (hf : fstA k σ t.toNat = -1) (h : ¬ pr k σ (pr k σ (t / 16) (t / 4 % 4)) (t % 4) = pr k σ (t / 16) (pr k σ (t / 4 % 4) (t % 4))) : fstA k σ (t + 1).toNat = t := by
  rw [nat_succ h0]
  show (if fstA k σ t.toNat = -1 then (if asc k σ (t.toNat : Int) = true then -1 else (t.toNat : Int)) else fstA k σ t.toNat) = _
  rw [Int.toNat_of_nonneg h0, if_pos hf, if_neg (asc_no h)]
theorem fstA_old {k : Nat} {σ : Mm} {t : Int} (h0 : 0 ≤ t) (hf : ¬ fstA k σ t.toNat = -1) : fstA k σ (t + 1).toNat = fstA k σ t.toNat := by
  rw [nat_succ h0]
  show (if fstA k σ t.toNat = -1 then (if asc k σ (t.toNat : Int) = true then -1 else (t.toNat : Int)) else fstA k σ t.toNat) = _
  rw [if_neg hf]
theorem fstA_stay {k : Nat} {σ : Mm} {n m : Nat} {x : Int} (h : fstA k σ n = x) (hx : x ≠ -1) (hm : n ≤ m) : fstA k σ m = x := by
  induction m with
  | zero => rw [show n = 0 from by omega] at h; exact h
  | succ m ih =>
    by_cases e : n = m + 1
    · rw [← e]; exact h
    · have q := ih (by omega)
      show (if fstA k σ m = -1 then _ else fstA k σ m) = x
      rw [if_neg (by omega)]
      exact q
theorem cnt_fst (k : Nat) (σ : Mm) (n : Nat) : cntA k σ n ≤ n ∧ (cntA k σ n = n ↔ fstA k σ n = -1) ∧ -1 ≤ fstA k σ n := by
  induction n with
  | zero => exact ⟨Int.le_refl _, by simp [cntA, fstA], by simp [fstA]⟩
  | succ n ih =>
    obtain ⟨h1, h2, h3⟩ := ih
    have e1 : cntA k σ (n + 1) = cntA k σ n + (if asc k σ (n : Int) = true then 1 else 0) := rfl
    have e2 : fstA k σ (n + 1) = (if fstA k σ n = -1 then (if asc k σ (n : Int) = true then -1 else (n : Int)) else fstA k σ n) := rfl
    rw [e1, e2]
    by_cases ha : asc k σ (n : Int) = true
    · rw [if_pos ha, if_pos ha]
      by_cases hf : fstA k σ n = -1
      · rw [if_pos hf]; have := h2.mpr hf; omega
      · rw [if_neg hf]; have : ¬ cntA k σ n = n := fun q => hf (h2.mp q); omega
    · rw [if_neg ha, if_neg ha]
      by_cases hf : fstA k σ n = -1
      · rw [if_pos hf]; have := h2.mpr hf; omega
      · rw [if_neg hf]; have : ¬ cntA k σ n = n := fun q => hf (h2.mp q); omega
def trpF (k : Nat) (σ : Mm) (w : Int) : Int := if w = 3 then cntA k σ (64 : Int).toNat else if fstA k σ (64 : Int).toNat < 0 ∨ ¬ (0 ≤ w ∧ w ≤ 2) then -1 else if w = 0 then fstA k σ (64 : Int).toNat / 16 else if w = 1 then fstA k σ (64 : Int).toNat / 4 % 4 else fstA k σ (64 : Int).toNat % 4
theorem cntA_eq {k k2 : Nat} {σ ρ : Mm} (h : ∀ j : Int, 0 ≤ j → j < 16 → σ k 0 j = ρ k2 0 j) (hb : ∀ j : Int, 0 ≤ j → j < 16 → 0 ≤ σ k 0 j ∧ σ k 0 j ≤ 3) (t : Int) (h0 : 0 ≤ t) (h1 : t < 64) : asc k σ t = asc k2 ρ t := by
  have e : ∀ x y : Int, 0 ≤ x ∧ x ≤ 3 → 0 ≤ y ∧ y ≤ 3 → pr k σ x y = pr k2 ρ x y ∧ 0 ≤ pr k σ x y ∧ pr k σ x y ≤ 3 := fun x y hx hy => ⟨h _ (by omega) (by omega), hb _ (by omega) (by omega)⟩
  have a := e (t / 16) (t / 4 % 4) (by omega) (by omega)
  have b := e (t / 4 % 4) (t % 4) (by omega) (by omega)
  have c := e (pr k σ (t / 16) (t / 4 % 4)) (t % 4) a.2 (by omega)
  have d := e (t / 16) (pr k σ (t / 4 % 4) (t % 4)) (by omega) b.2
  unfold asc
  rw [c.1, d.1, a.1, b.1]
theorem cnt_eq {k k2 : Nat} {σ ρ : Mm} (h : ∀ j : Int, 0 ≤ j → j < 16 → σ k 0 j = ρ k2 0 j) (hb : ∀ j : Int, 0 ≤ j → j < 16 → 0 ≤ σ k 0 j ∧ σ k 0 j ≤ 3) (n : Nat) (hn : n ≤ 64) : cntA k σ n = cntA k2 ρ n ∧ fstA k σ n = fstA k2 ρ n := by
  induction n with
  | zero => exact ⟨rfl, rfl⟩
  | succ n ih =>
    obtain ⟨i1, i2⟩ := ih (by omega)
    have e := cntA_eq h hb (n : Int) (by omega) (by omega)
    refine ⟨?_, ?_⟩
    · show cntA k σ n + (if asc k σ (n : Int) = true then 1 else 0) = cntA k2 ρ n + (if asc k2 ρ (n : Int) = true then 1 else 0)
      rw [i1, e]
    · show (if fstA k σ n = -1 then (if asc k σ (n : Int) = true then -1 else (n : Int)) else fstA k σ n) = (if fstA k2 ρ n = -1 then (if asc k2 ρ (n : Int) = true then -1 else (n : Int)) else fstA k2 ρ n)
      rw [i2, e]
theorem trp_eq {k k2 : Nat} {σ ρ : Mm} (h : ∀ j : Int, 0 ≤ j → j < 16 → σ k 0 j = ρ k2 0 j) (hb : ∀ j : Int, 0 ≤ j → j < 16 → 0 ≤ σ k 0 j ∧ σ k 0 j ≤ 3) (w : Int) : trpF k σ w = trpF k2 ρ w := by
  have e := cnt_eq h hb (64 : Int).toNat (by decide)
  unfold trpF
  rw [e.1, e.2]
theorem s_productX {e : Ev} {d : Nat} {P : Option Vl → Mm → Prop} {σ : Mm} {x y : Int} (b_x : 0 ≤ x ∧ x ≤ 3) (b_y : 0 ≤ y ∧ y ≤ 3)  (k : 0 ≤ pr 15 σ x y ∧ pr 15 σ x y ≤ 3 → P (some (vI (pr 15 σ x y))) σ) : WT e (d + 1) 51 [vR 2 0, vI x, vI y] σ P := by
  refine WT_in fun K hK => ?_
  have hK : StpY e cX5_product RX5 (some .int) (WT e (d + 0)) P K := hK
  have hM := hK.1
  have hC := hK.1.1
  show K 0 [some (vR 2 0), some (vI x), some (vI y)] [] σ
  refine r_aload_n hC dX5_product_0 rfl ?_
  refine z_getR hM dX5_product_1 fl_RX5_40 rfl rfl (vld_of (n := 1) rfl (by omega) (by omega)) ?_
  refine z_getR hM dX5_product_4 fl_RX5_67 rfl rfl (vld_of (n := 1) rfl (by omega) (by omega)) ?_
  refine r_iconst hC dX5_product_7 rfl ?_
  refine r_iload_n hC dX5_product_8 rfl ?_
  refine r_imulE hC ((4 * x)) dX5_product_9 (by omega) (by unfold inR; omega) ?_
  refine r_iload_n hC dX5_product_10 rfl ?_
  refine r_iaddE hC (((4 * x) + y)) dX5_product_11 (by omega) (by unfold inR; omega) ?_
  refine z_iald hM dX5_product_12 rfl (by omega) (by omega) (fun v1 h_v1 o_v1 t_v1 => ?_)
  have w_v1 := t_v1 (Or.inl trivial)
  subst w_v1
  have q_v1 : 0 ≤ (σ 15 0 ((4 * x) + y)) ∧ (σ 15 0 ((4 * x) + y)) ≤ 3 := o_v1
  refine y_iret hK rfl dX5_product_13 ?_
  exact k (by unfold pr; omega)
theorem m_productX {e : Ev} {d : Nat} {P : Option Vl → Mm → Prop} {σ : Mm} {x y : Int} (b_x : 0 ≤ x ∧ x ≤ 3) (b_y : 0 ≤ y ∧ y ≤ 3)  (k : 0 ≤ pr 35 σ x y ∧ pr 35 σ x y ≤ 3 → P (some (vI (pr 35 σ x y))) σ) : WT e (d + 1) 145 [vR 30 0, vI x, vI y] σ P := by
  refine WT_in fun K hK => ?_
  have hK : StpY e cX6_product RX6 (some .int) (WT e (d + 0)) P K := hK
  have hM := hK.1
  have hC := hK.1.1
  show K 0 [some (vR 30 0), some (vI x), some (vI y)] [] σ
  refine r_aload_n hC dX6_product_0 rfl ?_
  refine z_getR hM dX6_product_1 fl_RX6_22 rfl rfl (vld_of (n := 1) rfl (by omega) (by omega)) ?_
  refine r_iconst hC dX6_product_4 rfl ?_
  refine r_iload_n hC dX6_product_5 rfl ?_
  refine r_imulE hC ((4 * x)) dX6_product_6 (by omega) (by unfold inR; omega) ?_
  refine r_iload_n hC dX6_product_7 rfl ?_
  refine r_iaddE hC (((4 * x) + y)) dX6_product_8 (by omega) (by unfold inR; omega) ?_
  refine z_iald hM dX6_product_9 rfl (by omega) (by omega) (fun v1 h_v1 o_v1 t_v1 => ?_)
  have w_v1 := t_v1 (Or.inl trivial)
  subst w_v1
  have q_v1 : 0 ≤ (σ 35 0 ((4 * x) + y)) ∧ (σ 35 0 ((4 * x) + y)) ≤ 3 := o_v1
  refine y_iret hK rfl dX6_product_10 ?_
  exact k (by unfold pr; omega)
theorem s_associatesX {e : Ev} {d : Nat} {P : Option Vl → Mm → Prop} {σ : Mm} {x y z : Int} (b_x : 0 ≤ x ∧ x ≤ 3) (b_y : 0 ≤ y ∧ y ≤ 3) (b_z : 0 ≤ z ∧ z ≤ 3)  (k1 : (pr 15 σ (pr 15 σ x y) z = pr 15 σ x (pr 15 σ y z)) → P (some (vI 1)) σ) (k0 : ¬ (pr 15 σ (pr 15 σ x y) z = pr 15 σ x (pr 15 σ y z)) → P (some (vI 0)) σ) : WT e (d + 2) 52 [vR 2 0, vI x, vI y, vI z] σ P := by
  refine WT_in fun K hK => ?_
  have hK : StpY e cX5_associates RX5 (some .boolean) (WT e (d + 1)) P K := hK
  have hM := hK.1
  have hC := hK.1.1
  show K 0 [some (vR 2 0), some (vI x), some (vI y), some (vI z)] [] σ
  refine r_aload_n hC dX5_associates_0 rfl ?_
  refine r_aload_n hC dX5_associates_1 rfl ?_
  refine r_iload_n hC dX5_associates_2 rfl ?_
  refine r_iload_n hC dX5_associates_3 rfl ?_
  refine z_inv2 hM dX5_associates_4 vl_RX5_90 rfl rfl rfl (Nat.le_of_ble_eq_true rfl) (Nat.le_of_ble_eq_true rfl) ?_
  refine s_productX (by omega) (by omega) (fun h1 => ?_)
  refine r_iload_n hC dX5_associates_7 rfl ?_
  refine z_inv2 hM dX5_associates_8 vl_RX5_90 rfl rfl rfl (Nat.le_of_ble_eq_true rfl) (Nat.le_of_ble_eq_true rfl) ?_
  refine s_productX (by omega) (by omega) (fun h2 => ?_)
  refine r_aload_n hC dX5_associates_11 rfl ?_
  refine r_iload_n hC dX5_associates_12 rfl ?_
  refine r_aload_n hC dX5_associates_13 rfl ?_
  refine r_iload_n hC dX5_associates_14 rfl ?_
  refine r_iload_n hC dX5_associates_15 rfl ?_
  refine z_inv2 hM dX5_associates_16 vl_RX5_90 rfl rfl rfl (Nat.le_of_ble_eq_true rfl) (Nat.le_of_ble_eq_true rfl) ?_
  refine s_productX (by omega) (by omega) (fun h3 => ?_)
  refine z_inv2 hM dX5_associates_19 vl_RX5_90 rfl rfl rfl (Nat.le_of_ble_eq_true rfl) (Nat.le_of_ble_eq_true rfl) ?_
  refine s_productX (by omega) (by omega) (fun h4 => ?_)
  refine r_icmp_ne (tgt := 29) hC dX5_associates_22 rfl (fun h5 => ?_) (fun h5 => ?_)
  · refine r_iconst hC dX5_associates_29 rfl ?_
    refine y_zret hK rfl dX5_associates_30 (by omega) ?_
    exact k0 (by omega)
  · refine r_iconst hC dX5_associates_25 rfl ?_
    refine r_goto (tgt := 30) hC dX5_associates_26 rfl ?_
    refine y_zret hK rfl dX5_associates_30 (by omega) ?_
    exact k1 (by omega)
theorem m_associatesX {e : Ev} {d : Nat} {P : Option Vl → Mm → Prop} {σ : Mm} {t : Int} (b_t : 0 ≤ t ∧ t ≤ 63)  (k1 : (pr 35 σ (pr 35 σ (t / 16) (t / 4 % 4)) (t % 4) = pr 35 σ (t / 16) (pr 35 σ (t / 4 % 4) (t % 4))) → P (some (vI 1)) σ) (k0 : ¬ (pr 35 σ (pr 35 σ (t / 16) (t / 4 % 4)) (t % 4) = pr 35 σ (t / 16) (pr 35 σ (t / 4 % 4) (t % 4))) → P (some (vI 0)) σ) : WT e (d + 2) 146 [vR 30 0, vI t] σ P := by
  refine WT_in fun K hK => ?_
  have hK : StpY e cX6_associates RX6 (some .boolean) (WT e (d + 1)) P K := hK
  have hM := hK.1
  have hC := hK.1.1
  show K 0 [some (vR 30 0), some (vI t), none, none, none] [] σ
  refine r_iload_n hC dX6_associates_0 rfl ?_
  refine r_bipush hC dX6_associates_1 rfl ?_
  refine r_idivN hC dX6_associates_3 (by omega) (by omega) ?_
  refine r_istore_n hC dX6_associates_4 rfl ?_
  refine r_iload_n hC dX6_associates_5 rfl ?_
  refine r_iconst hC dX6_associates_6 rfl ?_
  refine r_idivN hC dX6_associates_7 (by omega) (by omega) ?_
  refine r_iconst hC dX6_associates_8 rfl ?_
  refine r_iremN hC dX6_associates_9 (by omega) (by omega) ?_
  refine r_istore_n hC dX6_associates_10 rfl ?_
  refine r_iload_n hC dX6_associates_11 rfl ?_
  refine r_iconst hC dX6_associates_12 rfl ?_
  refine r_iremN hC dX6_associates_13 (by omega) (by omega) ?_
  refine r_istore hC dX6_associates_14 rfl ?_
  show K _ [_, _, _, _, _] _ _
  refine r_aload_n hC dX6_associates_16 rfl ?_
  refine r_aload_n hC dX6_associates_17 rfl ?_
  refine r_iload_n hC dX6_associates_18 rfl ?_
  refine r_iload_n hC dX6_associates_19 rfl ?_
  refine z_inv2 hM dX6_associates_20 vl_RX6_88 rfl rfl rfl (Nat.le_of_ble_eq_true rfl) (Nat.le_of_ble_eq_true rfl) ?_
  refine m_productX (by omega) (by omega) (fun h1 => ?_)
  refine r_iload hC dX6_associates_23 rfl ?_
  refine z_inv2 hM dX6_associates_25 vl_RX6_88 rfl rfl rfl (Nat.le_of_ble_eq_true rfl) (Nat.le_of_ble_eq_true rfl) ?_
  refine m_productX (by omega) (by omega) (fun h2 => ?_)
  refine r_aload_n hC dX6_associates_28 rfl ?_
  refine r_iload_n hC dX6_associates_29 rfl ?_
  refine r_aload_n hC dX6_associates_30 rfl ?_
  refine r_iload_n hC dX6_associates_31 rfl ?_
  refine r_iload hC dX6_associates_32 rfl ?_
  refine z_inv2 hM dX6_associates_34 vl_RX6_88 rfl rfl rfl (Nat.le_of_ble_eq_true rfl) (Nat.le_of_ble_eq_true rfl) ?_
  refine m_productX (by omega) (by omega) (fun h3 => ?_)
  refine z_inv2 hM dX6_associates_37 vl_RX6_88 rfl rfl rfl (Nat.le_of_ble_eq_true rfl) (Nat.le_of_ble_eq_true rfl) ?_
  refine m_productX (by omega) (by omega) (fun h4 => ?_)
  refine r_icmp_ne (tgt := 47) hC dX6_associates_40 rfl (fun h5 => ?_) (fun h5 => ?_)
  · refine r_iconst hC dX6_associates_47 rfl ?_
    refine y_zret hK rfl dX6_associates_48 (by omega) ?_
    exact k0 (by omega)
  · refine r_iconst hC dX6_associates_43 rfl ?_
    refine r_goto (tgt := 48) hC dX6_associates_44 rfl ?_
    refine y_zret hK rfl dX6_associates_48 (by omega) ?_
    exact k1 (by omega)
theorem s_tripleX {e : Ev} {d : Nat} {P : Option Vl → Mm → Prop} {σ : Mm} {w : Int}   (k : P (some (vI (trpF 15 σ w))) σ) : WT e (d + 3) 49 [vR 2 0, vI w] σ P := by
  refine WT_in fun K hK => ?_
  have hK : StpY e cX5_triple RX5 (some .int) (WT e (d + 2)) P K := hK
  have hM := hK.1
  have hC := hK.1.1
  show K 0 [some (vR 2 0), some (vI w), none, none, none] [] σ
  refine r_rngz hC (fun g0 => ?_)
  have r_w : -2147483648 ≤ w ∧ w ≤ 2147483647 := inR_le (g0 (vI w) (by simp))
  refine r_iload_n hC dX5_triple_0 rfl ?_
  refine r_iconst hC dX5_triple_1 rfl ?_
  refine r_iconst hC dX5_triple_2 rfl ?_
  refine z_ins3 hM dX5_triple_3 tl_RX5_59 rfl (Nat.le_of_ble_eq_true rfl) (Nat.le_of_ble_eq_true rfl) ?_
  refine s_within (fun h2 => ?_) (fun h2 => ?_)
  · refine r_if_ne (tgt := 11) hC dX5_triple_6 rfl (fun h3 => ?_) (fun h3 => by omega)
    refine r_iconst hC dX5_triple_11 rfl ?_
    refine r_istore_n hC dX5_triple_12 rfl ?_
    refine r_iconst hC dX5_triple_13 rfl ?_
    refine r_istore_n hC dX5_triple_14 rfl ?_
    refine r_iconst hC dX5_triple_15 rfl ?_
    refine r_istore hC dX5_triple_16 rfl ?_
    have L18 : ∀ (n18 : Nat) (w4 w5 w6 : Int), 0 ≤ w4 ∧ w4 ≤ 64 → 0 ≤ w5 ∧ w5 ≤ 64 → -1 ≤ w6 ∧ w6 ≤ 63 → ((w4) = cntA 15 σ ((w5)).toNat) → ((w6) = fstA 15 σ ((w5)).toNat) → ((w4) ≤ (w5)) → 64 - w5 < (n18 : Int) → K 18 [some (vR 2 0), some (vI w), some (vI w6), some (vI w4), some (vI w5)] [] σ := by
      intro n18
      induction n18 with
      | zero => intro w4 w5 w6  f_w4 f_w5 f_w6 i0_18 i1_18 i2_18 hm ; omega
      | succ n18 ih18 =>
        intro w4 w5 w6  f_w4 f_w5 f_w6 i0_18 i1_18 i2_18 hm18 
        refine r_iload hC dX5_triple_18 rfl ?_
        refine r_bipush hC dX5_triple_20 rfl ?_
        refine r_icmp_ge (tgt := 67) hC dX5_triple_22 rfl (fun h7 => ?_) (fun h7 => ?_)
        · refine r_iload_n hC dX5_triple_67 rfl ?_
          refine r_iconst hC dX5_triple_68 rfl ?_
          refine r_icmp_ne (tgt := 74) hC dX5_triple_69 rfl (fun h8 => ?_) (fun h8 => ?_)
          · refine r_iload_n hC dX5_triple_74 rfl ?_
            refine r_iconst hC dX5_triple_75 rfl ?_
            refine r_icmp_ne (tgt := 81) hC dX5_triple_76 rfl (fun h9 => ?_) (fun h9 => ?_)
            · refine r_iload_n hC dX5_triple_81 rfl ?_
              refine r_if_ne (tgt := 92) hC dX5_triple_82 rfl (fun h10 => ?_) (fun h10 => ?_)
              · refine r_iload_n hC dX5_triple_92 rfl ?_
                refine r_iconst hC dX5_triple_93 rfl ?_
                refine r_icmp_ne (tgt := 105) hC dX5_triple_94 rfl (fun h11 => ?_) (fun h11 => ?_)
                · refine r_iload_n hC dX5_triple_105 rfl ?_
                  refine r_iconst hC dX5_triple_106 rfl ?_
                  refine r_iremN hC dX5_triple_107 (by omega) (by omega) ?_
                  refine y_iret hK rfl dX5_triple_108 ?_
                  obtain rfl : w5 = 64 := by omega
                  have e : trpF 15 σ w = (w6 % 4) := by unfold trpF; (repeat' split) <;> omega
                  rw [e] at k
                  exact k
                · refine r_iload_n hC dX5_triple_97 rfl ?_
                  refine r_iconst hC dX5_triple_98 rfl ?_
                  refine r_idivN hC dX5_triple_99 (by omega) (by omega) ?_
                  refine r_iconst hC dX5_triple_100 rfl ?_
                  refine r_iremN hC dX5_triple_101 (by omega) (by omega) ?_
                  refine r_goto (tgt := 108) hC dX5_triple_102 rfl ?_
                  refine y_iret hK rfl dX5_triple_108 ?_
                  obtain rfl : w5 = 64 := by omega
                  have e : trpF 15 σ w = ((w6 / 4) % 4) := by unfold trpF; (repeat' split) <;> omega
                  rw [e] at k
                  exact k
              · refine r_iload_n hC dX5_triple_85 rfl ?_
                refine r_bipush hC dX5_triple_86 rfl ?_
                refine r_idivN hC dX5_triple_88 (by omega) (by omega) ?_
                refine r_goto (tgt := 108) hC dX5_triple_89 rfl ?_
                refine y_iret hK rfl dX5_triple_108 ?_
                obtain rfl : w5 = 64 := by omega
                have e : trpF 15 σ w = (w6 / 16) := by unfold trpF; (repeat' split) <;> omega
                rw [e] at k
                exact k
            · refine r_iconst hC dX5_triple_79 rfl ?_
              refine y_iret hK rfl dX5_triple_80 ?_
              obtain rfl : w5 = 64 := by omega
              have e : trpF 15 σ w = (-1) := by unfold trpF; (repeat' split) <;> omega
              rw [e] at k
              exact k
          · refine r_iload_n hC dX5_triple_72 rfl ?_
            refine y_iret hK rfl dX5_triple_73 ?_
            obtain rfl : w5 = 64 := by omega
            have e : trpF 15 σ w = w4 := by unfold trpF; (repeat' split) <;> omega
            rw [e] at k
            exact k
        · refine r_aload_n hC dX5_triple_25 rfl ?_
          refine r_iload hC dX5_triple_26 rfl ?_
          refine r_bipush hC dX5_triple_28 rfl ?_
          refine r_idivN hC dX5_triple_30 (by omega) (by omega) ?_
          refine r_iload hC dX5_triple_31 rfl ?_
          refine r_iconst hC dX5_triple_33 rfl ?_
          refine r_idivN hC dX5_triple_34 (by omega) (by omega) ?_
          refine r_iconst hC dX5_triple_35 rfl ?_
          refine r_iremN hC dX5_triple_36 (by omega) (by omega) ?_
          refine r_iload hC dX5_triple_37 rfl ?_
          refine r_iconst hC dX5_triple_39 rfl ?_
          refine r_iremN hC dX5_triple_40 (by omega) (by omega) ?_
          refine z_inv3 hM dX5_triple_41 vl_RX5_74 rfl rfl rfl (Nat.le_of_ble_eq_true rfl) (Nat.le_of_ble_eq_true rfl) ?_
          refine s_associatesX (by omega) (by omega) (by omega) (fun h12 => ?_) (fun h12 => ?_)
          · refine r_if_eq (tgt := 53) hC dX5_triple_44 rfl (fun h13 => by omega) (fun h13 => ?_)
            refine r_iincE hC ((w4 + 1)) dX5_triple_47 rfl rfl (by omega) (by unfold inR; omega) ?_
            refine r_goto (tgt := 61) hC dX5_triple_50 rfl ?_
            refine r_iincE hC ((w5 + 1)) dX5_triple_61 rfl rfl (by omega) (by unfold inR; omega) ?_
            refine r_goto (tgt := 18) hC dX5_triple_64 rfl ?_
            exact ih18 ((w4 + 1)) ((w5 + 1)) (w6)  (by omega) (by omega) (by omega) (by first | rfl | (rw [cntA_yes (by omega) (by assumption)]; omega) | (rw [cntA_no (by omega) (by assumption)]; omega)) (by first | rfl | (rw [fstA_yes (by omega) (by assumption)]; omega) | (rw [fstA_new (by omega) (by omega) (by assumption)]) | (rw [fstA_old (by omega) (by omega)]; omega)) (by omega) (by omega) 
          · refine r_if_eq (tgt := 53) hC dX5_triple_44 rfl (fun h14 => ?_) (fun h14 => by omega)
            refine r_iload_n hC dX5_triple_53 rfl ?_
            refine r_iconst hC dX5_triple_54 rfl ?_
            refine r_icmp_ne (tgt := 61) hC dX5_triple_55 rfl (fun h15 => ?_) (fun h15 => ?_)
            · refine r_iincE hC ((w5 + 1)) dX5_triple_61 rfl rfl (by omega) (by unfold inR; omega) ?_
              refine r_goto (tgt := 18) hC dX5_triple_64 rfl ?_
              exact ih18 (w4) ((w5 + 1)) (w6)  (by omega) (by omega) (by omega) (by first | rfl | (rw [cntA_yes (by omega) (by assumption)]; omega) | (rw [cntA_no (by omega) (by assumption)]; omega)) (by first | rfl | (rw [fstA_yes (by omega) (by assumption)]; omega) | (rw [fstA_new (by omega) (by omega) (by assumption)]) | (rw [fstA_old (by omega) (by omega)]; omega)) (by omega) (by omega) 
            · refine r_iload hC dX5_triple_58 rfl ?_
              refine r_istore_n hC dX5_triple_60 rfl ?_
              refine r_iincE hC ((w5 + 1)) dX5_triple_61 rfl rfl (by omega) (by unfold inR; omega) ?_
              refine r_goto (tgt := 18) hC dX5_triple_64 rfl ?_
              exact ih18 (w4) ((w5 + 1)) (w5)  (by omega) (by omega) (by omega) (by first | rfl | (rw [cntA_yes (by omega) (by assumption)]; omega) | (rw [cntA_no (by omega) (by assumption)]; omega)) (by first | rfl | (rw [fstA_yes (by omega) (by assumption)]; omega) | (rw [fstA_new (by omega) (by omega) (by assumption)]) | (rw [fstA_old (by omega) (by omega)]; omega)) (by omega) (by omega) 
    exact L18 66 (0) (0) ((-1))  (by omega) (by omega) (by omega) (by first | rfl | (rw [cntA_yes (by omega) (by assumption)]; omega) | (rw [cntA_no (by omega) (by assumption)]; omega)) (by first | rfl | (rw [fstA_yes (by omega) (by assumption)]; omega) | (rw [fstA_new (by omega) (by omega) (by assumption)]) | (rw [fstA_old (by omega) (by omega)]; omega)) (by omega) (by omega) 
  · refine r_if_ne (tgt := 11) hC dX5_triple_6 rfl (fun h16 => by omega) (fun h16 => ?_)
    refine r_iconst hC dX5_triple_9 rfl ?_
    refine y_iret hK rfl dX5_triple_10 ?_
    have e : trpF 15 σ w = (-1) := by unfold trpF; (repeat' split) <;> omega
    rw [e] at k
    exact k
theorem m_firstThreeX {e : Ev} {d : Nat} {P : Option Vl → Mm → Prop} {σ : Mm}   (k : P (some (vI (fstA 35 σ (64 : Int).toNat))) σ) : WT e (d + 3) 147 [vR 30 0] σ P := by
  refine WT_in fun K hK => ?_
  have hK : StpY e cX6_firstThree RX6 (some .int) (WT e (d + 2)) P K := hK
  have hM := hK.1
  have hC := hK.1.1
  show K 0 [some (vR 30 0), none] [] σ
  refine r_iconst hC dX6_firstThree_0 rfl ?_
  refine r_istore_n hC dX6_firstThree_1 rfl ?_
  have L2 : ∀ (n2 : Nat) (w1 : Int), 0 ≤ w1 ∧ w1 ≤ 64 → (-1 = fstA 35 σ ((w1)).toNat) → 64 - w1 < (n2 : Int) → K 2 [some (vR 30 0), some (vI w1)] [] σ := by
    intro n2
    induction n2 with
    | zero => intro w1  f_w1 i0_2 hm ; omega
    | succ n2 ih2 =>
      intro w1  f_w1 i0_2 hm2 
      refine r_iload_n hC dX6_firstThree_2 rfl ?_
      refine r_bipush hC dX6_firstThree_3 rfl ?_
      refine r_icmp_ge (tgt := 24) hC dX6_firstThree_5 rfl (fun h2 => ?_) (fun h2 => ?_)
      · refine r_iconst hC dX6_firstThree_24 rfl ?_
        refine y_iret hK rfl dX6_firstThree_25 ?_
        obtain rfl : w1 = 64 := by omega
        rw [← i0_2] at k
        exact k
      · refine r_aload_n hC dX6_firstThree_8 rfl ?_
        refine r_iload_n hC dX6_firstThree_9 rfl ?_
        refine z_inv1 hM dX6_firstThree_10 vl_RX6_91 rfl rfl rfl (Nat.le_of_ble_eq_true rfl) (Nat.le_of_ble_eq_true rfl) ?_
        refine m_associatesX (by omega) (fun h3 => ?_) (fun h3 => ?_)
        · refine r_if_ne (tgt := 18) hC dX6_firstThree_13 rfl (fun h4 => ?_) (fun h4 => by omega)
          refine r_iincE hC ((w1 + 1)) dX6_firstThree_18 rfl rfl (by omega) (by unfold inR; omega) ?_
          refine r_goto (tgt := 2) hC dX6_firstThree_21 rfl ?_
          exact ih2 ((w1 + 1))  (by omega) (by first | rfl | (rw [fstA_yes (by omega) (by assumption)]; omega) | (rw [fstA_new (by omega) (by omega) (by assumption)]) | (rw [fstA_old (by omega) (by omega)]; omega)) (by omega) 
        · refine r_if_ne (tgt := 18) hC dX6_firstThree_13 rfl (fun h5 => by omega) (fun h5 => ?_)
          refine r_iload_n hC dX6_firstThree_16 rfl ?_
          refine y_iret hK rfl dX6_firstThree_17 ?_
          have e := fstA_stay (m := (64 : Int).toNat) (fstA_new (k := 35) (σ := σ) (t := w1) (by omega) (by omega) (by assumption)) (by omega) (by omega)
          rw [e] at k
          exact k
  exact L2 66 (0)  (by omega) (by first | rfl | (rw [fstA_yes (by omega) (by assumption)]; omega) | (rw [fstA_new (by omega) (by omega) (by assumption)]) | (rw [fstA_old (by omega) (by omega)]; omega)) (by omega) 
theorem m_countX {e : Ev} {d : Nat} {P : Option Vl → Mm → Prop} {σ : Mm}   (k : P (some (vI (cntA 35 σ (64 : Int).toNat))) σ) : WT e (d + 3) 149 [vR 30 0] σ P := by
  refine WT_in fun K hK => ?_
  have hK : StpY e cX6_countAssociating RX6 (some .int) (WT e (d + 2)) P K := hK
  have hM := hK.1
  have hC := hK.1.1
  show K 0 [some (vR 30 0), none, none] [] σ
  refine r_iconst hC dX6_countAssociating_0 rfl ?_
  refine r_istore_n hC dX6_countAssociating_1 rfl ?_
  refine r_iconst hC dX6_countAssociating_2 rfl ?_
  refine r_istore_n hC dX6_countAssociating_3 rfl ?_
  have L4 : ∀ (n4 : Nat) (w1 w2 : Int), 0 ≤ w1 ∧ w1 ≤ 64 → 0 ≤ w2 ∧ w2 ≤ 64 → ((w1) = cntA 35 σ ((w2)).toNat) → ((w1) ≤ (w2)) → 64 - w2 < (n4 : Int) → K 4 [some (vR 30 0), some (vI w1), some (vI w2)] [] σ := by
    intro n4
    induction n4 with
    | zero => intro w1 w2  f_w1 f_w2 i0_4 i1_4 hm ; omega
    | succ n4 ih4 =>
      intro w1 w2  f_w1 f_w2 i0_4 i1_4 hm4 
      refine r_iload_n hC dX6_countAssociating_4 rfl ?_
      refine r_bipush hC dX6_countAssociating_5 rfl ?_
      refine r_icmp_ge (tgt := 32) hC dX6_countAssociating_7 rfl (fun h3 => ?_) (fun h3 => ?_)
      · refine r_iload_n hC dX6_countAssociating_32 rfl ?_
        refine y_iret hK rfl dX6_countAssociating_33 ?_
        obtain rfl : w2 = 64 := by omega
        rw [← i0_4] at k
        exact k
      · refine r_iload_n hC dX6_countAssociating_10 rfl ?_
        refine r_aload_n hC dX6_countAssociating_11 rfl ?_
        refine r_iload_n hC dX6_countAssociating_12 rfl ?_
        refine z_inv1 hM dX6_countAssociating_13 vl_RX6_91 rfl rfl rfl (Nat.le_of_ble_eq_true rfl) (Nat.le_of_ble_eq_true rfl) ?_
        refine m_associatesX (by omega) (fun h4 => ?_) (fun h4 => ?_)
        · refine r_if_eq (tgt := 23) hC dX6_countAssociating_16 rfl (fun h5 => by omega) (fun h5 => ?_)
          refine r_iconst hC dX6_countAssociating_19 rfl ?_
          refine r_goto (tgt := 24) hC dX6_countAssociating_20 rfl ?_
          refine r_iaddE hC ((w1 + 1)) dX6_countAssociating_24 (by omega) (by unfold inR; omega) ?_
          refine r_istore_n hC dX6_countAssociating_25 rfl ?_
          refine r_iincE hC ((w2 + 1)) dX6_countAssociating_26 rfl rfl (by omega) (by unfold inR; omega) ?_
          refine r_goto (tgt := 4) hC dX6_countAssociating_29 rfl ?_
          exact ih4 ((w1 + 1)) ((w2 + 1))  (by omega) (by omega) (by first | rfl | (rw [cntA_yes (by omega) (by assumption)]; omega) | (rw [cntA_no (by omega) (by assumption)]; omega)) (by omega) (by omega) 
        · refine r_if_eq (tgt := 23) hC dX6_countAssociating_16 rfl (fun h6 => ?_) (fun h6 => by omega)
          refine r_iconst hC dX6_countAssociating_23 rfl ?_
          refine r_iaddE hC (w1) dX6_countAssociating_24 (by omega) (by unfold inR; omega) ?_
          refine r_istore_n hC dX6_countAssociating_25 rfl ?_
          refine r_iincE hC ((w2 + 1)) dX6_countAssociating_26 rfl rfl (by omega) (by unfold inR; omega) ?_
          refine r_goto (tgt := 4) hC dX6_countAssociating_29 rfl ?_
          exact ih4 (w1) ((w2 + 1))  (by omega) (by omega) (by first | rfl | (rw [cntA_yes (by omega) (by assumption)]; omega) | (rw [cntA_no (by omega) (by assumption)]; omega)) (by omega) (by omega) 
  exact L4 66 (0) (0)  (by omega) (by omega) (by first | rfl | (rw [cntA_yes (by omega) (by assumption)]; omega) | (rw [cntA_no (by omega) (by assumption)]; omega)) (by omega) (by omega) 
theorem fst_bd (k : Nat) (σ : Mm) : -1 ≤ fstA k σ (64 : Int).toNat ∧ fstA k σ (64 : Int).toNat ≤ 63 := by
  have h : ∀ n : Nat, -1 ≤ fstA k σ n ∧ (fstA k σ n < n ∨ fstA k σ n = -1) := by
    intro n
    induction n with
    | zero => exact ⟨by simp [fstA], Or.inr rfl⟩
    | succ n ih =>
      show -1 ≤ (if fstA k σ n = -1 then (if asc k σ (n : Int) = true then -1 else (n : Int)) else fstA k σ n) ∧ _
      have e : fstA k σ (n + 1) = (if fstA k σ n = -1 then (if asc k σ (n : Int) = true then -1 else (n : Int)) else fstA k σ n) := rfl
      rw [e]
      split
      · split <;> omega
      · omega
  have := h (64 : Int).toNat
  have e : ((64 : Int).toNat : Int) = 64 := by decide
  omega
theorem m_tripleX {e : Ev} {d : Nat} {P : Option Vl → Mm → Prop} {σ : Mm} {w : Int}   (k : P (some (vI (trpF 35 σ w))) σ) : WT e (d + 4) 148 [vR 30 0, vI w] σ P := by
  refine WT_in fun K hK => ?_
  have hK : StpY e cX6_triple RX6 (some .int) (WT e (d + 3)) P K := hK
  have hM := hK.1
  have hC := hK.1.1
  show K 0 [some (vR 30 0), some (vI w), none] [] σ
  refine r_rngz hC (fun g0 => ?_)
  have r_w : -2147483648 ≤ w ∧ w ≤ 2147483647 := inR_le (g0 (vI w) (by simp))
  refine r_iload_n hC dX6_triple_0 rfl ?_
  refine r_iconst hC dX6_triple_1 rfl ?_
  refine r_icmp_ne (tgt := 10) hC dX6_triple_2 rfl (fun h1 => ?_) (fun h1 => ?_)
  · refine r_aload_n hC dX6_triple_10 rfl ?_
    refine z_inv0 hM dX6_triple_11 vl_RX6_98 rfl rfl rfl (Nat.le_of_ble_eq_true rfl) (Nat.le_of_ble_eq_true rfl) ?_
    refine m_firstThreeX ?_
    have bf := fst_bd 35 σ
    refine r_istore_n hC dX6_triple_14 rfl ?_
    refine r_iload_n hC dX6_triple_15 rfl ?_
    refine r_if_lt (tgt := 28) hC dX6_triple_16 rfl (fun h2 => ?_) (fun h2 => ?_)
    · refine r_iconst hC dX6_triple_28 rfl ?_
      refine y_iret hK rfl dX6_triple_29 ?_
      have e : trpF 35 σ w = (-1) := by unfold trpF; (repeat' split) <;> omega
      rw [e] at k
      exact k
    · refine r_iload_n hC dX6_triple_19 rfl ?_
      refine r_iconst hC dX6_triple_20 rfl ?_
      refine r_iconst hC dX6_triple_21 rfl ?_
      refine z_ins3 hM dX6_triple_22 tl_RX6_76 rfl (Nat.le_of_ble_eq_true rfl) (Nat.le_of_ble_eq_true rfl) ?_
      refine m_isIn (fun h4 => ?_) (fun h4 => ?_)
      · refine r_if_ne (tgt := 30) hC dX6_triple_25 rfl (fun h5 => ?_) (fun h5 => by omega)
        refine r_iload_n hC dX6_triple_30 rfl ?_
        refine r_if_ne (tgt := 41) hC dX6_triple_31 rfl (fun h6 => ?_) (fun h6 => ?_)
        · refine r_iload_n hC dX6_triple_41 rfl ?_
          refine r_iconst hC dX6_triple_42 rfl ?_
          refine r_icmp_ne (tgt := 54) hC dX6_triple_43 rfl (fun h7 => ?_) (fun h7 => ?_)
          · refine r_iload_n hC dX6_triple_54 rfl ?_
            refine r_iconst hC dX6_triple_55 rfl ?_
            refine r_iremN hC dX6_triple_56 (by omega) (by omega) ?_
            refine y_iret hK rfl dX6_triple_57 ?_
            have e : trpF 35 σ w = ((fstA 35 σ (64 : Int).toNat) % 4) := by unfold trpF; (repeat' split) <;> omega
            rw [e] at k
            exact k
          · refine r_iload_n hC dX6_triple_46 rfl ?_
            refine r_iconst hC dX6_triple_47 rfl ?_
            refine r_idivN hC dX6_triple_48 (by omega) (by omega) ?_
            refine r_iconst hC dX6_triple_49 rfl ?_
            refine r_iremN hC dX6_triple_50 (by omega) (by omega) ?_
            refine r_goto (tgt := 57) hC dX6_triple_51 rfl ?_
            refine y_iret hK rfl dX6_triple_57 ?_
            have e : trpF 35 σ w = (((fstA 35 σ (64 : Int).toNat) / 4) % 4) := by unfold trpF; (repeat' split) <;> omega
            rw [e] at k
            exact k
        · refine r_iload_n hC dX6_triple_34 rfl ?_
          refine r_bipush hC dX6_triple_35 rfl ?_
          refine r_idivN hC dX6_triple_37 (by omega) (by omega) ?_
          refine r_goto (tgt := 57) hC dX6_triple_38 rfl ?_
          refine y_iret hK rfl dX6_triple_57 ?_
          have e : trpF 35 σ w = ((fstA 35 σ (64 : Int).toNat) / 16) := by unfold trpF; (repeat' split) <;> omega
          rw [e] at k
          exact k
      · refine r_if_ne (tgt := 30) hC dX6_triple_25 rfl (fun h8 => by omega) (fun h8 => ?_)
        refine r_iconst hC dX6_triple_28 rfl ?_
        refine y_iret hK rfl dX6_triple_29 ?_
        have e : trpF 35 σ w = (-1) := by unfold trpF; (repeat' split) <;> omega
        rw [e] at k
        exact k
  · refine r_aload_n hC dX6_triple_5 rfl ?_
    refine z_inv0 hM dX6_triple_6 vl_RX6_94 rfl rfl rfl (Nat.le_of_ble_eq_true rfl) (Nat.le_of_ble_eq_true rfl) ?_
    refine m_countX ?_
    refine y_iret hK rfl dX6_triple_9 ?_
    have e : trpF 35 σ w = (cntA 35 σ (64 : Int).toNat) := by unfold trpF; (repeat' split) <;> omega
    rw [e] at k
    exact k
-- element, told whole
def cB (p : Int → Bool) : Nat → Int
  | 0 => 0
  | n + 1 => cB p n + (if p (n : Int) = true then 1 else 0)
def fB (p : Int → Bool) : Nat → Int
  | 0 => -1
  | n + 1 => if fB p n = -1 then (if p (n : Int) = true then (n : Int) else -1) else fB p n
theorem cB_y {p : Int → Bool} {t : Int} (h0 : 0 ≤ t) (h : p t = true) : cB p (t + 1).toNat = cB p t.toNat + 1 := by
  rw [nat_succ h0]
  show cB p t.toNat + (if p (t.toNat : Int) = true then 1 else 0) = _
  rw [Int.toNat_of_nonneg h0, if_pos h]
theorem cB_n {p : Int → Bool} {t : Int} (h0 : 0 ≤ t) (h : ¬ p t = true) : cB p (t + 1).toNat = cB p t.toNat := by
  rw [nat_succ h0]
  show cB p t.toNat + (if p (t.toNat : Int) = true then 1 else 0) = _
  rw [Int.toNat_of_nonneg h0, if_neg h]
  omega
theorem cB_at {p : Int → Bool} {k t : Int} (h : k = cB p t.toNat) (ht : t = 4) : k = cB p (4 : Int).toNat := by
  subst ht; exact h
theorem fB_n {p : Int → Bool} {t : Int} (h0 : 0 ≤ t) (h : ¬ p t = true) : fB p (t + 1).toNat = fB p t.toNat := by
  rw [nat_succ h0]
  show (if fB p t.toNat = -1 then (if p (t.toNat : Int) = true then (t.toNat : Int) else -1) else fB p t.toNat) = _
  rw [Int.toNat_of_nonneg h0, if_neg h]
  split <;> omega
theorem fB_new {p : Int → Bool} {t : Int} (h0 : 0 ≤ t) (hf : fB p t.toNat = -1) (h : p t = true) : fB p (t + 1).toNat = t := by
  rw [nat_succ h0]
  show (if fB p t.toNat = -1 then (if p (t.toNat : Int) = true then (t.toNat : Int) else -1) else fB p t.toNat) = _
  rw [Int.toNat_of_nonneg h0, if_pos hf, if_pos h]
theorem fB_stay {p : Int → Bool} {n m : Nat} {x : Int} (h : fB p n = x) (hx : x ≠ -1) (hm : n ≤ m) : fB p m = x := by
  induction m with
  | zero => rw [show n = 0 from by omega] at h; exact h
  | succ m ih =>
    by_cases e : n = m + 1
    · rw [← e]; exact h
    · have q := ih (by omega)
      show (if fB p m = -1 then _ else fB p m) = x
      rw [if_neg (by omega)]
      exact q
theorem cB_all {p : Int → Bool} : ∀ n : Nat, cB p n ≤ n ∧ (cB p n = n → ∀ j : Int, 0 ≤ j → j < n → p j = true)
  | 0 => ⟨Int.le_refl _, fun _ j h0 h1 => by omega⟩
  | n + 1 => by
    obtain ⟨h1, h2⟩ := cB_all (p := p) n
    have e : cB p (n + 1) = cB p n + (if p (n : Int) = true then 1 else 0) := rfl
    by_cases hp : p (n : Int) = true
    · rw [e, if_pos hp]
      refine ⟨by omega, fun h j g0 g1 => ?_⟩
      by_cases hj : j = n
      · rw [hj]; exact hp
      · exact h2 (by omega) j g0 (by omega)
    · rw [e, if_neg hp]
      exact ⟨by omega, fun h => by omega⟩
def its (w e x : Int) : Int := if w = 0 then x else e
def pb (k : Nat) (σ : Mm) (w e x : Int) : Bool := pr k σ e x == its w e x && pr k σ x e == its w e x
def qq (k : Nat) (σ : Mm) (w e : Int) : Bool := decide (cB (pb k σ w e) (4 : Int).toNat = 4)
theorem pb_y {k : Nat} {σ : Mm} {w e x i : Int} (hi : its w e x = i) (h1 : pr k σ e x = i) (h2 : pr k σ x e = i) : pb k σ w e x = true := by
  unfold pb; rw [hi, h1, h2]; simp
theorem pb_n1 {k : Nat} {σ : Mm} {w e x i : Int} (hi : its w e x = i) (h1 : ¬ pr k σ e x = i) : ¬ pb k σ w e x = true := by
  unfold pb; rw [hi]; intro q; simp at q; exact h1 q.1
theorem pb_n2 {k : Nat} {σ : Mm} {w e x i : Int} (hi : its w e x = i) (h1 : ¬ pr k σ x e = i) : ¬ pb k σ w e x = true := by
  unfold pb; rw [hi]; intro q; simp at q; exact h1 q.2
theorem qq_y {k : Nat} {σ : Mm} {w e c : Int} (h : c = cB (pb k σ w e) (4 : Int).toNat) (hc : c = 4) : qq k σ w e = true := by
  unfold qq; rw [← h]; exact decide_eq_true hc
theorem qq_n {k : Nat} {σ : Mm} {w e c : Int} (h : c = cB (pb k σ w e) (4 : Int).toNat) (hc : ¬ c = 4) : ¬ qq k σ w e = true := by
  unfold qq; rw [← h]; intro q; exact hc (of_decide_eq_true q)
theorem qq_no {k : Nat} {σ : Mm} {w e x : Int} (h0 : 0 ≤ x) (h1 : x < 4) (h : ¬ pb k σ w e x = true) : ¬ qq k σ w e = true := by
  unfold qq
  intro q
  have e4 : ((4 : Int).toNat : Int) = 4 := by decide
  exact h ((cB_all (p := pb k σ w e) (4 : Int).toNat).2 ((of_decide_eq_true q).trans (by decide)) x h0 (by omega))
def ip (k : Nat) (σ : Mm) (x : Int) : Bool := pr k σ x x == x
theorem ip_y {k : Nat} {σ : Mm} {x : Int} (h : pr k σ x x = x) : ip k σ x = true := by unfold ip; rw [h]; exact beq_self_eq_true _
theorem ip_n {k : Nat} {σ : Mm} {x : Int} (h : ¬ pr k σ x x = x) : ¬ ip k σ x = true := by unfold ip; intro q; exact h (eq_of_beq q)
def cq (k : Nat) (σ : Mm) (v : Int) : Bool := pr k σ (v / 4) (v % 4) == pr k σ (v % 4) (v / 4)
theorem cq_y {k : Nat} {σ : Mm} {v : Int} (h : pr k σ (v / 4) (v % 4) = pr k σ (v % 4) (v / 4)) : cq k σ v = true := by unfold cq; rw [h]; exact beq_self_eq_true _
theorem cq_n {k : Nat} {σ : Mm} {v : Int} (h : ¬ pr k σ (v / 4) (v % 4) = pr k σ (v % 4) (v / 4)) : ¬ cq k σ v = true := by unfold cq; intro q; exact h (eq_of_beq q)
theorem cq_y2 {k : Nat} {σ : Mm} {x y : Int} (h0 : 0 ≤ y ∧ y < 4) (h : pr k σ x y = pr k σ y x) : cq k σ (4 * x + y) = true := cq_y (by rw [show (4 * x + y) / 4 = x from by omega, show (4 * x + y) % 4 = y from by omega]; exact h)
theorem cq_n2 {k : Nat} {σ : Mm} {x y : Int} (h0 : 0 ≤ y ∧ y < 4) (h : ¬ pr k σ x y = pr k σ y x) : ¬ cq k σ (4 * x + y) = true := cq_n (by rw [show (4 * x + y) / 4 = x from by omega, show (4 * x + y) % 4 = y from by omega]; exact h)
def elF (k : Nat) (σ : Mm) (w : Int) : Int := if w = 0 then fB (qq k σ 0) (4 : Int).toNat else if w = 1 then fB (qq k σ 1) (4 : Int).toNat else if w = 2 then cB (ip k σ) (4 : Int).toNat else if w = 3 then cB (cq k σ) (16 : Int).toNat else -1
theorem cB_eq {p q : Int → Bool} : ∀ n : Nat, (∀ j : Int, 0 ≤ j → j < n → p j = q j) → cB p n = cB q n
  | 0, _ => rfl
  | n + 1, h => by
    show cB p n + (if p (n : Int) = true then 1 else 0) = cB q n + (if q (n : Int) = true then 1 else 0)
    rw [cB_eq n fun j h0 h1 => h j h0 (by omega), h n (by omega) (by omega)]
theorem fB_eq {p q : Int → Bool} : ∀ n : Nat, (∀ j : Int, 0 ≤ j → j < n → p j = q j) → fB p n = fB q n
  | 0, _ => rfl
  | n + 1, h => by
    show (if fB p n = -1 then (if p (n : Int) = true then (n : Int) else -1) else fB p n) = (if fB q n = -1 then (if q (n : Int) = true then (n : Int) else -1) else fB q n)
    rw [fB_eq n fun j h0 h1 => h j h0 (by omega), h n (by omega) (by omega)]
theorem s_firstNeutralX {e : Ev} {d : Nat} {P : Option Vl → Mm → Prop} {σ : Mm}   (k : P (some (vI (fB (qq 15 σ 0) (4 : Int).toNat))) σ) : WT e (d + 2) 53 [vR 2 0] σ P := by
  refine WT_in fun K hK => ?_
  have hK : StpY e cX5_firstNeutral RX5 (some .int) (WT e (d + 1)) P K := hK
  have hM := hK.1
  have hC := hK.1.1
  show K 0 [some (vR 2 0), none, none, none] [] σ
  refine r_iconst hC dX5_firstNeutral_0 rfl ?_
  refine r_istore_n hC dX5_firstNeutral_1 rfl ?_
  have L2 : ∀ (n2 : Nat) (w1 : Int), 0 ≤ w1 ∧ w1 ≤ 4 → (-1 = fB (qq 15 σ 0) ((w1)).toNat) → 4 - w1 < (n2 : Int) → K 2 [some (vR 2 0), some (vI w1), none, none] [] σ := by
    intro n2
    induction n2 with
    | zero => intro w1  f_w1 i0_2 hm  ; omega
    | succ n2 ih2 =>
      intro w1  f_w1 i0_2 hm2  
      refine r_iload_n hC dX5_firstNeutral_2 rfl ?_
      refine r_iconst hC dX5_firstNeutral_3 rfl ?_
      refine r_icmp_ge (tgt := 63) hC dX5_firstNeutral_4 rfl (fun h2 => ?_) (fun h2 => ?_)
      · refine r_iconst hC dX5_firstNeutral_63 rfl ?_
        refine y_iret hK rfl dX5_firstNeutral_64 ?_
        obtain rfl : w1 = 4 := by omega
        rw [← i0_2] at k
        exact k
      · refine r_iconst hC dX5_firstNeutral_7 rfl ?_
        refine r_istore_n hC dX5_firstNeutral_8 rfl ?_
        refine r_iconst hC dX5_firstNeutral_9 rfl ?_
        refine r_istore_n hC dX5_firstNeutral_10 rfl ?_
        have L11 : ∀ (n11 : Nat) (w3 w4 : Int), 0 ≤ w3 ∧ w3 ≤ 4 → 0 ≤ w4 ∧ w4 ≤ 4 → ((w4) = cB (pb 15 σ 0 (w1)) ((w3)).toNat) → ((w4) ≤ (w3)) → 4 - w3 < (n11 : Int) → K 11 [some (vR 2 0), some (vI w1), some (vI w4), some (vI w3)] [] σ := by
          intro n11
          induction n11 with
          | zero => intro w3 w4  f_w3 f_w4 i0_11 i1_11 hm  ; omega
          | succ n11 ih11 =>
            intro w3 w4  f_w3 f_w4 i0_11 i1_11 hm11  
            refine r_iload_n hC dX5_firstNeutral_11 rfl ?_
            refine r_iconst hC dX5_firstNeutral_12 rfl ?_
            refine r_icmp_ge (tgt := 50) hC dX5_firstNeutral_13 rfl (fun h5 => ?_) (fun h5 => ?_)
            · refine r_iload_n hC dX5_firstNeutral_50 rfl ?_
              refine r_iconst hC dX5_firstNeutral_51 rfl ?_
              refine r_icmp_ne (tgt := 57) hC dX5_firstNeutral_52 rfl (fun h6 => ?_) (fun h6 => ?_)
              · refine r_iincE hC ((w1 + 1)) dX5_firstNeutral_57 rfl rfl (by omega) (by unfold inR; omega) ?_
                refine r_goto (tgt := 2) hC dX5_firstNeutral_60 rfl ?_
                refine r_forget hC (ls2 := [some (vR 2 0), some (vI (w1 + 1)), none, none]) (lsub_some (lsub_some (lsub_none (lsub_none lsub_nil)))) ?_
                exact ih2 ((w1 + 1))  (by omega) (by first | rfl | (rw [fB_n (by omega) (qq_n (cB_at i0_11 (by omega)) (by omega))]; exact i0_2)) (by omega)  
              · refine r_iload_n hC dX5_firstNeutral_55 rfl ?_
                refine y_iret hK rfl dX5_firstNeutral_56 ?_
                have e := fB_stay (m := (4 : Int).toNat) (fB_new (by omega) i0_2.symm (qq_y (cB_at i0_11 (by omega)) (by omega))) (by omega) (by omega)
                rw [e] at k
                exact k
            · refine r_iload_n hC dX5_firstNeutral_16 rfl ?_
              refine r_aload_n hC dX5_firstNeutral_17 rfl ?_
              refine r_iload_n hC dX5_firstNeutral_18 rfl ?_
              refine r_iload_n hC dX5_firstNeutral_19 rfl ?_
              refine z_inv2 hM dX5_firstNeutral_20 vl_RX5_90 rfl rfl rfl (Nat.le_of_ble_eq_true rfl) (Nat.le_of_ble_eq_true rfl) ?_
              refine s_productX (by omega) (by omega) (fun h7 => ?_)
              refine r_iload_n hC dX5_firstNeutral_23 rfl ?_
              refine r_icmp_ne (tgt := 41) hC dX5_firstNeutral_24 rfl (fun h8 => ?_) (fun h8 => ?_)
              · refine r_iconst hC dX5_firstNeutral_41 rfl ?_
                refine r_iaddE hC (w4) dX5_firstNeutral_42 (by omega) (by unfold inR; omega) ?_
                refine r_istore_n hC dX5_firstNeutral_43 rfl ?_
                refine r_iincE hC ((w3 + 1)) dX5_firstNeutral_44 rfl rfl (by omega) (by unfold inR; omega) ?_
                refine r_goto (tgt := 11) hC dX5_firstNeutral_47 rfl ?_
                exact ih11 ((w3 + 1)) (w4)  (by omega) (by omega) (by first | rfl | (rw [cB_y (by omega) (pb_y (i := w3) rfl (by assumption) (by assumption))]; omega) | (rw [cB_n (by omega) (pb_n1 (i := w3) rfl (by assumption))]; omega) | (rw [cB_n (by omega) (pb_n2 (i := w3) rfl (by assumption))]; omega)) (by omega) (by omega)  
              · refine r_aload_n hC dX5_firstNeutral_27 rfl ?_
                refine r_iload_n hC dX5_firstNeutral_28 rfl ?_
                refine r_iload_n hC dX5_firstNeutral_29 rfl ?_
                refine z_inv2 hM dX5_firstNeutral_30 vl_RX5_90 rfl rfl rfl (Nat.le_of_ble_eq_true rfl) (Nat.le_of_ble_eq_true rfl) ?_
                refine s_productX (by omega) (by omega) (fun h9 => ?_)
                refine r_iload_n hC dX5_firstNeutral_33 rfl ?_
                refine r_icmp_ne (tgt := 41) hC dX5_firstNeutral_34 rfl (fun h10 => ?_) (fun h10 => ?_)
                · refine r_iconst hC dX5_firstNeutral_41 rfl ?_
                  refine r_iaddE hC (w4) dX5_firstNeutral_42 (by omega) (by unfold inR; omega) ?_
                  refine r_istore_n hC dX5_firstNeutral_43 rfl ?_
                  refine r_iincE hC ((w3 + 1)) dX5_firstNeutral_44 rfl rfl (by omega) (by unfold inR; omega) ?_
                  refine r_goto (tgt := 11) hC dX5_firstNeutral_47 rfl ?_
                  exact ih11 ((w3 + 1)) (w4)  (by omega) (by omega) (by first | rfl | (rw [cB_y (by omega) (pb_y (i := w3) rfl (by assumption) (by assumption))]; omega) | (rw [cB_n (by omega) (pb_n1 (i := w3) rfl (by assumption))]; omega) | (rw [cB_n (by omega) (pb_n2 (i := w3) rfl (by assumption))]; omega)) (by omega) (by omega)  
                · refine r_iconst hC dX5_firstNeutral_37 rfl ?_
                  refine r_goto (tgt := 42) hC dX5_firstNeutral_38 rfl ?_
                  refine r_iaddE hC ((w4 + 1)) dX5_firstNeutral_42 (by omega) (by unfold inR; omega) ?_
                  refine r_istore_n hC dX5_firstNeutral_43 rfl ?_
                  refine r_iincE hC ((w3 + 1)) dX5_firstNeutral_44 rfl rfl (by omega) (by unfold inR; omega) ?_
                  refine r_goto (tgt := 11) hC dX5_firstNeutral_47 rfl ?_
                  exact ih11 ((w3 + 1)) ((w4 + 1))  (by omega) (by omega) (by first | rfl | (rw [cB_y (by omega) (pb_y (i := w3) rfl (by assumption) (by assumption))]; omega) | (rw [cB_n (by omega) (pb_n1 (i := w3) rfl (by assumption))]; omega) | (rw [cB_n (by omega) (pb_n2 (i := w3) rfl (by assumption))]; omega)) (by omega) (by omega)  
        exact L11 6 (0) (0)  (by omega) (by omega) (by first | rfl | (rw [cB_y (by omega) (pb_y (i := w3) rfl (by assumption) (by assumption))]; omega) | (rw [cB_n (by omega) (pb_n1 (i := w3) rfl (by assumption))]; omega) | (rw [cB_n (by omega) (pb_n2 (i := w3) rfl (by assumption))]; omega)) (by omega) (by omega)  
  exact L2 6 (0)  (by omega) (by first | rfl | (rw [fB_n (by omega) (qq_n (cB_at i0_11 (by omega)) (by omega))]; exact i0_2)) (by omega)  
theorem s_firstAbsorbingX {e : Ev} {d : Nat} {P : Option Vl → Mm → Prop} {σ : Mm}   (k : P (some (vI (fB (qq 15 σ 1) (4 : Int).toNat))) σ) : WT e (d + 2) 54 [vR 2 0] σ P := by
  refine WT_in fun K hK => ?_
  have hK : StpY e cX5_firstAbsorbing RX5 (some .int) (WT e (d + 1)) P K := hK
  have hM := hK.1
  have hC := hK.1.1
  show K 0 [some (vR 2 0), none, none, none] [] σ
  refine r_iconst hC dX5_firstAbsorbing_0 rfl ?_
  refine r_istore_n hC dX5_firstAbsorbing_1 rfl ?_
  have L2 : ∀ (n2 : Nat) (w1 : Int), 0 ≤ w1 ∧ w1 ≤ 4 → (-1 = fB (qq 15 σ 1) ((w1)).toNat) → 4 - w1 < (n2 : Int) → K 2 [some (vR 2 0), some (vI w1), none, none] [] σ := by
    intro n2
    induction n2 with
    | zero => intro w1  f_w1 i0_2 hm  ; omega
    | succ n2 ih2 =>
      intro w1  f_w1 i0_2 hm2  
      refine r_iload_n hC dX5_firstAbsorbing_2 rfl ?_
      refine r_iconst hC dX5_firstAbsorbing_3 rfl ?_
      refine r_icmp_ge (tgt := 63) hC dX5_firstAbsorbing_4 rfl (fun h2 => ?_) (fun h2 => ?_)
      · refine r_iconst hC dX5_firstAbsorbing_63 rfl ?_
        refine y_iret hK rfl dX5_firstAbsorbing_64 ?_
        obtain rfl : w1 = 4 := by omega
        rw [← i0_2] at k
        exact k
      · refine r_iconst hC dX5_firstAbsorbing_7 rfl ?_
        refine r_istore_n hC dX5_firstAbsorbing_8 rfl ?_
        refine r_iconst hC dX5_firstAbsorbing_9 rfl ?_
        refine r_istore_n hC dX5_firstAbsorbing_10 rfl ?_
        have L11 : ∀ (n11 : Nat) (w3 w4 : Int), 0 ≤ w3 ∧ w3 ≤ 4 → 0 ≤ w4 ∧ w4 ≤ 4 → ((w4) = cB (pb 15 σ 1 (w1)) ((w3)).toNat) → ((w4) ≤ (w3)) → 4 - w3 < (n11 : Int) → K 11 [some (vR 2 0), some (vI w1), some (vI w4), some (vI w3)] [] σ := by
          intro n11
          induction n11 with
          | zero => intro w3 w4  f_w3 f_w4 i0_11 i1_11 hm  ; omega
          | succ n11 ih11 =>
            intro w3 w4  f_w3 f_w4 i0_11 i1_11 hm11  
            refine r_iload_n hC dX5_firstAbsorbing_11 rfl ?_
            refine r_iconst hC dX5_firstAbsorbing_12 rfl ?_
            refine r_icmp_ge (tgt := 50) hC dX5_firstAbsorbing_13 rfl (fun h5 => ?_) (fun h5 => ?_)
            · refine r_iload_n hC dX5_firstAbsorbing_50 rfl ?_
              refine r_iconst hC dX5_firstAbsorbing_51 rfl ?_
              refine r_icmp_ne (tgt := 57) hC dX5_firstAbsorbing_52 rfl (fun h6 => ?_) (fun h6 => ?_)
              · refine r_iincE hC ((w1 + 1)) dX5_firstAbsorbing_57 rfl rfl (by omega) (by unfold inR; omega) ?_
                refine r_goto (tgt := 2) hC dX5_firstAbsorbing_60 rfl ?_
                refine r_forget hC (ls2 := [some (vR 2 0), some (vI (w1 + 1)), none, none]) (lsub_some (lsub_some (lsub_none (lsub_none lsub_nil)))) ?_
                exact ih2 ((w1 + 1))  (by omega) (by first | rfl | (rw [fB_n (by omega) (qq_n (cB_at i0_11 (by omega)) (by omega))]; exact i0_2)) (by omega)  
              · refine r_iload_n hC dX5_firstAbsorbing_55 rfl ?_
                refine y_iret hK rfl dX5_firstAbsorbing_56 ?_
                have e := fB_stay (m := (4 : Int).toNat) (fB_new (by omega) i0_2.symm (qq_y (cB_at i0_11 (by omega)) (by omega))) (by omega) (by omega)
                rw [e] at k
                exact k
            · refine r_iload_n hC dX5_firstAbsorbing_16 rfl ?_
              refine r_aload_n hC dX5_firstAbsorbing_17 rfl ?_
              refine r_iload_n hC dX5_firstAbsorbing_18 rfl ?_
              refine r_iload_n hC dX5_firstAbsorbing_19 rfl ?_
              refine z_inv2 hM dX5_firstAbsorbing_20 vl_RX5_90 rfl rfl rfl (Nat.le_of_ble_eq_true rfl) (Nat.le_of_ble_eq_true rfl) ?_
              refine s_productX (by omega) (by omega) (fun h7 => ?_)
              refine r_iload_n hC dX5_firstAbsorbing_23 rfl ?_
              refine r_icmp_ne (tgt := 41) hC dX5_firstAbsorbing_24 rfl (fun h8 => ?_) (fun h8 => ?_)
              · refine r_iconst hC dX5_firstAbsorbing_41 rfl ?_
                refine r_iaddE hC (w4) dX5_firstAbsorbing_42 (by omega) (by unfold inR; omega) ?_
                refine r_istore_n hC dX5_firstAbsorbing_43 rfl ?_
                refine r_iincE hC ((w3 + 1)) dX5_firstAbsorbing_44 rfl rfl (by omega) (by unfold inR; omega) ?_
                refine r_goto (tgt := 11) hC dX5_firstAbsorbing_47 rfl ?_
                exact ih11 ((w3 + 1)) (w4)  (by omega) (by omega) (by first | rfl | (rw [cB_y (by omega) (pb_y (i := w1) rfl (by assumption) (by assumption))]; omega) | (rw [cB_n (by omega) (pb_n1 (i := w1) rfl (by assumption))]; omega) | (rw [cB_n (by omega) (pb_n2 (i := w1) rfl (by assumption))]; omega)) (by omega) (by omega)  
              · refine r_aload_n hC dX5_firstAbsorbing_27 rfl ?_
                refine r_iload_n hC dX5_firstAbsorbing_28 rfl ?_
                refine r_iload_n hC dX5_firstAbsorbing_29 rfl ?_
                refine z_inv2 hM dX5_firstAbsorbing_30 vl_RX5_90 rfl rfl rfl (Nat.le_of_ble_eq_true rfl) (Nat.le_of_ble_eq_true rfl) ?_
                refine s_productX (by omega) (by omega) (fun h9 => ?_)
                refine r_iload_n hC dX5_firstAbsorbing_33 rfl ?_
                refine r_icmp_ne (tgt := 41) hC dX5_firstAbsorbing_34 rfl (fun h10 => ?_) (fun h10 => ?_)
                · refine r_iconst hC dX5_firstAbsorbing_41 rfl ?_
                  refine r_iaddE hC (w4) dX5_firstAbsorbing_42 (by omega) (by unfold inR; omega) ?_
                  refine r_istore_n hC dX5_firstAbsorbing_43 rfl ?_
                  refine r_iincE hC ((w3 + 1)) dX5_firstAbsorbing_44 rfl rfl (by omega) (by unfold inR; omega) ?_
                  refine r_goto (tgt := 11) hC dX5_firstAbsorbing_47 rfl ?_
                  exact ih11 ((w3 + 1)) (w4)  (by omega) (by omega) (by first | rfl | (rw [cB_y (by omega) (pb_y (i := w1) rfl (by assumption) (by assumption))]; omega) | (rw [cB_n (by omega) (pb_n1 (i := w1) rfl (by assumption))]; omega) | (rw [cB_n (by omega) (pb_n2 (i := w1) rfl (by assumption))]; omega)) (by omega) (by omega)  
                · refine r_iconst hC dX5_firstAbsorbing_37 rfl ?_
                  refine r_goto (tgt := 42) hC dX5_firstAbsorbing_38 rfl ?_
                  refine r_iaddE hC ((w4 + 1)) dX5_firstAbsorbing_42 (by omega) (by unfold inR; omega) ?_
                  refine r_istore_n hC dX5_firstAbsorbing_43 rfl ?_
                  refine r_iincE hC ((w3 + 1)) dX5_firstAbsorbing_44 rfl rfl (by omega) (by unfold inR; omega) ?_
                  refine r_goto (tgt := 11) hC dX5_firstAbsorbing_47 rfl ?_
                  exact ih11 ((w3 + 1)) ((w4 + 1))  (by omega) (by omega) (by first | rfl | (rw [cB_y (by omega) (pb_y (i := w1) rfl (by assumption) (by assumption))]; omega) | (rw [cB_n (by omega) (pb_n1 (i := w1) rfl (by assumption))]; omega) | (rw [cB_n (by omega) (pb_n2 (i := w1) rfl (by assumption))]; omega)) (by omega) (by omega)  
        exact L11 6 (0) (0)  (by omega) (by omega) (by first | rfl | (rw [cB_y (by omega) (pb_y (i := w1) rfl (by assumption) (by assumption))]; omega) | (rw [cB_n (by omega) (pb_n1 (i := w1) rfl (by assumption))]; omega) | (rw [cB_n (by omega) (pb_n2 (i := w1) rfl (by assumption))]; omega)) (by omega) (by omega)  
  exact L2 6 (0)  (by omega) (by first | rfl | (rw [fB_n (by omega) (qq_n (cB_at i0_11 (by omega)) (by omega))]; exact i0_2)) (by omega)  
theorem s_idempotentsX {e : Ev} {d : Nat} {P : Option Vl → Mm → Prop} {σ : Mm}   (k : P (some (vI (cB (ip 15 σ) (4 : Int).toNat))) σ) : WT e (d + 2) 55 [vR 2 0] σ P := by
  refine WT_in fun K hK => ?_
  have hK : StpY e cX5_idempotents RX5 (some .int) (WT e (d + 1)) P K := hK
  have hM := hK.1
  have hC := hK.1.1
  show K 0 [some (vR 2 0), none, none] [] σ
  refine r_iconst hC dX5_idempotents_0 rfl ?_
  refine r_istore_n hC dX5_idempotents_1 rfl ?_
  refine r_iconst hC dX5_idempotents_2 rfl ?_
  refine r_istore_n hC dX5_idempotents_3 rfl ?_
  have L4 : ∀ (n4 : Nat) (w1 w2 : Int), 0 ≤ w1 ∧ w1 ≤ 4 → 0 ≤ w2 ∧ w2 ≤ 4 → ((w2) = cB (ip 15 σ) ((w1)).toNat) → ((w2) ≤ (w1)) → 4 - w1 < (n4 : Int) → K 4 [some (vR 2 0), some (vI w2), some (vI w1)] [] σ := by
    intro n4
    induction n4 with
    | zero => intro w1 w2  f_w1 f_w2 i0_4 i1_4 hm  ; omega
    | succ n4 ih4 =>
      intro w1 w2  f_w1 f_w2 i0_4 i1_4 hm4  
      refine r_iload_n hC dX5_idempotents_4 rfl ?_
      refine r_iconst hC dX5_idempotents_5 rfl ?_
      refine r_icmp_ge (tgt := 33) hC dX5_idempotents_6 rfl (fun h3 => ?_) (fun h3 => ?_)
      · refine r_iload_n hC dX5_idempotents_33 rfl ?_
        refine y_iret hK rfl dX5_idempotents_34 ?_
        obtain rfl : w1 = 4 := by omega
        rw [← i0_4] at k
        exact k
      · refine r_iload_n hC dX5_idempotents_9 rfl ?_
        refine r_aload_n hC dX5_idempotents_10 rfl ?_
        refine r_iload_n hC dX5_idempotents_11 rfl ?_
        refine r_iload_n hC dX5_idempotents_12 rfl ?_
        refine z_inv2 hM dX5_idempotents_13 vl_RX5_90 rfl rfl rfl (Nat.le_of_ble_eq_true rfl) (Nat.le_of_ble_eq_true rfl) ?_
        refine s_productX (by omega) (by omega) (fun h4 => ?_)
        refine r_iload_n hC dX5_idempotents_16 rfl ?_
        refine r_icmp_ne (tgt := 24) hC dX5_idempotents_17 rfl (fun h5 => ?_) (fun h5 => ?_)
        · refine r_iconst hC dX5_idempotents_24 rfl ?_
          refine r_iaddE hC (w2) dX5_idempotents_25 (by omega) (by unfold inR; omega) ?_
          refine r_istore_n hC dX5_idempotents_26 rfl ?_
          refine r_iincE hC ((w1 + 1)) dX5_idempotents_27 rfl rfl (by omega) (by unfold inR; omega) ?_
          refine r_goto (tgt := 4) hC dX5_idempotents_30 rfl ?_
          exact ih4 ((w1 + 1)) (w2)  (by omega) (by omega) (by first | rfl | (rw [cB_y (by omega) (ip_y (by assumption))]; omega) | (rw [cB_n (by omega) (ip_n (by assumption))]; omega)) (by omega) (by omega)  
        · refine r_iconst hC dX5_idempotents_20 rfl ?_
          refine r_goto (tgt := 25) hC dX5_idempotents_21 rfl ?_
          refine r_iaddE hC ((w2 + 1)) dX5_idempotents_25 (by omega) (by unfold inR; omega) ?_
          refine r_istore_n hC dX5_idempotents_26 rfl ?_
          refine r_iincE hC ((w1 + 1)) dX5_idempotents_27 rfl rfl (by omega) (by unfold inR; omega) ?_
          refine r_goto (tgt := 4) hC dX5_idempotents_30 rfl ?_
          exact ih4 ((w1 + 1)) ((w2 + 1))  (by omega) (by omega) (by first | rfl | (rw [cB_y (by omega) (ip_y (by assumption))]; omega) | (rw [cB_n (by omega) (ip_n (by assumption))]; omega)) (by omega) (by omega)  
  exact L4 6 (0) (0)  (by omega) (by omega) (by first | rfl | (rw [cB_y (by omega) (ip_y (by assumption))]; omega) | (rw [cB_n (by omega) (ip_n (by assumption))]; omega)) (by omega) (by omega)  
theorem s_commutingX {e : Ev} {d : Nat} {P : Option Vl → Mm → Prop} {σ : Mm}   (k : P (some (vI (cB (cq 15 σ) (16 : Int).toNat))) σ) : WT e (d + 2) 56 [vR 2 0] σ P := by
  refine WT_in fun K hK => ?_
  have hK : StpY e cX5_commutingPairs RX5 (some .int) (WT e (d + 1)) P K := hK
  have hM := hK.1
  have hC := hK.1.1
  show K 0 [some (vR 2 0), none, none, none] [] σ
  refine r_iconst hC dX5_commutingPairs_0 rfl ?_
  refine r_istore_n hC dX5_commutingPairs_1 rfl ?_
  refine r_iconst hC dX5_commutingPairs_2 rfl ?_
  refine r_istore_n hC dX5_commutingPairs_3 rfl ?_
  have L4 : ∀ (n4 : Nat) (w1 w2 : Int), 0 ≤ w1 ∧ w1 ≤ 16 → 0 ≤ w2 ∧ w2 ≤ 4 → ((w1) = cB (cq 15 σ) (4 * (w2)).toNat) → ((w1) ≤ 4 * (w2)) → 4 - w2 < (n4 : Int) → K 4 [some (vR 2 0), some (vI w1), some (vI w2), none] [] σ := by
    intro n4
    induction n4 with
    | zero => intro w1 w2  f_w1 f_w2 i0_4 i1_4 hm  ; omega
    | succ n4 ih4 =>
      intro w1 w2  f_w1 f_w2 i0_4 i1_4 hm4  
      refine r_iload_n hC dX5_commutingPairs_4 rfl ?_
      refine r_iconst hC dX5_commutingPairs_5 rfl ?_
      refine r_icmp_ge (tgt := 51) hC dX5_commutingPairs_6 rfl (fun h3 => ?_) (fun h3 => ?_)
      · refine r_iload_n hC dX5_commutingPairs_51 rfl ?_
        refine y_iret hK rfl dX5_commutingPairs_52 ?_
        obtain rfl : w2 = 4 := by omega
        rw [show (4 * (4 : Int)) = 16 from rfl] at i0_4
        rw [← i0_4] at k
        exact k
      · refine r_iconst hC dX5_commutingPairs_9 rfl ?_
        refine r_istore_n hC dX5_commutingPairs_10 rfl ?_
        have L11 : ∀ (n11 : Nat) (w4 w5 : Int), 0 ≤ w4 ∧ w4 ≤ 4 → 0 ≤ w5 ∧ w5 ≤ 16 → ((w5) = cB (cq 15 σ) (4 * (w2) + (w4)).toNat) → ((w5) ≤ 4 * (w2) + (w4)) → 4 - w4 < (n11 : Int) → K 11 [some (vR 2 0), some (vI w5), some (vI w2), some (vI w4)] [] σ := by
          intro n11
          induction n11 with
          | zero => intro w4 w5  f_w4 f_w5 i0_11 i1_11 hm  ; omega
          | succ n11 ih11 =>
            intro w4 w5  f_w4 f_w5 i0_11 i1_11 hm11  
            refine r_iload_n hC dX5_commutingPairs_11 rfl ?_
            refine r_iconst hC dX5_commutingPairs_12 rfl ?_
            refine r_icmp_ge (tgt := 45) hC dX5_commutingPairs_13 rfl (fun h6 => ?_) (fun h6 => ?_)
            · refine r_iincE hC ((w2 + 1)) dX5_commutingPairs_45 rfl rfl (by omega) (by unfold inR; omega) ?_
              refine r_goto (tgt := 4) hC dX5_commutingPairs_48 rfl ?_
              refine r_forget hC (ls2 := [some (vR 2 0), some (vI w5), some (vI (w2 + 1)), none]) (lsub_some (lsub_some (lsub_some (lsub_none lsub_nil)))) ?_
              exact ih4 (w5) ((w2 + 1))  (by omega) (by omega) (by first | rfl | exact i0_11.trans (congrArg (fun z : Int => cB (cq 15 σ) z.toNat) (by omega))) (by omega) (by omega)  
            · refine r_iload_n hC dX5_commutingPairs_16 rfl ?_
              refine r_aload_n hC dX5_commutingPairs_17 rfl ?_
              refine r_iload_n hC dX5_commutingPairs_18 rfl ?_
              refine r_iload_n hC dX5_commutingPairs_19 rfl ?_
              refine z_inv2 hM dX5_commutingPairs_20 vl_RX5_90 rfl rfl rfl (Nat.le_of_ble_eq_true rfl) (Nat.le_of_ble_eq_true rfl) ?_
              refine s_productX (by omega) (by omega) (fun h7 => ?_)
              refine r_aload_n hC dX5_commutingPairs_23 rfl ?_
              refine r_iload_n hC dX5_commutingPairs_24 rfl ?_
              refine r_iload_n hC dX5_commutingPairs_25 rfl ?_
              refine z_inv2 hM dX5_commutingPairs_26 vl_RX5_90 rfl rfl rfl (Nat.le_of_ble_eq_true rfl) (Nat.le_of_ble_eq_true rfl) ?_
              refine s_productX (by omega) (by omega) (fun h8 => ?_)
              refine r_icmp_ne (tgt := 36) hC dX5_commutingPairs_29 rfl (fun h9 => ?_) (fun h9 => ?_)
              · refine r_iconst hC dX5_commutingPairs_36 rfl ?_
                refine r_iaddE hC (w5) dX5_commutingPairs_37 (by omega) (by unfold inR; omega) ?_
                refine r_istore_n hC dX5_commutingPairs_38 rfl ?_
                refine r_iincE hC ((w4 + 1)) dX5_commutingPairs_39 rfl rfl (by omega) (by unfold inR; omega) ?_
                refine r_goto (tgt := 11) hC dX5_commutingPairs_42 rfl ?_
                exact ih11 ((w4 + 1)) (w5)  (by omega) (by omega) (by first | (rw [Int.add_zero]; exact i0_4) | (rw [show 4 * w2 + (w4 + 1) = 4 * w2 + w4 + 1 from by omega, cB_y (by omega) (cq_y2 (by omega) (by assumption))]; omega) | (rw [show 4 * w2 + (w4 + 1) = 4 * w2 + w4 + 1 from by omega, cB_n (by omega) (cq_n2 (by omega) (by assumption))]; omega)) (by omega) (by omega)  
              · refine r_iconst hC dX5_commutingPairs_32 rfl ?_
                refine r_goto (tgt := 37) hC dX5_commutingPairs_33 rfl ?_
                refine r_iaddE hC ((w5 + 1)) dX5_commutingPairs_37 (by omega) (by unfold inR; omega) ?_
                refine r_istore_n hC dX5_commutingPairs_38 rfl ?_
                refine r_iincE hC ((w4 + 1)) dX5_commutingPairs_39 rfl rfl (by omega) (by unfold inR; omega) ?_
                refine r_goto (tgt := 11) hC dX5_commutingPairs_42 rfl ?_
                exact ih11 ((w4 + 1)) ((w5 + 1))  (by omega) (by omega) (by first | (rw [Int.add_zero]; exact i0_4) | (rw [show 4 * w2 + (w4 + 1) = 4 * w2 + w4 + 1 from by omega, cB_y (by omega) (cq_y2 (by omega) (by assumption))]; omega) | (rw [show 4 * w2 + (w4 + 1) = 4 * w2 + w4 + 1 from by omega, cB_n (by omega) (cq_n2 (by omega) (by assumption))]; omega)) (by omega) (by omega)  
        exact L11 6 (0) (w1)  (by omega) (by omega) (by first | (rw [Int.add_zero]; exact i0_4) | (rw [show 4 * w2 + (w4 + 1) = 4 * w2 + w4 + 1 from by omega, cB_y (by omega) (cq_y2 (by omega) (by assumption))]; omega) | (rw [show 4 * w2 + (w4 + 1) = 4 * w2 + w4 + 1 from by omega, cB_n (by omega) (cq_n2 (by omega) (by assumption))]; omega)) (by omega) (by omega)  
  exact L4 6 (0) (0)  (by omega) (by omega) (by first | rfl | exact i0_11.trans (congrArg (fun z : Int => cB (cq 15 σ) z.toNat) (by omega))) (by omega) (by omega)  
theorem s_elementX {e : Ev} {d : Nat} {P : Option Vl → Mm → Prop} {σ : Mm} {w : Int}   (k : P (some (vI (elF 15 σ w))) σ) : WT e (d + 3) 50 [vR 2 0, vI w] σ P := by
  refine WT_in fun K hK => ?_
  have hK : StpY e cX5_element RX5 (some .int) (WT e (d + 2)) P K := hK
  have hM := hK.1
  have hC := hK.1.1
  show K 0 [some (vR 2 0), some (vI w)] [] σ
  refine r_rngz hC (fun g0 => ?_)
  have r_w : -2147483648 ≤ w ∧ w ≤ 2147483647 := inR_le (g0 (vI w) (by simp))
  refine r_iload_n hC dX5_element_0 rfl ?_
  rcases (by omega : (w < 0 ∨ 3 < w) ∨ w = 0 ∨ w = 1 ∨ w = 2 ∨ w = 3) with h1 | h1 | h1 | h1 | h1
  · refine r_tableOut (tgt := 52) hC dX5_element_1 h1 rfl ?_
    refine r_iconst hC dX5_element_52 rfl ?_
    refine y_iret hK rfl dX5_element_53 ?_
    have e : elF 15 σ w = (-1) := by unfold elF; (repeat' split) <;> first | rfl | omega
    rw [e] at k
    exact k
  · refine r_tableIn (tgt := 32) (off := 31) hC dX5_element_1 (by omega) (by omega) (by rw [h1]; rfl) rfl ?_
    refine r_aload_n hC dX5_element_32 rfl ?_
    refine z_inv0 hM dX5_element_33 vl_RX5_77 rfl rfl rfl (Nat.le_of_ble_eq_true rfl) (Nat.le_of_ble_eq_true rfl) ?_
    refine s_firstNeutralX ?_
    refine y_iret hK rfl dX5_element_36 ?_
    have e : elF 15 σ w = (fB (qq 15 σ 0) (4 : Int).toNat) := by unfold elF; (repeat' split) <;> first | rfl | omega
    rw [e] at k
    exact k
  · refine r_tableIn (tgt := 37) (off := 36) hC dX5_element_1 (by omega) (by omega) (by rw [h1]; rfl) rfl ?_
    refine r_aload_n hC dX5_element_37 rfl ?_
    refine z_inv0 hM dX5_element_38 vl_RX5_81 rfl rfl rfl (Nat.le_of_ble_eq_true rfl) (Nat.le_of_ble_eq_true rfl) ?_
    refine s_firstAbsorbingX ?_
    refine y_iret hK rfl dX5_element_41 ?_
    have e : elF 15 σ w = (fB (qq 15 σ 1) (4 : Int).toNat) := by unfold elF; (repeat' split) <;> first | rfl | omega
    rw [e] at k
    exact k
  · refine r_tableIn (tgt := 42) (off := 41) hC dX5_element_1 (by omega) (by omega) (by rw [h1]; rfl) rfl ?_
    refine r_aload_n hC dX5_element_42 rfl ?_
    refine z_inv0 hM dX5_element_43 vl_RX5_84 rfl rfl rfl (Nat.le_of_ble_eq_true rfl) (Nat.le_of_ble_eq_true rfl) ?_
    refine s_idempotentsX ?_
    refine y_iret hK rfl dX5_element_46 ?_
    have e : elF 15 σ w = (cB (ip 15 σ) (4 : Int).toNat) := by unfold elF; (repeat' split) <;> first | rfl | omega
    rw [e] at k
    exact k
  · refine r_tableIn (tgt := 47) (off := 46) hC dX5_element_1 (by omega) (by omega) (by rw [h1]; rfl) rfl ?_
    refine r_aload_n hC dX5_element_47 rfl ?_
    refine z_inv0 hM dX5_element_48 vl_RX5_87 rfl rfl rfl (Nat.le_of_ble_eq_true rfl) (Nat.le_of_ble_eq_true rfl) ?_
    refine s_commutingX ?_
    refine y_iret hK rfl dX5_element_51 ?_
    have e : elF 15 σ w = (cB (cq 15 σ) (16 : Int).toNat) := by unfold elF; (repeat' split) <;> first | rfl | omega
    rw [e] at k
    exact k
theorem m_isSuchX {e : Ev} {d : Nat} {P : Option Vl → Mm → Prop} {σ : Mm} {e_ w : Int} (b_e_ : 0 ≤ e_ ∧ e_ ≤ 3) (b_w : 0 ≤ w ∧ w ≤ 1)  (k1 : qq 35 σ w e_ = true → P (some (vI 1)) σ) (k0 : ¬ qq 35 σ w e_ = true → P (some (vI 0)) σ) : WT e (d + 2) 150 [vR 30 0, vI e_, vI w] σ P := by
  refine WT_in fun K hK => ?_
  have hK : StpY e cX6_isSuch RX6 (some .boolean) (WT e (d + 1)) P K := hK
  have hM := hK.1
  have hC := hK.1.1
  show K 0 [some (vR 30 0), some (vI e_), some (vI w), none, none] [] σ
  refine r_iconst hC dX6_isSuch_0 rfl ?_
  refine r_istore_n hC dX6_isSuch_1 rfl ?_
  have L2 : ∀ (n2 : Nat) (w1 : Int), 0 ≤ w1 ∧ w1 ≤ 4 → ((w1) = cB (pb 35 σ w e_) ((w1)).toNat) → 4 - w1 < (n2 : Int) → K 2 [some (vR 30 0), some (vI e_), some (vI w), some (vI w1), none] [] σ := by
    intro n2
    induction n2 with
    | zero => intro w1  f_w1 i0_2 hm  ; omega
    | succ n2 ih2 =>
      intro w1  f_w1 i0_2 hm2  
      refine r_iload_n hC dX6_isSuch_2 rfl ?_
      refine r_iconst hC dX6_isSuch_3 rfl ?_
      refine r_icmp_ge (tgt := 48) hC dX6_isSuch_4 rfl (fun h2 => ?_) (fun h2 => ?_)
      · refine r_iconst hC dX6_isSuch_48 rfl ?_
        refine y_zret hK rfl dX6_isSuch_49 (by omega) ?_
        exact k1 (qq_y (cB_at i0_2 (by omega)) (by omega))
      · refine r_iload_n hC dX6_isSuch_7 rfl ?_
        refine r_if_ne (tgt := 15) hC dX6_isSuch_8 rfl (fun h3 => ?_) (fun h3 => ?_)
        · refine r_iload_n hC dX6_isSuch_15 rfl ?_
          refine r_istore hC dX6_isSuch_16 rfl ?_
          refine r_aload_n hC dX6_isSuch_18 rfl ?_
          refine r_iload_n hC dX6_isSuch_19 rfl ?_
          refine r_iload_n hC dX6_isSuch_20 rfl ?_
          refine z_inv2 hM dX6_isSuch_21 vl_RX6_88 rfl rfl rfl (Nat.le_of_ble_eq_true rfl) (Nat.le_of_ble_eq_true rfl) ?_
          refine m_productX (by omega) (by omega) (fun h4 => ?_)
          refine r_iload hC dX6_isSuch_24 rfl ?_
          refine r_icmp_ne (tgt := 40) hC dX6_isSuch_26 rfl (fun h5 => ?_) (fun h5 => ?_)
          · refine r_iconst hC dX6_isSuch_40 rfl ?_
            refine y_zret hK rfl dX6_isSuch_41 (by omega) ?_
            first | exact k0 (qq_no (x := w1) (by omega) (by omega) (pb_n1 (i := e_) (by unfold its; first | exact if_pos (by omega) | exact if_neg (by omega)) (by omega))) | exact k0 (qq_no (x := w1) (by omega) (by omega) (pb_n2 (i := e_) (by unfold its; first | exact if_pos (by omega) | exact if_neg (by omega)) (by omega)))
          · refine r_aload_n hC dX6_isSuch_29 rfl ?_
            refine r_iload_n hC dX6_isSuch_30 rfl ?_
            refine r_iload_n hC dX6_isSuch_31 rfl ?_
            refine z_inv2 hM dX6_isSuch_32 vl_RX6_88 rfl rfl rfl (Nat.le_of_ble_eq_true rfl) (Nat.le_of_ble_eq_true rfl) ?_
            refine m_productX (by omega) (by omega) (fun h6 => ?_)
            refine r_iload hC dX6_isSuch_35 rfl ?_
            refine r_icmp_eq (tgt := 42) hC dX6_isSuch_37 rfl (fun h7 => ?_) (fun h7 => ?_)
            · refine r_iincE hC ((w1 + 1)) dX6_isSuch_42 rfl rfl (by omega) (by unfold inR; omega) ?_
              refine r_goto (tgt := 2) hC dX6_isSuch_45 rfl ?_
              refine r_forget hC (ls2 := [some (vR 30 0), some (vI e_), some (vI w), some (vI (w1 + 1)), none]) (lsub_some (lsub_some (lsub_some (lsub_some (lsub_none lsub_nil))))) ?_
              exact ih2 ((w1 + 1))  (by omega) (by first | rfl | (rw [cB_y (by omega) (pb_y (i := w1) (by unfold its; first | exact if_pos (by omega) | exact if_neg (by omega)) (by omega) (by omega))]; omega) | (rw [cB_y (by omega) (pb_y (i := e_) (by unfold its; first | exact if_pos (by omega) | exact if_neg (by omega)) (by omega) (by omega))]; omega)) (by omega)  
            · refine r_iconst hC dX6_isSuch_40 rfl ?_
              refine y_zret hK rfl dX6_isSuch_41 (by omega) ?_
              first | exact k0 (qq_no (x := w1) (by omega) (by omega) (pb_n1 (i := e_) (by unfold its; first | exact if_pos (by omega) | exact if_neg (by omega)) (by omega))) | exact k0 (qq_no (x := w1) (by omega) (by omega) (pb_n2 (i := e_) (by unfold its; first | exact if_pos (by omega) | exact if_neg (by omega)) (by omega)))
        · refine r_iload_n hC dX6_isSuch_11 rfl ?_
          refine r_goto (tgt := 16) hC dX6_isSuch_12 rfl ?_
          refine r_istore hC dX6_isSuch_16 rfl ?_
          refine r_aload_n hC dX6_isSuch_18 rfl ?_
          refine r_iload_n hC dX6_isSuch_19 rfl ?_
          refine r_iload_n hC dX6_isSuch_20 rfl ?_
          refine z_inv2 hM dX6_isSuch_21 vl_RX6_88 rfl rfl rfl (Nat.le_of_ble_eq_true rfl) (Nat.le_of_ble_eq_true rfl) ?_
          refine m_productX (by omega) (by omega) (fun h8 => ?_)
          refine r_iload hC dX6_isSuch_24 rfl ?_
          refine r_icmp_ne (tgt := 40) hC dX6_isSuch_26 rfl (fun h9 => ?_) (fun h9 => ?_)
          · refine r_iconst hC dX6_isSuch_40 rfl ?_
            refine y_zret hK rfl dX6_isSuch_41 (by omega) ?_
            first | exact k0 (qq_no (x := w1) (by omega) (by omega) (pb_n1 (i := w1) (by unfold its; first | exact if_pos (by omega) | exact if_neg (by omega)) (by omega))) | exact k0 (qq_no (x := w1) (by omega) (by omega) (pb_n2 (i := w1) (by unfold its; first | exact if_pos (by omega) | exact if_neg (by omega)) (by omega)))
          · refine r_aload_n hC dX6_isSuch_29 rfl ?_
            refine r_iload_n hC dX6_isSuch_30 rfl ?_
            refine r_iload_n hC dX6_isSuch_31 rfl ?_
            refine z_inv2 hM dX6_isSuch_32 vl_RX6_88 rfl rfl rfl (Nat.le_of_ble_eq_true rfl) (Nat.le_of_ble_eq_true rfl) ?_
            refine m_productX (by omega) (by omega) (fun h10 => ?_)
            refine r_iload hC dX6_isSuch_35 rfl ?_
            refine r_icmp_eq (tgt := 42) hC dX6_isSuch_37 rfl (fun h11 => ?_) (fun h11 => ?_)
            · refine r_iincE hC ((w1 + 1)) dX6_isSuch_42 rfl rfl (by omega) (by unfold inR; omega) ?_
              refine r_goto (tgt := 2) hC dX6_isSuch_45 rfl ?_
              refine r_forget hC (ls2 := [some (vR 30 0), some (vI e_), some (vI w), some (vI (w1 + 1)), none]) (lsub_some (lsub_some (lsub_some (lsub_some (lsub_none lsub_nil))))) ?_
              exact ih2 ((w1 + 1))  (by omega) (by first | rfl | (rw [cB_y (by omega) (pb_y (i := w1) (by unfold its; first | exact if_pos (by omega) | exact if_neg (by omega)) (by omega) (by omega))]; omega) | (rw [cB_y (by omega) (pb_y (i := e_) (by unfold its; first | exact if_pos (by omega) | exact if_neg (by omega)) (by omega) (by omega))]; omega)) (by omega)  
            · refine r_iconst hC dX6_isSuch_40 rfl ?_
              refine y_zret hK rfl dX6_isSuch_41 (by omega) ?_
              first | exact k0 (qq_no (x := w1) (by omega) (by omega) (pb_n1 (i := w1) (by unfold its; first | exact if_pos (by omega) | exact if_neg (by omega)) (by omega))) | exact k0 (qq_no (x := w1) (by omega) (by omega) (pb_n2 (i := w1) (by unfold its; first | exact if_pos (by omega) | exact if_neg (by omega)) (by omega)))
  exact L2 6 (0)  (by omega) (by first | rfl | (rw [cB_y (by omega) (pb_y (i := w1) (by unfold its; first | exact if_pos (by omega) | exact if_neg (by omega)) (by omega) (by omega))]; omega) | (rw [cB_y (by omega) (pb_y (i := e_) (by unfold its; first | exact if_pos (by omega) | exact if_neg (by omega)) (by omega) (by omega))]; omega)) (by omega)  
theorem m_elementX {e : Ev} {d : Nat} {P : Option Vl → Mm → Prop} {σ : Mm} {w : Int}   (k : P (some (vI (elF 35 σ w))) σ) : WT e (d + 3) 151 [vR 30 0, vI w] σ P := by
  refine WT_in fun K hK => ?_
  have hK : StpY e cX6_element RX6 (some .int) (WT e (d + 2)) P K := hK
  have hM := hK.1
  have hC := hK.1.1
  show K 0 [some (vR 30 0), some (vI w), none, none] [] σ
  refine r_rngz hC (fun g0 => ?_)
  have r_w : -2147483648 ≤ w ∧ w ≤ 2147483647 := inR_le (g0 (vI w) (by simp))
  refine r_iload_n hC dX6_element_0 rfl ?_
  refine r_iconst hC dX6_element_1 rfl ?_
  refine r_iconst hC dX6_element_2 rfl ?_
  refine z_ins3 hM dX6_element_3 tl_RX6_76 rfl (Nat.le_of_ble_eq_true rfl) (Nat.le_of_ble_eq_true rfl) ?_
  refine m_isIn (fun h2 => ?_) (fun h2 => ?_)
  · refine r_if_eq (tgt := 35) hC dX6_element_6 rfl (fun h3 => by omega) (fun h3 => ?_)
    refine r_iconst hC dX6_element_9 rfl ?_
    refine r_istore_n hC dX6_element_10 rfl ?_
    have L11 : ∀ (n11 : Nat) (w4 : Int), 0 ≤ w4 ∧ w4 ≤ 4 → (-1 = fB (qq 35 σ w) ((w4)).toNat) → 4 - w4 < (n11 : Int) → K 11 [some (vR 30 0), some (vI w), some (vI w4), none] [] σ := by
      intro n11
      induction n11 with
      | zero => intro w4  f_w4 i0_11 hm  ; omega
      | succ n11 ih11 =>
        intro w4  f_w4 i0_11 hm11  
        refine r_iload_n hC dX6_element_11 rfl ?_
        refine r_iconst hC dX6_element_12 rfl ?_
        refine r_icmp_ge (tgt := 33) hC dX6_element_13 rfl (fun h5 => ?_) (fun h5 => ?_)
        · refine r_iconst hC dX6_element_33 rfl ?_
          refine y_iret hK rfl dX6_element_34 ?_
          obtain rfl : w4 = 4 := by omega
          have e2 : elF 35 σ w = -1 := by
            unfold elF
            rcases (by omega : w = 0 ∨ w = 1) with rfl | rfl
            · exact i0_11.symm
            · exact i0_11.symm
          rw [e2] at k
          exact k
        · refine r_aload_n hC dX6_element_16 rfl ?_
          refine r_iload_n hC dX6_element_17 rfl ?_
          refine r_iload_n hC dX6_element_18 rfl ?_
          refine z_inv2 hM dX6_element_19 vl_RX6_101 rfl rfl rfl (Nat.le_of_ble_eq_true rfl) (Nat.le_of_ble_eq_true rfl) ?_
          refine m_isSuchX (by omega) (by omega) (fun h6 => ?_) (fun h6 => ?_)
          · refine r_if_eq (tgt := 27) hC dX6_element_22 rfl (fun h7 => by omega) (fun h7 => ?_)
            refine r_iload_n hC dX6_element_25 rfl ?_
            refine y_iret hK rfl dX6_element_26 ?_
            have e := fB_stay (m := (4 : Int).toNat) (fB_new (by omega) i0_11.symm (by assumption)) (by omega) (by omega)
            have e2 : elF 35 σ w = w4 := by
              unfold elF
              rcases (by omega : w = 0 ∨ w = 1) with rfl | rfl
              · exact e
              · exact e
            rw [e2] at k
            exact k
          · refine r_if_eq (tgt := 27) hC dX6_element_22 rfl (fun h8 => ?_) (fun h8 => by omega)
            refine r_iincE hC ((w4 + 1)) dX6_element_27 rfl rfl (by omega) (by unfold inR; omega) ?_
            refine r_goto (tgt := 11) hC dX6_element_30 rfl ?_
            exact ih11 ((w4 + 1))  (by omega) (by first | rfl | (rw [fB_n (by omega) (by assumption)]; exact i0_11)) (by omega)  
    exact L11 6 (0)  (by omega) (by first | rfl | (rw [fB_n (by omega) (by assumption)]; exact i0_11)) (by omega)  
  · refine r_if_eq (tgt := 35) hC dX6_element_6 rfl (fun h9 => ?_) (fun h9 => by omega)
    refine r_iconst hC dX6_element_35 rfl ?_
    refine r_istore_n hC dX6_element_36 rfl ?_
    refine r_iload_n hC dX6_element_37 rfl ?_
    refine r_iconst hC dX6_element_38 rfl ?_
    refine r_icmp_ne (tgt := 75) hC dX6_element_39 rfl (fun h10 => ?_) (fun h10 => ?_)
    · refine r_iload_n hC dX6_element_75 rfl ?_
      refine r_iconst hC dX6_element_76 rfl ?_
      refine r_icmp_eq (tgt := 82) hC dX6_element_77 rfl (fun h11 => ?_) (fun h11 => ?_)
      · refine r_iconst hC dX6_element_82 rfl ?_
        refine r_istore_n hC dX6_element_83 rfl ?_
        have L84 : ∀ (n84 : Nat) (w12 w13 : Int), 0 ≤ w12 ∧ w12 ≤ 16 → 0 ≤ w13 ∧ w13 ≤ 16 → ((w13) = cB (cq 35 σ) ((w12)).toNat) → ((w13) ≤ (w12)) → 16 - w12 < (n84 : Int) → K 84 [some (vR 30 0), some (vI w), some (vI w13), some (vI w12)] [] σ := by
          intro n84
          induction n84 with
          | zero => intro w12 w13  f_w12 f_w13 i0_84 i1_84 hm  ; omega
          | succ n84 ih84 =>
            intro w12 w13  f_w12 f_w13 i0_84 i1_84 hm84  
            refine r_iload_n hC dX6_element_84 rfl ?_
            refine r_bipush hC dX6_element_85 rfl ?_
            refine r_icmp_ge (tgt := 127) hC dX6_element_87 rfl (fun h14 => ?_) (fun h14 => ?_)
            · refine r_iload_n hC dX6_element_127 rfl ?_
              refine y_iret hK rfl dX6_element_128 ?_
              obtain rfl : w12 = 16 := by omega
              obtain rfl : w = 3 := by omega
              have e2 : elF 35 σ 3 = w13 := i0_84.symm
              rw [e2] at k
              exact k
            · refine r_iload_n hC dX6_element_90 rfl ?_
              refine r_aload_n hC dX6_element_91 rfl ?_
              refine r_iload_n hC dX6_element_92 rfl ?_
              refine r_iconst hC dX6_element_93 rfl ?_
              refine r_idivN hC dX6_element_94 (by omega) (by omega) ?_
              refine r_iload_n hC dX6_element_95 rfl ?_
              refine r_iconst hC dX6_element_96 rfl ?_
              refine r_iremN hC dX6_element_97 (by omega) (by omega) ?_
              refine z_inv2 hM dX6_element_98 vl_RX6_88 rfl rfl rfl (Nat.le_of_ble_eq_true rfl) (Nat.le_of_ble_eq_true rfl) ?_
              refine m_productX (by omega) (by omega) (fun h15 => ?_)
              refine r_aload_n hC dX6_element_101 rfl ?_
              refine r_iload_n hC dX6_element_102 rfl ?_
              refine r_iconst hC dX6_element_103 rfl ?_
              refine r_iremN hC dX6_element_104 (by omega) (by omega) ?_
              refine r_iload_n hC dX6_element_105 rfl ?_
              refine r_iconst hC dX6_element_106 rfl ?_
              refine r_idivN hC dX6_element_107 (by omega) (by omega) ?_
              refine z_inv2 hM dX6_element_108 vl_RX6_88 rfl rfl rfl (Nat.le_of_ble_eq_true rfl) (Nat.le_of_ble_eq_true rfl) ?_
              refine m_productX (by omega) (by omega) (fun h16 => ?_)
              refine r_icmp_ne (tgt := 118) hC dX6_element_111 rfl (fun h17 => ?_) (fun h17 => ?_)
              · refine r_iconst hC dX6_element_118 rfl ?_
                refine r_iaddE hC (w13) dX6_element_119 (by omega) (by unfold inR; omega) ?_
                refine r_istore_n hC dX6_element_120 rfl ?_
                refine r_iincE hC ((w12 + 1)) dX6_element_121 rfl rfl (by omega) (by unfold inR; omega) ?_
                refine r_goto (tgt := 84) hC dX6_element_124 rfl ?_
                exact ih84 ((w12 + 1)) (w13)  (by omega) (by omega) (by first | rfl | (rw [cB_y (by omega) (cq_y (by assumption))]; omega) | (rw [cB_n (by omega) (cq_n (by assumption))]; omega)) (by omega) (by omega)  
              · refine r_iconst hC dX6_element_114 rfl ?_
                refine r_goto (tgt := 119) hC dX6_element_115 rfl ?_
                refine r_iaddE hC ((w13 + 1)) dX6_element_119 (by omega) (by unfold inR; omega) ?_
                refine r_istore_n hC dX6_element_120 rfl ?_
                refine r_iincE hC ((w12 + 1)) dX6_element_121 rfl rfl (by omega) (by unfold inR; omega) ?_
                refine r_goto (tgt := 84) hC dX6_element_124 rfl ?_
                exact ih84 ((w12 + 1)) ((w13 + 1))  (by omega) (by omega) (by first | rfl | (rw [cB_y (by omega) (cq_y (by assumption))]; omega) | (rw [cB_n (by omega) (cq_n (by assumption))]; omega)) (by omega) (by omega)  
        exact L84 18 (0) (0)  (by omega) (by omega) (by first | rfl | (rw [cB_y (by omega) (cq_y (by assumption))]; omega) | (rw [cB_n (by omega) (cq_n (by assumption))]; omega)) (by omega) (by omega)  
      · refine r_iconst hC dX6_element_80 rfl ?_
        refine y_iret hK rfl dX6_element_81 ?_
        have e : elF 35 σ w = (-1) := by unfold elF; (repeat' split) <;> first | rfl | omega
        rw [e] at k
        exact k
    · refine r_iconst hC dX6_element_42 rfl ?_
      refine r_istore_n hC dX6_element_43 rfl ?_
      have L44 : ∀ (n44 : Nat) (w18 w19 : Int), 0 ≤ w18 ∧ w18 ≤ 4 → 0 ≤ w19 ∧ w19 ≤ 4 → ((w19) = cB (ip 35 σ) ((w18)).toNat) → ((w19) ≤ (w18)) → 4 - w18 < (n44 : Int) → K 44 [some (vR 30 0), some (vI w), some (vI w19), some (vI w18)] [] σ := by
        intro n44
        induction n44 with
        | zero => intro w18 w19  f_w18 f_w19 i0_44 i1_44 hm  ; omega
        | succ n44 ih44 =>
          intro w18 w19  f_w18 f_w19 i0_44 i1_44 hm44  
          refine r_iload_n hC dX6_element_44 rfl ?_
          refine r_iconst hC dX6_element_45 rfl ?_
          refine r_icmp_ge (tgt := 73) hC dX6_element_46 rfl (fun h20 => ?_) (fun h20 => ?_)
          · refine r_iload_n hC dX6_element_73 rfl ?_
            refine y_iret hK rfl dX6_element_74 ?_
            obtain rfl : w18 = 4 := by omega
            obtain rfl : w = 2 := by omega
            have e2 : elF 35 σ 2 = w19 := i0_44.symm
            rw [e2] at k
            exact k
          · refine r_iload_n hC dX6_element_49 rfl ?_
            refine r_aload_n hC dX6_element_50 rfl ?_
            refine r_iload_n hC dX6_element_51 rfl ?_
            refine r_iload_n hC dX6_element_52 rfl ?_
            refine z_inv2 hM dX6_element_53 vl_RX6_88 rfl rfl rfl (Nat.le_of_ble_eq_true rfl) (Nat.le_of_ble_eq_true rfl) ?_
            refine m_productX (by omega) (by omega) (fun h21 => ?_)
            refine r_iload_n hC dX6_element_56 rfl ?_
            refine r_icmp_ne (tgt := 64) hC dX6_element_57 rfl (fun h22 => ?_) (fun h22 => ?_)
            · refine r_iconst hC dX6_element_64 rfl ?_
              refine r_iaddE hC (w19) dX6_element_65 (by omega) (by unfold inR; omega) ?_
              refine r_istore_n hC dX6_element_66 rfl ?_
              refine r_iincE hC ((w18 + 1)) dX6_element_67 rfl rfl (by omega) (by unfold inR; omega) ?_
              refine r_goto (tgt := 44) hC dX6_element_70 rfl ?_
              exact ih44 ((w18 + 1)) (w19)  (by omega) (by omega) (by first | rfl | (rw [cB_y (by omega) (ip_y (by assumption))]; omega) | (rw [cB_n (by omega) (ip_n (by assumption))]; omega)) (by omega) (by omega)  
            · refine r_iconst hC dX6_element_60 rfl ?_
              refine r_goto (tgt := 65) hC dX6_element_61 rfl ?_
              refine r_iaddE hC ((w19 + 1)) dX6_element_65 (by omega) (by unfold inR; omega) ?_
              refine r_istore_n hC dX6_element_66 rfl ?_
              refine r_iincE hC ((w18 + 1)) dX6_element_67 rfl rfl (by omega) (by unfold inR; omega) ?_
              refine r_goto (tgt := 44) hC dX6_element_70 rfl ?_
              exact ih44 ((w18 + 1)) ((w19 + 1))  (by omega) (by omega) (by first | rfl | (rw [cB_y (by omega) (ip_y (by assumption))]; omega) | (rw [cB_n (by omega) (ip_n (by assumption))]; omega)) (by omega) (by omega)  
      exact L44 6 (0) (0)  (by omega) (by omega) (by first | rfl | (rw [cB_y (by omega) (ip_y (by assumption))]; omega) | (rw [cB_n (by omega) (ip_n (by assumption))]; omega)) (by omega) (by omega)  
