-- B: what the reference's rows become
def ceM (V : Mm) (l a m b : Int) : Mm := mu (mu (mu V 8 m b (V 8 l a)) 9 m b (V 9 l a)) 10 m b (V 10 l a)
def suM (V : Mm) (l a h : Int) : Mm := fun c x y => if x = l ∧ (c = 8 ∨ c = 9 ∨ c = 10) ∧ a < y ∧ y ≤ h then V c l (y - 1) else V c x y
def sdM (V : Mm) (l a h : Int) : Mm := fun c x y => if x = l ∧ (c = 8 ∨ c = 9 ∨ c = 10) ∧ a ≤ y ∧ y < h then V c l (y + 1) else V c x y
theorem suM_0 {V : Mm} {l a h : Int} (q : h ≤ a) : suM V l a h = V := by
  funext c x y
  exact if_neg (by omega)
theorem suM_in {V : Mm} {l a h x y : Int} {c : Nat} (q : x = l ∧ (c = 8 ∨ c = 9 ∨ c = 10) ∧ a < y ∧ y ≤ h) : suM V l a h c x y = V c l (y - 1) := if_pos q
theorem suM_ne {V : Mm} {l a h x y : Int} {c : Nat} (q : ¬ (x = l ∧ (c = 8 ∨ c = 9 ∨ c = 10) ∧ a < y ∧ y ≤ h)) : suM V l a h c x y = V c x y := if_neg q
theorem sdM_0 {V : Mm} {l a h : Int} (q : h ≤ a) : sdM V l a h = V := by
  funext c x y
  exact if_neg (by omega)
theorem sdM_in {V : Mm} {l a h x y : Int} {c : Nat} (q : x = l ∧ (c = 8 ∨ c = 9 ∨ c = 10) ∧ a ≤ y ∧ y < h) : sdM V l a h c x y = V c l (y + 1) := if_pos q
theorem sdM_ne {V : Mm} {l a h x y : Int} {c : Nat} (q : ¬ (x = l ∧ (c = 8 ∨ c = 9 ∨ c = 10) ∧ a ≤ y ∧ y < h)) : sdM V l a h c x y = V c x y := if_neg q
theorem suM_s {V : Mm} {l i h : Int} (hi : i ≤ h) : ceM (suM V l i h) l (i - 1) l i = suM V l (i - 1) h := by
  funext c x y
  unfold ceM
  by_cases e : x = l ∧ y = i ∧ (c = 8 ∨ c = 9 ∨ c = 10)
  · obtain ⟨rfl, rfl, e⟩ := e
    rw [suM_in (h := h) (a := y - 1) ⟨rfl, e, by omega, by omega⟩]
    rcases e with rfl | rfl | rfl
    · rw [mu_ne (by omega), mu_ne (by omega), mu_self, suM_ne (by omega)]
    · rw [mu_ne (by omega), mu_self, suM_ne (by omega)]
    · rw [mu_self, suM_ne (by omega)]
  · rw [mu_ne (by omega), mu_ne (by omega), mu_ne (by omega)]
    by_cases q : x = l ∧ (c = 8 ∨ c = 9 ∨ c = 10) ∧ i < y ∧ y ≤ h
    · rw [suM_in q, suM_in (by omega)]
    · rw [suM_ne q, suM_ne (by omega)]
theorem sdM_s {V : Mm} {l a i h : Int} (ha : a ≤ i) : ceM (sdM V l a i) l (i + 1) l i = sdM V l a (i + 1) := by
  funext c x y
  unfold ceM
  by_cases e : x = l ∧ y = i ∧ (c = 8 ∨ c = 9 ∨ c = 10)
  · obtain ⟨rfl, rfl, e⟩ := e
    rw [sdM_in (h := y + 1) (a := a) ⟨rfl, e, by omega, by omega⟩]
    rcases e with rfl | rfl | rfl
    · rw [mu_ne (by omega), mu_ne (by omega), mu_self, sdM_ne (by omega)]
    · rw [mu_ne (by omega), mu_self, sdM_ne (by omega)]
    · rw [mu_self, sdM_ne (by omega)]
  · rw [mu_ne (by omega), mu_ne (by omega), mu_ne (by omega)]
    by_cases q : x = l ∧ (c = 8 ∨ c = 9 ∨ c = 10) ∧ a ≤ y ∧ y < i
    · rw [sdM_in q, sdM_in (by omega)]
    · rw [sdM_ne q, sdM_ne (by omega)]
/-- in order of the times -/
def So (f : Int → Int) (h : Int) : Prop := ∀ j : Int, 0 ≤ j → j + 1 < h → f j ≤ f (j + 1)
theorem So.le {f : Int → Int} {h : Int} (s : So f h) {i : Int} (h0 : 0 ≤ i) : ∀ n : Nat, i + n < h → f i ≤ f (i + n)
  | 0, _ => by rw [show i + ((0 : Nat) : Int) = i from by omega]; exact Int.le_refl _
  | n + 1, q => by
    have a := s.le h0 n (by omega)
    have b := s (i + n) (by omega) (by omega)
    rw [show i + ((n + 1 : Nat) : Int) = i + n + 1 from by omega]
    omega
theorem So.le2 {f : Int → Int} {h : Int} (s : So f h) {i j : Int} (h0 : 0 ≤ i) (h1 : i ≤ j) (h2 : j < h) : f i ≤ f j := by
  have := s.le h0 (j - i).toNat (by omega)
  rw [show i + ((j - i).toNat : Int) = j from by omega] at this
  exact this
theorem hc_up {f : Int → Int} {t h i : Int} (s : So f h) (h0 : 0 ≤ i) (h1 : i ≤ h) (ha : ∀ j : Int, 0 ≤ j → j < i → f j ≤ t) (he : i = h ∨ t < f i) : hc f t h.toNat = i := by
  have key : ∀ n : Nat, i ≤ (n : Int) → (n : Int) ≤ h → hc f t n = i := fun n => by
    induction n with
    | zero => intro a b; show (0 : Int) = i; omega
    | succ n ih =>
      intro a b
      show (if f n ≤ t then (n : Int) + 1 else hc f t n) = i
      by_cases e : i = ((n + 1 : Nat) : Int)
      · rw [if_pos (ha n (by omega) (by omega))]; omega
      · have hb : t < f n := by
          rcases he with q | q
          · omega
          · have := s.le2 h0 (show i ≤ (n : Int) by omega) (by omega)
            omega
        rw [if_neg (by omega)]
        exact ih (by omega) (by omega)
  exact key h.toNat (by omega) (by omega)
-- B: the reference: LANES read and written
theorem y_of {e : Ev} {d : Nat} {P : Option Vl → Mm → Prop} {σ : Mm} {l f : Int} (b_l : 0 ≤ l ∧ l ≤ 7) (b_f : 0 ≤ f ∧ f ≤ 21) (hf : f ≠ 7 ∧ (f = 21 → 4 ≤ l ∧ l ≤ 6))  (k : Okv 31 (22 * l + f) (σ 31 0 (22 * l + f)) → P (some (vI (σ 31 0 (22 * l + f)))) σ) : WT e (d + 1) 138 [vR 30 0, vI l, vI f] σ P := by
  refine WT_in fun K hK => ?_
  have hK : StpY e cX6_of RX6 (some .int) (WT e (d + 0)) P K := hK
  have hM := hK.1
  have hC := hK.1.1
  show K 0 [some (vR 30 0), some (vI l), some (vI f)] [] σ
  refine r_aload_n hC dX6_of_0 rfl ?_
  refine z_getR hM dX6_of_1 fl_RX6_7 rfl rfl (vld_of (n := 1) rfl (by omega) (by omega)) ?_
  refine r_bipush hC dX6_of_4 rfl ?_
  refine r_iload_n hC dX6_of_6 rfl ?_
  refine r_imulE hC ((22 * l)) dX6_of_7 (by omega) (by unfold inR; omega) ?_
  refine r_iload_n hC dX6_of_8 rfl ?_
  refine r_iaddE hC (((22 * l) + f)) dX6_of_9 (by omega) (by unfold inR; omega) ?_
  refine z_iald hM dX6_of_10 rfl (by omega) (by omega) (fun v1 h_v1 o_v1 t_v1 => ?_)
  have w_v1 := (t_v1 (Or.inl (by simp only [Tb]; omega))).symm
  subst w_v1
  refine y_iret hK rfl dX6_of_11 ?_
  exact k o_v1
theorem y_set {eb ec : Bool} {d : Nat} {P : Option Vl → Mm → Prop} {σ : Mm} {l f v : Int} (b_l : 0 ≤ l ∧ l ≤ 7) (b_f : 0 ≤ f ∧ f ≤ 21) (ho : (f = 5 → 0 ≤ v ∧ v ≤ 121) ∧ (f = 0 → v = 0 ∨ v = 1))  (k : P none (mu σ 31 0 (22 * l + f) v)) : WT (true, eb, ec) (d + 1) 139 [vR 30 0, vI l, vI f, vI v] σ P := by
  refine WT_in fun K hK => ?_
  have hK : StpY (true, eb, ec) cX6_set RX6 (none) (WT (true, eb, ec) (d + 0)) P K := hK
  have hM := hK.1
  have hC := hK.1.1
  show K 0 [some (vR 30 0), some (vI l), some (vI f), some (vI v)] [] σ
  refine r_rngz hC (fun g0 => ?_)
  have r_v : -2147483648 ≤ v ∧ v ≤ 2147483647 := inR_le (g0 (vI v) (by simp))
  refine r_aload_n hC dX6_set_0 rfl ?_
  refine z_getR hM dX6_set_1 fl_RX6_7 rfl rfl (vld_of (n := 1) rfl (by omega) (by omega)) ?_
  refine r_bipush hC dX6_set_4 rfl ?_
  refine r_iload_n hC dX6_set_6 rfl ?_
  refine r_imulE hC ((22 * l)) dX6_set_7 (by omega) (by unfold inR; omega) ?_
  refine r_iload_n hC dX6_set_8 rfl ?_
  refine r_iaddE hC (((22 * l) + f)) dX6_set_9 (by omega) (by unfold inR; omega) ?_
  refine r_iload_n hC dX6_set_10 rfl ?_
  refine z_iastT hM dX6_set_11 rfl (by omega) (by omega) ⟨Or.inl rfl, Or.inr (by simp [DF])⟩ ⟨fun h => by have := ho.1 (by omega); omega, fun h => by have := ho.2 (by omega); omega⟩ ?_
  refine y_vret hK rfl dX6_set_12 ?_
  exact k
theorem y_moreW {eb ec : Bool} {a : Int} {d : Nat} {P : Option Vl → Mm → Prop} {σ : Mm} {l f v : Int} (b_l : 0 ≤ l ∧ l ≤ 7) (b_f : 0 ≤ f ∧ f ≤ 21) (ho : (f = 5 → 0 ≤ wr (a + v) ∧ wr (a + v) ≤ 121) ∧ f ≠ 0) (hq : σ 31 0 (22 * l + f) = a) (hf : f ≠ 7 ∧ (f = 21 → 4 ≤ l ∧ l ≤ 6))  (k : P none (mu σ 31 0 (22 * l + f) (wr (a + v)))) : WT (true, eb, ec) (d + 1) 140 [vR 30 0, vI l, vI f, vI v] σ P := by
  refine WT_in fun K hK => ?_
  have hK : StpY (true, eb, ec) cX6_more RX6 (none) (WT (true, eb, ec) (d + 0)) P K := hK
  have hM := hK.1
  have hC := hK.1.1
  show K 0 [some (vR 30 0), some (vI l), some (vI f), some (vI v)] [] σ
  refine r_rngz hC (fun g0 => ?_)
  have r_v : -2147483648 ≤ v ∧ v ≤ 2147483647 := inR_le (g0 (vI v) (by simp))
  refine r_aload_n hC dX6_more_0 rfl ?_
  refine z_getR hM dX6_more_1 fl_RX6_7 rfl rfl (vld_of (n := 1) rfl (by omega) (by omega)) ?_
  refine r_bipush hC dX6_more_4 rfl ?_
  refine r_iload_n hC dX6_more_6 rfl ?_
  refine r_imulE hC ((22 * l)) dX6_more_7 (by omega) (by unfold inR; omega) ?_
  refine r_iload_n hC dX6_more_8 rfl ?_
  refine r_iaddE hC (((22 * l) + f)) dX6_more_9 (by omega) (by unfold inR; omega) ?_
  refine r_dup2 hC dX6_more_10 rfl rfl ?_
  refine z_iald hM dX6_more_11 rfl (by omega) (by omega) (fun v1 h_v1 o_v1 t_v1 => ?_)
  have w_v1 := ((t_v1 (Or.inl (by simp only [Tb]; omega))).trans hq).symm
  subst w_v1
  refine r_iload_n hC dX6_more_12 rfl ?_
  refine r_iadd hC dX6_more_13 ?_
  have f2 := inR_le (inR_wr (a + v))
  refine z_iastT hM dX6_more_14 rfl (by omega) (by omega) ⟨Or.inl rfl, Or.inr (by simp [DF])⟩ ⟨fun h => by have := ho.1 (by omega); omega, fun h => by have := ho.2 (by omega); omega⟩ ?_
  refine y_vret hK rfl dX6_more_15 ?_
  exact k
theorem y_moreE {eb ec : Bool} {a : Int} {d : Nat} {P : Option Vl → Mm → Prop} {σ : Mm} {l f v : Int} (b_l : 0 ≤ l ∧ l ≤ 7) (b_f : 0 ≤ f ∧ f ≤ 21) (hr : -2147483648 ≤ a + v ∧ a + v ≤ 2147483647) (ho : (f = 5 → 0 ≤ a + v ∧ a + v ≤ 121) ∧ f ≠ 0) (hq : σ 31 0 (22 * l + f) = a) (hf : f ≠ 7 ∧ (f = 21 → 4 ≤ l ∧ l ≤ 6)) (k : P none (mu σ 31 0 (22 * l + f) (a + v))) : WT (true, eb, ec) (d + 1) 140 [vR 30 0, vI l, vI f, vI v] σ P := by
  have e : wr (a + v) = a + v := wr_id ⟨hr.1, by omega⟩
  refine y_moreW b_l b_f (by rw [e]; exact ho) hq hf ?_
  rw [e]
  exact k
theorem y_moreG {eb ec : Bool} {d : Nat} {P : Option Vl → Mm → Prop} {σ : Mm} {l v : Int} (b_l : 0 ≤ l ∧ l ≤ 7)  (k : P none σ) : WT (true, eb, ec) (d + 1) 140 [vR 30 0, vI l, vI 7, vI v] σ P := by
  refine WT_in fun K hK => ?_
  have hK : StpY (true, eb, ec) cX6_more RX6 (none) (WT (true, eb, ec) (d + 0)) P K := hK
  have hM := hK.1
  have hC := hK.1.1
  show K 0 [some (vR 30 0), some (vI l), some (vI 7), some (vI v)] [] σ
  refine r_rngz hC (fun g0 => ?_)
  have r_v : -2147483648 ≤ v ∧ v ≤ 2147483647 := inR_le (g0 (vI v) (by simp))
  refine r_aload_n hC dX6_more_0 rfl ?_
  refine z_getR hM dX6_more_1 fl_RX6_7 rfl rfl (vld_of (n := 1) rfl (by omega) (by omega)) ?_
  refine r_bipush hC dX6_more_4 rfl ?_
  refine r_iload_n hC dX6_more_6 rfl ?_
  refine r_imulE hC ((22 * l)) dX6_more_7 (by omega) (by unfold inR; omega) ?_
  refine r_iload_n hC dX6_more_8 rfl ?_
  refine r_iaddE hC (((22 * l) + 7)) dX6_more_9 (by omega) (by unfold inR; omega) ?_
  refine r_dup2 hC dX6_more_10 rfl rfl ?_
  refine z_iald hM dX6_more_11 rfl (by omega) (by omega) (fun vg h_vg o_vg t_vg => ?_)
  refine r_iload_n hC dX6_more_12 rfl ?_
  refine r_iadd hC dX6_more_13 ?_
  have f1 := inR_le (inR_wr (vg + v))
  refine z_iastU hM dX6_more_14 rfl (by omega) (by omega) ⟨by simp only [Tb]; omega, by simp only [DL]; omega, by simp [DF], Or.inr (by simp [DR]), Or.inr (by simp [DX])⟩ ⟨fun h => by omega, fun h => by omega⟩ ?_
  refine y_vret hK rfl dX6_more_15 ?_
  exact k
theorem y_heldOf {e : Ev} {d : Nat} {P : Option Vl → Mm → Prop} {σ : Mm} {l : Int} (b_l : 0 ≤ l ∧ l ≤ 7)  (k : Okv 31 (22 * l + 5) (σ 31 0 (22 * l + 5)) → P (some (vI (σ 31 0 (22 * l + 5)))) σ) : WT e (d + 2) 141 [vR 30 0, vI l] σ P := by
  refine WT_in fun K hK => ?_
  have hK : StpY e cX6_heldOf RX6 (some .int) (WT e (d + 1)) P K := hK
  have hM := hK.1
  have hC := hK.1.1
  show K 0 [some (vR 30 0), some (vI l)] [] σ
  refine r_aload_n hC dX6_heldOf_0 rfl ?_
  refine r_iload_n hC dX6_heldOf_1 rfl ?_
  refine r_iconst hC dX6_heldOf_2 rfl ?_
  refine z_inv2 hM dX6_heldOf_3 vl_RX6_80 rfl rfl rfl (Nat.le_of_ble_eq_true rfl) (Nat.le_of_ble_eq_true rfl) ?_
  refine y_of (by omega) (by omega) (by omega) (fun oo => ?_)
  refine y_iret hK rfl dX6_heldOf_6 ?_
  exact k oo
theorem y_placeOf {eb : Bool} {t : Int} {V : Mm} {d : Nat} {P : Option Vl → Mm → Prop} {σ : Mm} {l z : Int} (b_l : 0 ≤ l ∧ l ≤ 7) {σ0 : Mm} (ht : 6 ≤ t ∧ t ≤ 7) (hR : RS t σ0 V σ) (hl : l ≤ t) (hs : So (V 8 l) (V 7 l 6)) (h6 : 0 ≤ V 7 l 6 ∧ V 7 l 6 ≤ 121)  (k : 0 ≤ hU V l z ∧ hU V l z ≤ V 7 l 6 → P (some (vI (hU V l z))) σ) : WT (true, eb, true) (d + 3) 191 [vR 30 0, vI l, vI z] σ P := by
  refine WT_in fun K hK => ?_
  have hK : StpY (true, eb, true) cX6_placeOf RX6 (some .int) (WT (true, eb, true) (d + 2)) P K := hK
  have hM := hK.1
  have hC := hK.1.1
  show K 0 [some (vR 30 0), some (vI l), some (vI z), none] [] σ
  refine r_rngz hC (fun g0 => ?_)
  have r_z : -2147483648 ≤ z ∧ z ≤ 2147483647 := inR_le (g0 (vI z) (by simp))
  refine r_iconst hC dX6_placeOf_0 rfl ?_
  refine r_istore_n hC dX6_placeOf_1 rfl ?_
  have L2 : ∀ (n2 : Nat) (w1 : Int), 0 ≤ w1 ∧ w1 ≤ 121 → ((w1) ≤ V 7 l 6) → (∀ j : Int, 0 ≤ j → j < (w1) → V 8 l j ≤ z) → 121 - w1 < (n2 : Int) → K 2 [some (vR 30 0), some (vI l), some (vI z), some (vI w1)] [] σ := by
    intro n2
    induction n2 with
    | zero => intro w1  f_w1 i0_2 i1_2 hm  ; omega
    | succ n2 ih2 =>
      intro w1  f_w1 i0_2 i1_2 hm2  
      refine r_iload_n hC dX6_placeOf_2 rfl ?_
      refine r_aload_n hC dX6_placeOf_3 rfl ?_
      refine r_iload_n hC dX6_placeOf_4 rfl ?_
      refine z_inv1 hM dX6_placeOf_5 vl_RX6_116 rfl rfl rfl (Nat.le_of_ble_eq_true rfl) (Nat.le_of_ble_eq_true rfl) ?_
      refine y_heldOf (by omega) (fun o2 => ?_)
      have e3 : σ 31 0 (22 * l + 5) = (V 7 l 6) := (hR.1.a7 (s := 6) (f := 5) (by omega) (by omega) (by omega)).trans (rfl)
      rw [e3] at o2 ⊢
      have qo2 : 0 ≤ (V 7 l 6) ∧ (V 7 l 6) ≤ 121 := o2.1 (by omega)
      refine r_icmp_ge (tgt := 32) hC dX6_placeOf_8 rfl (fun h4 => ?_) (fun h4 => ?_)
      · refine r_iload_n hC dX6_placeOf_32 rfl ?_
        refine y_iret hK rfl dX6_placeOf_33 ?_
        have hv : hU V l z = w1 := hc_up hs (by omega) (by omega) i1_2 (by omega)
        have hb := hU_b (V := V) (i := l) (t := z) (by omega)
        rw [hv] at k hb
        exact k hb
      · refine r_aload_n hC dX6_placeOf_11 rfl ?_
        refine z_getR hM dX6_placeOf_12 fl_RX6_13 rfl rfl (vld_of (n := 1) rfl (by omega) (by omega)) ?_
        refine r_bipush hC dX6_placeOf_15 rfl ?_
        refine r_iload_n hC dX6_placeOf_17 rfl ?_
        refine r_imulE hC ((121 * l)) dX6_placeOf_18 (by omega) (by unfold inR; omega) ?_
        refine r_iload_n hC dX6_placeOf_19 rfl ?_
        refine r_iaddE hC (((121 * l) + w1)) dX6_placeOf_20 (by omega) (by unfold inR; omega) ?_
        refine z_iald hM dX6_placeOf_21 rfl (by omega) (by omega) (fun v5 h_v5 o_v5 t_v5 => ?_)
        have w_v5 := ((t_v5 (Or.inl trivial)).trans ((show σ 32 0 ((121 * l) + w1) = V 8 l w1 from by rw [show ((121 * l) + w1) = 121 * l + w1 from by omega]; exact hR.1.a8 (y := w1) (by omega) (by omega) (by omega) (by omega)).trans (rfl))).symm
        subst w_v5
        refine r_iload_n hC dX6_placeOf_22 rfl ?_
        refine r_icmp_gt (tgt := 32) hC dX6_placeOf_23 rfl (fun h6 => ?_) (fun h6 => ?_)
        · refine r_iload_n hC dX6_placeOf_32 rfl ?_
          refine y_iret hK rfl dX6_placeOf_33 ?_
          have hv : hU V l z = w1 := hc_up hs (by omega) (by omega) i1_2 (by omega)
          have hb := hU_b (V := V) (i := l) (t := z) (by omega)
          rw [hv] at k hb
          exact k hb
        · refine r_iincE hC ((w1 + 1)) dX6_placeOf_26 rfl rfl (by omega) (by unfold inR; omega) ?_
          refine r_goto (tgt := 2) hC dX6_placeOf_29 rfl ?_
          exact ih2 ((w1 + 1))  (by omega) (by omega) (by first | (intro j h0 h1; omega) | (intro j h0 h1; rcases (by omega : j < w1 ∨ j = w1) with h | h; exact i1_2 j h0 h; subst h; omega)) (by omega)  
  exact L2 123 (0)  (by omega) (by omega) (by first | (intro j h0 h1; omega) | (intro j h0 h1; rcases (by omega : j < w1 ∨ j = w1) with h | h; exact i1_2 j h0 h; subst h; omega)) (by omega)  
theorem y_copyEvent {eb : Bool} {t : Int} {V : Mm} {d : Nat} {P : Option Vl → Mm → Prop} {σ : Mm} {i z : Int} (b_i : 0 ≤ i ∧ i ≤ 967) (b_z : 0 ≤ z ∧ z ≤ 967) {l a m b : Int} {σ0 : Mm} (ht : 6 ≤ t ∧ t ≤ 7) (hR : RS t σ0 V σ) (hl : 0 ≤ l ∧ l ≤ t) (hm : 0 ≤ m ∧ m ≤ t) (ha : 0 ≤ a ∧ a ≤ 120) (hb : 0 ≤ b ∧ b ≤ 120) (hi : i = 121 * l + a) (hz : z = 121 * m + b)  (k : ∀ ρ : Mm, RS t σ0 (ceM V l a m b) ρ → P none ρ) : WT (true, eb, true) (d + 1) 190 [vR 30 0, vI i, vI z] σ P := by
  refine WT_in fun K hK => ?_
  have hK : StpY (true, eb, true) cX6_copyEvent RX6 (none) (WT (true, eb, true) (d + 0)) P K := hK
  have hM := hK.1
  have hC := hK.1.1
  show K 0 [some (vR 30 0), some (vI i), some (vI z)] [] σ
  refine r_aload_n hC dX6_copyEvent_0 rfl ?_
  refine z_getR hM dX6_copyEvent_1 fl_RX6_13 rfl rfl (vld_of (n := 1) rfl (by omega) (by omega)) ?_
  refine r_iload_n hC dX6_copyEvent_4 rfl ?_
  refine r_aload_n hC dX6_copyEvent_5 rfl ?_
  refine z_getR hM dX6_copyEvent_6 fl_RX6_13 rfl rfl (vld_of (n := 1) rfl (by omega) (by omega)) ?_
  refine r_iload_n hC dX6_copyEvent_9 rfl ?_
  refine z_iald hM dX6_copyEvent_10 rfl (by omega) (by omega) (fun v1 h_v1 o_v1 t_v1 => ?_)
  have w_v1 := ((t_v1 (Or.inl trivial)).trans ((show σ 32 0 i = V 8 l a from by rw [show i = 121 * l + a from by omega]; exact hR.1.a8 (y := a) (by omega) (by omega) (by omega) (by omega)).trans (rfl))).symm
  subst w_v1
  refine z_iastT hM dX6_copyEvent_11 rfl (by omega) (by omega) ⟨Or.inr (by simp [DL]), Or.inr (by simp [DF])⟩ (by first | trivial | (simp only [Okv]; omega) | (simp [Okv]; try omega)) ?_
  obtain ⟨ρ2, e_ρ2⟩ : ∃ zz_, zz_ = mu σ 32 0 z (V 8 l a) := ⟨_, rfl⟩
  rw [← e_ρ2]
  have Sρ2 : SB t σ0 (mu V 8 m b (V 8 l a)) ρ2 := by rw [e_ρ2, show z = 121 * m + b from by omega]; exact hR.1.p8 (by omega) (by omega) (by omega) (by omega)
  have Kρ2 : KF t (mu V 8 m b (V 8 l a)) ρ2 := by rw [e_ρ2]; exact (hR.2.1).e (fun l a b => ⟨mu_ne (by omega), mu_ne (by omega)⟩) |>.v (fun l => mu_ne (by omega))
  have Fρ2 : FB (mu V 8 m b (V 8 l a)) ρ2 := by rw [e_ρ2]; exact (hR.2.2).e (fun l a b => mu_ne (by omega)) |>.v (fun l y a b c => mu_ne (by omega))
  refine r_aload_n hC dX6_copyEvent_12 rfl ?_
  refine z_getR hM dX6_copyEvent_13 fl_RX6_16 rfl rfl (vld_of (n := 1) rfl (by omega) (by omega)) ?_
  refine r_iload_n hC dX6_copyEvent_16 rfl ?_
  refine r_aload_n hC dX6_copyEvent_17 rfl ?_
  refine z_getR hM dX6_copyEvent_18 fl_RX6_16 rfl rfl (vld_of (n := 1) rfl (by omega) (by omega)) ?_
  refine r_iload_n hC dX6_copyEvent_21 rfl ?_
  refine z_iald hM dX6_copyEvent_22 rfl (by omega) (by omega) (fun v3 h_v3 o_v3 t_v3 => ?_)
  have w_v3 := ((t_v3 (Or.inl trivial)).trans ((show ρ2 33 0 i = (mu V 8 m b (V 8 l a)) 9 l a from by rw [show i = 121 * l + a from by omega]; exact Sρ2.a9 (y := a) (by omega) (by omega) (by omega) (by omega)).trans ((mu_ne (by omega)).trans (rfl)))).symm
  subst w_v3
  have q_v3 : -1000 ≤ (V 9 l a) ∧ (V 9 l a) ≤ 1000 := o_v3
  refine z_iastT hM dX6_copyEvent_23 rfl (by omega) (by omega) ⟨Or.inr (by simp [DL]), Or.inr (by simp [DF])⟩ (by first | trivial | (simp only [Okv]; omega) | (simp [Okv]; try omega)) ?_
  obtain ⟨ρ4, e_ρ4⟩ : ∃ zz_, zz_ = mu ρ2 33 0 z (V 9 l a) := ⟨_, rfl⟩
  rw [← e_ρ4]
  have Sρ4 : SB t σ0 (mu (mu V 8 m b (V 8 l a)) 9 m b (V 9 l a)) ρ4 := by rw [e_ρ4, show z = 121 * m + b from by omega]; exact Sρ2.p9 (by omega) (by omega) (by omega) (by omega)
  have Kρ4 : KF t (mu (mu V 8 m b (V 8 l a)) 9 m b (V 9 l a)) ρ4 := by rw [e_ρ4]; exact (Kρ2).e (fun l a b => ⟨mu_ne (by omega), mu_ne (by omega)⟩) |>.v (fun l => mu_ne (by omega))
  have Fρ4 : FB (mu (mu V 8 m b (V 8 l a)) 9 m b (V 9 l a)) ρ4 := by rw [e_ρ4]; exact (Fρ2).e (fun l a b => mu_ne (by omega)) |>.v (fun l y a b c => mu_ne (by omega))
  refine r_aload_n hC dX6_copyEvent_24 rfl ?_
  refine z_getR hM dX6_copyEvent_25 fl_RX6_19 rfl rfl (vld_of (n := 1) rfl (by omega) (by omega)) ?_
  refine r_iload_n hC dX6_copyEvent_28 rfl ?_
  refine r_aload_n hC dX6_copyEvent_29 rfl ?_
  refine z_getR hM dX6_copyEvent_30 fl_RX6_19 rfl rfl (vld_of (n := 1) rfl (by omega) (by omega)) ?_
  refine r_iload_n hC dX6_copyEvent_33 rfl ?_
  refine z_iald hM dX6_copyEvent_34 rfl (by omega) (by omega) (fun v5 h_v5 o_v5 t_v5 => ?_)
  have w_v5 := ((t_v5 (Or.inl trivial)).trans ((show ρ4 34 0 i = (mu (mu V 8 m b (V 8 l a)) 9 m b (V 9 l a)) 10 l a from by rw [show i = 121 * l + a from by omega]; exact Sρ4.a10 (y := a) (by omega) (by omega) (by omega) (by omega)).trans ((mu_ne (by omega)).trans ((mu_ne (by omega)).trans (rfl))))).symm
  subst w_v5
  refine z_iastT hM dX6_copyEvent_35 rfl (by omega) (by omega) ⟨Or.inr (by simp [DL]), Or.inr (by simp [DF])⟩ (by first | trivial | (simp only [Okv]; omega) | (simp [Okv]; try omega)) ?_
  obtain ⟨ρ6, e_ρ6⟩ : ∃ zz_, zz_ = mu ρ4 34 0 z (V 10 l a) := ⟨_, rfl⟩
  rw [← e_ρ6]
  have Sρ6 : SB t σ0 (mu (mu (mu V 8 m b (V 8 l a)) 9 m b (V 9 l a)) 10 m b (V 10 l a)) ρ6 := by rw [e_ρ6, show z = 121 * m + b from by omega]; exact Sρ4.p10 (by omega) (by omega) (by omega) (by omega)
  have Kρ6 : KF t (mu (mu (mu V 8 m b (V 8 l a)) 9 m b (V 9 l a)) 10 m b (V 10 l a)) ρ6 := by rw [e_ρ6]; exact (Kρ4).e (fun l a b => ⟨mu_ne (by omega), mu_ne (by omega)⟩) |>.v (fun l => mu_ne (by omega))
  have Fρ6 : FB (mu (mu (mu V 8 m b (V 8 l a)) 9 m b (V 9 l a)) 10 m b (V 10 l a)) ρ6 := by rw [e_ρ6]; exact (Fρ4).e (fun l a b => mu_ne (by omega)) |>.v (fun l y a b c => mu_ne (by omega))
  refine y_vret hK rfl dX6_copyEvent_36 ?_
  exact k _ ⟨Sρ6, Kρ6, Fρ6⟩
-- B: the reference's steps, in the class's words
/-- as KF, but for one LANE -/
def KX (t l : Int) (V ρ : Mm) : Prop := ∀ m : Int, 0 ≤ m → m ≤ t → m ≠ l → ρ 31 0 (22 * m + 16) = (if V 11 m 3 = 0 then 0 else 1) ∧ ρ 31 0 (22 * m + 17) = 0
theorem KF.kx {t : Int} {V ρ : Mm} (h : KF t V ρ) (l : Int) : KX t l V ρ := fun m a b _ => h m a b
theorem KX.kf {t l : Int} {V ρ : Mm} (h : KX t l V ρ) (h16 : ρ 31 0 (22 * l + 16) = (if V 11 l 3 = 0 then 0 else 1)) (h17 : ρ 31 0 (22 * l + 17) = 0) : KF t V ρ := fun m a b => by
  by_cases e : m = l
  · subst e; exact ⟨h16, h17⟩
  · exact h m a b e
theorem KX.e {t l : Int} {V W ρ ρ2 : Mm} (h : KX t l V ρ) (e : ∀ m : Int, 0 ≤ m → m ≤ t → m ≠ l → ρ2 31 0 (22 * m + 16) = ρ 31 0 (22 * m + 16) ∧ ρ2 31 0 (22 * m + 17) = ρ 31 0 (22 * m + 17)) (ev : ∀ m : Int, m ≠ l → W 11 m 3 = V 11 m 3) : KX t l W ρ2 := fun m a b c => by rw [(e m a b c).1, (e m a b c).2, ev m c]; exact h m a b c
theorem rem_sd {V : Mm} {l a : Int} : remM V l a = mu (sdM V l a (V 7 l 6 - 1)) 7 l 6 (V 7 l 6 - 1) := by
  funext c x y
  unfold remM remR
  by_cases hx : x = l
  · subst hx
    rw [if_pos rfl]
    by_cases h : c = 8 ∨ c = 9 ∨ c = 10
    · rw [if_pos h, mu_ne (by omega)]
      by_cases e : a ≤ y ∧ y < V 7 x 6 - 1
      · rw [if_pos e, sdM_in ⟨rfl, h, e⟩]
      · rw [if_neg e, sdM_ne (fun q => e q.2.2)]
    · rw [if_neg h]
      by_cases e : c = 7 ∧ y = 6
      · obtain ⟨rfl, rfl⟩ := e
        rw [if_pos ⟨rfl, rfl⟩, mu_self]
      · rw [if_neg e, mu_ne (by omega), sdM_ne (fun q => h q.2.1)]
  · rw [if_neg hx, mu_ne (by omega), sdM_ne (fun q => hx q.1)]
theorem ins_su {V : Mm} {l a t v z : Int} (ha : 0 ≤ a ∧ a ≤ V 7 l 6) : insM V l a t v = mu (mu (mu (mu (mu (mu (mu (suM V l a (V 7 l 6)) 8 l a t) 9 l a v) 10 l a (V 7 l 12)) 7 l 6 (V 7 l 6 + 1)) 7 l 12 (wr (V 7 l 12 + 1))) 7 l 14 (V 7 l 6 - a)) 7 l 10 (max (V 7 l 10) t) := by
  funext c x y
  by_cases hx : x = l
  · subst hx
    unfold insM insR
    rw [if_pos rfl]
    by_cases h7 : c = 7
    · subst h7
      rw [if_neg (by omega), if_neg (by omega), if_neg (by omega), if_pos rfl]
      by_cases e6 : y = 6
      · subst e6
        rw [if_pos rfl, mu_ne (by omega), mu_ne (by omega), mu_ne (by omega), mu_self]
      rw [if_neg e6]
      by_cases e12 : y = 12
      · subst e12
        rw [if_pos rfl, mu_ne (by omega), mu_ne (by omega), mu_self]
      rw [if_neg e12]
      by_cases e10 : y = 10
      · subst e10
        rw [if_pos rfl, mu_self]
      rw [if_neg e10]
      by_cases e14 : y = 14
      · subst e14
        rw [if_pos rfl, mu_ne (by omega), mu_self]
      · rw [if_neg e14, mu_ne (by omega), mu_ne (by omega), mu_ne (by omega), mu_ne (by omega), mu_ne (by omega), mu_ne (by omega), mu_ne (by omega), suM_ne (by omega)]
    · rw [mu_ne (by omega), mu_ne (by omega), mu_ne (by omega), mu_ne (by omega)]
      by_cases ey : y = a
      · subst ey
        by_cases h8 : c = 8
        · subst h8; rw [if_pos rfl, if_pos rfl, mu_ne (by omega), mu_ne (by omega), mu_self]
        by_cases h9 : c = 9
        · subst h9; rw [if_neg h8, if_pos rfl, if_pos rfl, mu_ne (by omega), mu_self]
        by_cases h10 : c = 10
        · subst h10; rw [if_neg h8, if_neg h9, if_pos rfl, if_pos rfl, mu_self]
        · rw [if_neg h8, if_neg h9, if_neg h10, if_neg h7, mu_ne (by omega), mu_ne (by omega), mu_ne (by omega), suM_ne (by omega)]
      · rw [mu_ne (by omega), mu_ne (by omega), mu_ne (by omega)]
        by_cases e : a < y ∧ y ≤ V 7 x 6
        · by_cases h8 : c = 8
          · subst h8; rw [if_pos rfl, if_neg ey, if_pos e, suM_in (by omega)]
          by_cases h9 : c = 9
          · subst h9; rw [if_neg h8, if_pos rfl, if_neg ey, if_pos e, suM_in (by omega)]
          by_cases h10 : c = 10
          · subst h10; rw [if_neg h8, if_neg h9, if_pos rfl, if_neg ey, if_pos e, suM_in (by omega)]
          · rw [if_neg h8, if_neg h9, if_neg h10, if_neg h7, suM_ne (by omega)]
        · rw [suM_ne (by omega)]
          by_cases h8 : c = 8
          · subst h8; rw [if_pos rfl, if_neg ey, if_neg e]
          by_cases h9 : c = 9
          · subst h9; rw [if_neg h8, if_pos rfl, if_neg ey, if_neg e]
          by_cases h10 : c = 10
          · subst h10; rw [if_neg h8, if_neg h9, if_pos rfl, if_neg ey, if_neg e]
          · rw [if_neg h8, if_neg h9, if_neg h10, if_neg h7]
  · unfold insM
    rw [if_neg hx, mu_ne (by omega), mu_ne (by omega), mu_ne (by omega), mu_ne (by omega), mu_ne (by omega), mu_ne (by omega), mu_ne (by omega), suM_ne (by omega)]
theorem mu_same {V : Mm} {c : Nat} {x y a : Int} (h : V c x y = a) : mu V c x y a = V := by
  funext c2 x2 y2
  by_cases e : c2 = c ∧ x2 = x ∧ y2 = y
  · obtain ⟨rfl, rfl, rfl⟩ := e
    rw [mu_self, h]
  · rw [mu_ne e]
/-- a WATCH looked at -/
theorem noM_1 {V : Mm} {w t : Int} (h : V 12 w 3 = 0) : noM V w 1 t = mu (mu (mu V 12 w 4 (wr (V 12 w 4 + 1))) 12 w 5 t) 12 w 3 1 :=
  noM_eq (fun c x y q => by rw [mu_ne (by omega), mu_ne (by omega), mu_ne (by omega)]) (by rw [mu_self]) (by rw [mu_ne (by omega), mu_ne (by omega), mu_self, if_pos ⟨rfl, h⟩]) (by rw [mu_ne (by omega), mu_self, if_pos ⟨rfl, h⟩])
theorem noM_0 {V : Mm} {w z t : Int} (h : ¬ (z = 1 ∧ V 12 w 3 = 0)) : noM V w z t = mu V 12 w 3 z :=
  noM_eq (fun c x y q => by rw [mu_ne (by omega)]) (by rw [mu_self]) (by rw [mu_ne (by omega), if_neg h]) (by rw [mu_ne (by omega), if_neg h])
theorem rgK_nf {V : Mm} {i w : Int} (h : V 12 w 0 ≠ i) : rgK V i (w + 1) = rgK V i w := by
  funext c x y
  exact rgK_no h c x y
theorem rgK_ne {V : Mm} {i n x y : Int} {c : Nat} (h : ¬ (c = 12 ∧ 3 ≤ y ∧ y ≤ 5)) : rgK V i n c x y = V c x y := by
  unfold rgK
  split
  · rename_i q
    rw [if_neg (by omega), if_neg (by omega), if_neg (by omega), q.1]
  · rfl
theorem rgK_yf {V : Mm} {i w : Int} (h0 : 0 ≤ w) (h : V 12 w 0 = i) : noM (rgK V i w) w (isR V i w) (V 7 i 10) = rgK V i (w + 1) := by
  funext c x y
  by_cases hc : c = 12
  · subst hc
    exact rgK_yes h0 h (fun _ _ => rfl) rfl rfl x y
  · rw [noM_ne (by omega), rgK_ne (by omega), rgK_ne (by omega)]
theorem rgK_0f {V : Mm} {i : Int} : rgK V i 0 = V := by
  funext c x y
  exact rgK_0 rfl c x y
theorem isR_rc {V : Mm} {l w : Int} : isR V l w = rc1 V l (V 12 w 1) (V 12 w 2) := rfl
theorem rc1_g {V W : Mm} {l w b : Int} (h16 : W 16 0 = V 16 0) (h15 : W 15 0 = V 15 0) (h7 : ∀ y : Int, W 7 l y = V 7 l y) (h9 : W 9 l = V 9 l) : rc1 W l w b = rc1 V l w b := by
  unfold rc1 nmV
  rw [h16, h15, h9, h7, h7]
-- B: the reference: shifts, FLIPS
theorem y_shiftUp {eb : Bool} {t : Int} {V : Mm} {d : Nat} {P : Option Vl → Mm → Prop} {σ : Mm} {l f : Int} (b_l : 0 ≤ l ∧ l ≤ 7) (b_f : 0 ≤ f ∧ f ≤ 120) {σ0 : Mm} (ht : 6 ≤ t ∧ t ≤ 7) (hR : RS t σ0 V σ) (hl : l ≤ t) (h6 : 0 ≤ V 7 l 6 ∧ V 7 l 6 ≤ 120) (hf : f ≤ V 7 l 6)  (k : ∀ ρ : Mm, RS t σ0 (suM V l f (V 7 l 6)) ρ → P none ρ) : WT (true, eb, true) (d + 3) 189 [vR 30 0, vI l, vI f, vI 1] σ P := by
  refine WT_in fun K hK => ?_
  have hK : StpY (true, eb, true) cX6_shift RX6 (none) (WT (true, eb, true) (d + 2)) P K := hK
  have hM := hK.1
  have hC := hK.1.1
  show K 0 [some (vR 30 0), some (vI l), some (vI f), some (vI 1), none, none] [] σ
  refine r_bipush hC dX6_shift_0 rfl ?_
  refine r_iload_n hC dX6_shift_2 rfl ?_
  refine r_imulE hC ((121 * l)) dX6_shift_3 (by omega) (by unfold inR; omega) ?_
  refine r_istore hC dX6_shift_4 rfl ?_
  refine r_iload_n hC dX6_shift_6 rfl ?_
  refine r_if_eq (tgt := 48) hC dX6_shift_7 rfl (fun h1 => by omega) (fun h1 => ?_)
  refine r_iload hC dX6_shift_10 rfl ?_
  refine r_aload_n hC dX6_shift_12 rfl ?_
  refine r_iload_n hC dX6_shift_13 rfl ?_
  refine z_inv1 hM dX6_shift_14 vl_RX6_116 rfl rfl rfl (Nat.le_of_ble_eq_true rfl) (Nat.le_of_ble_eq_true rfl) ?_
  refine y_heldOf (by omega) (fun o2 => ?_)
  have e3 : σ 31 0 (22 * l + 5) = (V 7 l 6) := (hR.1.a7 (s := 6) (f := 5) (by omega) (by omega) (by omega)).trans (rfl)
  rw [e3] at o2 ⊢
  have qo2 : 0 ≤ (V 7 l 6) ∧ (V 7 l 6) ≤ 121 := o2.1 (by omega)
  refine r_iaddE hC (((121 * l) + (V 7 l 6))) dX6_shift_17 (by omega) (by unfold inR; omega) ?_
  refine r_istore hC dX6_shift_18 rfl ?_
  have L20 : ∀ (n20 : Nat) (w4 : Int) (ρ5 W5 : Mm), 0 ≤ w4 ∧ w4 ≤ 968 → (121 * l + f ≤ (w4)) → ((w4) ≤ 121 * l + V 7 l 6) → w4 < (n20 : Int) → (RS t σ0 W5 ρ5) → (W5 = suM V l ((w4) - 121 * l) (V 7 l 6)) → K 20 [some (vR 30 0), some (vI l), some (vI f), some (vI 1), some (vI (121 * l)), some (vI w4)] [] ρ5 := by
    intro n20
    induction n20 with
    | zero => intro w4 ρ5 W5 f_w4 i0_20 i1_20 hm  m0_20 m1_20; omega
    | succ n20 ih20 =>
      intro w4 ρ5 W5 f_w4 i0_20 i1_20 hm20  m0_20 m1_20
      refine r_iload hC dX6_shift_20 rfl ?_
      refine r_iload hC dX6_shift_22 rfl ?_
      refine r_iload_n hC dX6_shift_24 rfl ?_
      refine r_iaddE hC (((121 * l) + f)) dX6_shift_25 (by omega) (by unfold inR; omega) ?_
      refine r_icmp_le (tgt := 45) hC dX6_shift_26 rfl (fun h6 => ?_) (fun h6 => ?_)
      · refine r_goto (tgt := 85) hC dX6_shift_45 rfl ?_
        refine y_vret hK rfl dX6_shift_85 ?_
        have q := m0_20
        rw [m1_20, show w4 - 121 * l = f from by omega] at q
        exact k _ q
      · refine r_aload_n hC dX6_shift_29 rfl ?_
        refine r_iload hC dX6_shift_30 rfl ?_
        refine r_iconst hC dX6_shift_32 rfl ?_
        refine r_isubE hC ((w4 - 1)) dX6_shift_33 (by omega) (by unfold inR; omega) ?_
        refine r_iload hC dX6_shift_34 rfl ?_
        refine z_inv2 hM dX6_shift_36 vl_RX6_213 rfl rfl rfl (Nat.le_of_ble_eq_true rfl) (Nat.le_of_ble_eq_true rfl) ?_
        refine y_copyEvent (l := l) (a := ((w4 - 1) - 121 * l)) (m := l) (b := (w4 - 121 * l)) (by omega) (by omega) ht ⟨m0_20.1, m0_20.2.1, m0_20.2.2⟩ (by omega) (by omega) (by omega) (by omega) (by omega) (by omega) (fun ρ7 Rρ7 => ?_)
        refine r_iincE hC ((w4 - 1)) dX6_shift_39 rfl rfl (by omega) (by unfold inR; omega) ?_
        refine r_goto (tgt := 20) hC dX6_shift_42 rfl ?_
        exact ih20 ((w4 - 1)) ρ7 (ceM W5 l ((w4 - 1) - 121 * l) l (w4 - 121 * l)) (by omega) (by omega) (by omega) (by omega)  (⟨Rρ7.1, Rρ7.2.1, Rρ7.2.2⟩) (by rw [m1_20, show w4 - 1 - 121 * l = (w4 - 121 * l) - 1 from by omega]; exact suM_s (by omega))
  exact L20 970 (((121 * l) + (V 7 l 6))) σ V (by omega) (by omega) (by omega) (by omega)  (⟨hR.1, hR.2.1, hR.2.2⟩) ((suM_0 (by omega)).symm)
theorem y_shiftDn {eb : Bool} {t : Int} {V : Mm} {d : Nat} {P : Option Vl → Mm → Prop} {σ : Mm} {l f : Int} (b_l : 0 ≤ l ∧ l ≤ 7) (b_f : 0 ≤ f ∧ f ≤ 120) {σ0 : Mm} (ht : 6 ≤ t ∧ t ≤ 7) (hR : RS t σ0 V σ) (hl : l ≤ t) (h6 : 0 ≤ V 7 l 6 ∧ V 7 l 6 ≤ 121) (hf : f < V 7 l 6)  (k : ∀ ρ : Mm, RS t σ0 (sdM V l f (V 7 l 6 - 1)) ρ → P none ρ) : WT (true, eb, true) (d + 3) 189 [vR 30 0, vI l, vI f, vI 0] σ P := by
  refine WT_in fun K hK => ?_
  have hK : StpY (true, eb, true) cX6_shift RX6 (none) (WT (true, eb, true) (d + 2)) P K := hK
  have hM := hK.1
  have hC := hK.1.1
  show K 0 [some (vR 30 0), some (vI l), some (vI f), some (vI 0), none, none] [] σ
  refine r_bipush hC dX6_shift_0 rfl ?_
  refine r_iload_n hC dX6_shift_2 rfl ?_
  refine r_imulE hC ((121 * l)) dX6_shift_3 (by omega) (by unfold inR; omega) ?_
  refine r_istore hC dX6_shift_4 rfl ?_
  refine r_iload_n hC dX6_shift_6 rfl ?_
  refine r_if_eq (tgt := 48) hC dX6_shift_7 rfl (fun h1 => ?_) (fun h1 => by omega)
  refine r_iload hC dX6_shift_48 rfl ?_
  refine r_iload_n hC dX6_shift_50 rfl ?_
  refine r_iaddE hC (((121 * l) + f)) dX6_shift_51 (by omega) (by unfold inR; omega) ?_
  refine r_istore hC dX6_shift_52 rfl ?_
  have L54 : ∀ (n54 : Nat) (w2 : Int) (ρ3 W3 : Mm), 0 ≤ w2 ∧ w2 ≤ 968 → (121 * l + f ≤ (w2)) → ((w2) + 1 ≤ 121 * l + V 7 l 6) → 968 - w2 < (n54 : Int) → (RS t σ0 W3 ρ3) → (W3 = sdM V l f ((w2) - 121 * l)) → K 54 [some (vR 30 0), some (vI l), some (vI f), some (vI 0), some (vI (121 * l)), some (vI w2)] [] ρ3 := by
    intro n54
    induction n54 with
    | zero => intro w2 ρ3 W3 f_w2 i0_54 i1_54 hm  m0_54 m1_54; omega
    | succ n54 ih54 =>
      intro w2 ρ3 W3 f_w2 i0_54 i1_54 hm54  m0_54 m1_54
      have w6 : W3 7 l 6 = V 7 l 6 := by rw [m1_54]; exact sdM_ne (by omega)
      refine r_iload hC dX6_shift_54 rfl ?_
      refine r_iconst hC dX6_shift_56 rfl ?_
      refine r_iaddE hC ((w2 + 1)) dX6_shift_57 (by omega) (by unfold inR; omega) ?_
      refine r_iload hC dX6_shift_58 rfl ?_
      refine r_aload_n hC dX6_shift_60 rfl ?_
      refine r_iload_n hC dX6_shift_61 rfl ?_
      refine z_inv1 hM dX6_shift_62 vl_RX6_116 rfl rfl rfl (Nat.le_of_ble_eq_true rfl) (Nat.le_of_ble_eq_true rfl) ?_
      refine y_heldOf (by omega) (fun o4 => ?_)
      have e5 : ρ3 31 0 (22 * l + 5) = (W3 7 l 6) := (m0_54.1.a7 (s := 6) (f := 5) (by omega) (by omega) (by omega)).trans (rfl)
      rw [e5] at o4 ⊢
      have qo4 : 0 ≤ (W3 7 l 6) ∧ (W3 7 l 6) ≤ 121 := o4.1 (by omega)
      refine r_iaddE hC (((121 * l) + (W3 7 l 6))) dX6_shift_65 (by omega) (by unfold inR; omega) ?_
      refine r_icmp_ge (tgt := 85) hC dX6_shift_66 rfl (fun h6 => ?_) (fun h6 => ?_)
      · refine y_vret hK rfl dX6_shift_85 ?_
        have q := m0_54
        rw [m1_54, show w2 - 121 * l = V 7 l 6 - 1 from by omega] at q
        exact k _ q
      · refine r_aload_n hC dX6_shift_69 rfl ?_
        refine r_iload hC dX6_shift_70 rfl ?_
        refine r_iconst hC dX6_shift_72 rfl ?_
        refine r_iaddE hC ((w2 + 1)) dX6_shift_73 (by omega) (by unfold inR; omega) ?_
        refine r_iload hC dX6_shift_74 rfl ?_
        refine z_inv2 hM dX6_shift_76 vl_RX6_213 rfl rfl rfl (Nat.le_of_ble_eq_true rfl) (Nat.le_of_ble_eq_true rfl) ?_
        refine y_copyEvent (l := l) (a := ((w2 + 1) - 121 * l)) (m := l) (b := (w2 - 121 * l)) (by omega) (by omega) ht ⟨m0_54.1, m0_54.2.1, m0_54.2.2⟩ (by omega) (by omega) (by omega) (by omega) (by omega) (by omega) (fun ρ7 Rρ7 => ?_)
        refine r_iincE hC ((w2 + 1)) dX6_shift_79 rfl rfl (by omega) (by unfold inR; omega) ?_
        refine r_goto (tgt := 54) hC dX6_shift_82 rfl ?_
        exact ih54 ((w2 + 1)) ρ7 (ceM W3 l ((w2 + 1) - 121 * l) l (w2 - 121 * l)) (by omega) (by omega) (by omega) (by omega)  (⟨Rρ7.1, Rρ7.2.1, Rρ7.2.2⟩) (by rw [m1_54, show w2 + 1 - 121 * l = (w2 - 121 * l) + 1 from by omega]; exact sdM_s (h := 0) (by omega))
  exact L54 970 (((121 * l) + f)) σ V (by omega) (by omega) (by omega) (by omega)  (⟨hR.1, hR.2.1, hR.2.2⟩) (by rw [show 121 * l + f - 121 * l = f from by omega]; exact (sdM_0 (by omega)).symm)
theorem mu_eq {V : Mm} {c : Nat} {x y a b : Int} (h : a = b) : mu V c x y a = mu V c x y b := by rw [h]
theorem mu_eq3 {V : Mm} {c : Nat} {x y z w a b a2 b2 d : Int} (h : a = b) (h2 : a2 = b2) : mu (mu (mu V c x y a) c x z a2) c x w d = mu (mu (mu V c x y b) c x z b2) c x w d := by rw [h, h2]
-- B: the reference: WATCHES looked at
/-- what is asked of a LANE whose WATCHES are looked at -/
def LK (V : Mm) (l : Int) : Prop := (0 ≤ V 7 l 2 ∧ V 7 l 2 ≤ 9) ∧ (0 ≤ V 7 l 6 ∧ V 7 l 6 ≤ 121) ∧ (∀ j : Int, 0 ≤ j → j ≤ 120 → -1000 ≤ V 9 l j ∧ V 9 l j ≤ 1000) ∧ (∀ j : Int, 0 ≤ j → j < 16 → 0 ≤ V 15 0 j ∧ V 15 0 j ≤ 3) ∧ (∀ w : Int, 0 ≤ w → w ≤ 7 → V 12 w 0 = l → 0 ≤ V 12 w 1 ∧ V 12 w 1 < numF (V 7 l 2)) ∧ ∀ w : Int, 0 ≤ w → w ≤ 7 → V 12 w 3 = 0 ∨ V 12 w 3 = 1
theorem LK.to {V W : Mm} {l : Int} (h : LK V l) (e : ∀ (c : Nat) (x y : Int), (c = 7 ∧ x = l ∧ (y = 2 ∨ y = 6)) ∨ (c = 9 ∧ x = l) ∨ c = 15 ∨ (c = 12 ∧ (y = 0 ∨ y = 1 ∨ y = 3)) → W c x y = V c x y) : LK W l := by
  obtain ⟨h1, h2, h3, h4, h5, h6⟩ := h
  refine ⟨?_, ?_, fun j a b => ?_, fun j a b => ?_, fun w a b c => ?_, fun w a b => ?_⟩
  · rw [e _ _ _ (by omega)]; exact h1
  · rw [e _ _ _ (by omega)]; exact h2
  · rw [e _ _ _ (by omega)]; exact h3 j a b
  · rw [e _ _ _ (by omega)]; exact h4 j a b
  · rw [e _ _ _ (by omega)] at c
    rw [e _ _ _ (by omega), e _ _ _ (by omega)]; exact h5 w a b c
  · rw [e _ _ _ (by omega)]; exact h6 w a b
theorem LK_rgK {V : Mm} {l : Int} (h : LK V l) (n : Int) : LK (rgK V l n) l := by
  obtain ⟨h1, h2, h3, h4, h5, h6⟩ := h
  refine ⟨?_, ?_, fun j a b => ?_, fun j a b => ?_, fun w a b c => ?_, fun w a b => ?_⟩
  · rw [rgK_ne (by omega)]; exact h1
  · rw [rgK_ne (by omega)]; exact h2
  · rw [rgK_ne (by omega)]; exact h3 j a b
  · rw [rgK_ne (by omega)]; exact h4 j a b
  · rw [rgK_ne (by omega)] at c
    rw [rgK_ne (by omega), rgK_ne (by omega)]; exact h5 w a b c
  · unfold rgK
    split
    · rw [if_pos rfl]; exact isR_01 V l w
    · exact h6 w a b
theorem LK.rg {V : Mm} {l : Int} (h : LK V l) : LK (rgM V l) l := by rw [← rgK_8 rfl]; exact LK_rgK h 8
theorem RS.mk2 {t : Int} {σ0 V ρ ρ2 : Mm} (h1 : SB t σ0 V ρ) (h2 : KF t V ρ) (h3 : FB V ρ) (e : ∀ (c : Nat) (x y : Int), ¬ Sc c → ρ2 c x y = ρ c x y) : RS t σ0 V ρ2 := RS.sc ⟨h1, h2, h3⟩ e
theorem y_layAll {eb : Bool} {t : Int} {V : Mm} {d : Nat} {P : Option Vl → Mm → Prop} {σ : Mm} {l : Int} (b_l : 0 ≤ l ∧ l ≤ 7) {σ0 : Mm} (ht : 6 ≤ t ∧ t ≤ 7) (hR : RS t σ0 V σ) (hl : l ≤ t) (hL : LK V l)  (k : ∀ ρ : Mm, RS t σ0 V ρ → RWP ρ (V 9 l) (V 7 l 6).toNat → P none ρ) : WT (true, eb, true) (d + 3) 155 [vR 30 0, vI l] σ P := by
  refine WT_in fun K hK => ?_
  have hK : StpY (true, eb, true) cX6_layAll RX6 (none) (WT (true, eb, true) (d + 2)) P K := hK
  have hM := hK.1
  have hC := hK.1.1
  show K 0 [some (vR 30 0), some (vI l)] [] σ
  have hop := hL.1
  have h6 := hL.2.1
  refine r_aload_n hC dX6_layAll_0 rfl ?_
  refine z_inv0 hM dX6_layAll_1 vl_RX6_113 rfl rfl rfl (Nat.le_of_ble_eq_true rfl) (Nat.le_of_ble_eq_true rfl) ?_
  refine y_clearRow ?_
  obtain ⟨ρ1, e_ρ1⟩ : ∃ zz_, zz_ = mu σ 30 0 8 0 := ⟨_, rfl⟩
  rw [← e_ρ1]
  have n_ρ1 : ∀ u : Int → Int, RWP ρ1 u 0 := fun u => RWP.nil (by rw [e_ρ1]; exact mu_self _ _ _ _ _)
  have Rρ1 : RS t σ0 V ρ1 := RS.mk2 hR.1 hR.2.1 hR.2.2 (fun c p q h => by rw [e_ρ1]; exact mu_ne (by omega))
  clear e_ρ1
  refine r_aload_n hC dX6_layAll_4 rfl ?_
  refine r_iload_n hC dX6_layAll_5 rfl ?_
  refine r_iconst hC dX6_layAll_6 rfl ?_
  refine r_aload_n hC dX6_layAll_7 rfl ?_
  refine r_iload_n hC dX6_layAll_8 rfl ?_
  refine z_inv1 hM dX6_layAll_9 vl_RX6_116 rfl rfl rfl (Nat.le_of_ble_eq_true rfl) (Nat.le_of_ble_eq_true rfl) ?_
  refine y_heldOf (by omega) (fun o2 => ?_)
  have e3 : ρ1 31 0 (22 * l + 5) = (V 7 l 6) := (Rρ1.1.a7 (s := 6) (f := 5) (by omega) (by omega) (by omega)).trans (rfl)
  rw [e3] at o2 ⊢
  have qo2 : 0 ≤ (V 7 l 6) ∧ (V 7 l 6) ≤ 121 := o2.1 (by omega)
  refine r_iconst hC dX6_layAll_12 rfl ?_
  refine r_isubE hC (((V 7 l 6) - 1)) dX6_layAll_13 (by omega) (by unfold inR; omega) ?_
  refine z_inv3 hM dX6_layAll_14 vl_RX6_120 rfl rfl rfl (Nat.le_of_ble_eq_true rfl) (Nat.le_of_ble_eq_true rfl) ?_
  refine y_putFrom (n := 0) (u := (V 9 l)) (by omega) (by omega) (by omega) (by omega) (by omega) (n_ρ1 (V 9 l)) (fun j a b => by rw [show (((0 : Nat) : Int) + (j - 0)) = j from by omega]; exact (Rρ1.1.a9 (y := j) (by omega) (by omega) (by omega) (by omega)).symm) (fun ρ4 g_ρ4 w_ρ4 => ?_)
  have Rρ4 : RS t σ0 V ρ4 := RS.mk2 Rρ1.1 Rρ1.2.1 Rρ1.2.2 (fun c p q h => g_ρ4 c p q (by omega))
  clear Rρ1
  refine y_vret hK rfl dX6_layAll_17 ?_
  have q := w_ρ4
  rw [show (0 + (((V 7 l 6) - 1) + 1 - 0).toNat) = (V 7 l 6).toNat from by omega] at q
  exact k _ ⟨Rρ4.1, Rρ4.2.1, Rρ4.2.2⟩ q
theorem y_isReached {e : Ev} {d : Nat} {P : Option Vl → Mm → Prop} {σ : Mm} {a b : Int}   (k1 : (a ≠ NO ∧ b ≤ a) → P (some (vI 1)) σ) (k0 : ¬ (a ≠ NO ∧ b ≤ a) → P (some (vI 0)) σ) : WT e (d + 1) 173 [vI a, vI b] σ P := by
  refine WT_in fun K hK => ?_
  have hK : StpY e cX6_isReached RX6 (some .boolean) (WT e (d + 0)) P K := hK
  have hM := hK.1
  have hC := hK.1.1
  show K 0 [some (vI a), some (vI b)] [] σ
  refine r_rngz hC (fun g0 => ?_)
  have r_a : -2147483648 ≤ a ∧ a ≤ 2147483647 := inR_le (g0 (vI a) (by simp))
  have r_b : -2147483648 ≤ b ∧ b ≤ 2147483647 := inR_le (g0 (vI b) (by simp))
  refine r_iload_n hC dX6_isReached_0 rfl ?_
  refine r_ldc hC dX6_isReached_1 co_RX6_160 rfl ?_
  refine r_icmp_eq (tgt := 15) hC dX6_isReached_3 rfl (fun h1 => ?_) (fun h1 => ?_)
  · refine r_iconst hC dX6_isReached_15 rfl ?_
    refine y_zret hK rfl dX6_isReached_16 (by omega) ?_
    exact k0 (by unfold NO; omega)
  · refine r_iload_n hC dX6_isReached_6 rfl ?_
    refine r_iload_n hC dX6_isReached_7 rfl ?_
    refine r_icmp_lt (tgt := 15) hC dX6_isReached_8 rfl (fun h2 => ?_) (fun h2 => ?_)
    · refine r_iconst hC dX6_isReached_15 rfl ?_
      refine y_zret hK rfl dX6_isReached_16 (by omega) ?_
      exact k0 (by unfold NO; omega)
    · refine r_iconst hC dX6_isReached_11 rfl ?_
      refine r_goto (tgt := 16) hC dX6_isReached_12 rfl ?_
      refine y_zret hK rfl dX6_isReached_16 (by omega) ?_
      exact k1 (by unfold NO; omega)
theorem y_reachedNow {eb : Bool} {t : Int} {V : Mm} {d : Nat} {P : Option Vl → Mm → Prop} {σ : Mm} {l w b : Int} (b_l : 0 ≤ l ∧ l ≤ 7) (b_w : 0 ≤ w ∧ w ≤ 6) {σ0 : Mm} (ht : 6 ≤ t ∧ t ≤ 7) (hR : RS t σ0 V σ) (hl : l ≤ t) (hL : LK V l) (hw : w < numF (V 7 l 2))  (k : ∀ ρ : Mm, RS t σ0 V ρ → P (some (vI (rc1 V l w b))) ρ) : WT (true, eb, true) (d + 5) 184 [vR 30 0, vI l, vI w, vI b] σ P := by
  refine WT_in fun K hK => ?_
  have hK : StpY (true, eb, true) cX6_reachedNow RX6 (some .int) (WT (true, eb, true) (d + 4)) P K := hK
  have hM := hK.1
  have hC := hK.1.1
  show K 0 [some (vR 30 0), some (vI l), some (vI w), some (vI b)] [] σ
  refine r_rngz hC (fun g0 => ?_)
  have r_b : -2147483648 ≤ b ∧ b ≤ 2147483647 := inR_le (g0 (vI b) (by simp))
  have hop := hL.1
  have h6 := hL.2.1
  have hBd_ : Bd (V 9 l) (V 7 l 6).toNat := fun j a b => hL.2.2.1 j a (by omega)
  refine r_aload_n hC dX6_reachedNow_0 rfl ?_
  refine r_iload_n hC dX6_reachedNow_1 rfl ?_
  refine z_inv1 hM dX6_reachedNow_2 vl_RX6_194 rfl rfl rfl (Nat.le_of_ble_eq_true rfl) (Nat.le_of_ble_eq_true rfl) ?_
  refine y_layAll (by omega) ht ⟨hR.1, hR.2.1, hR.2.2⟩ (by omega) hL (fun ρ1 Rρ1 w_ρ1 => ?_)
  refine r_aload_n hC dX6_reachedNow_5 rfl ?_
  refine r_aload_n hC dX6_reachedNow_6 rfl ?_
  refine r_iload_n hC dX6_reachedNow_7 rfl ?_
  refine r_iconst hC dX6_reachedNow_8 rfl ?_
  refine z_inv2 hM dX6_reachedNow_9 vl_RX6_80 rfl rfl rfl (Nat.le_of_ble_eq_true rfl) (Nat.le_of_ble_eq_true rfl) ?_
  refine y_of (by omega) (by omega) (by omega) (fun o2 => ?_)
  have e3 : ρ1 31 0 (22 * l + 1) = (V 7 l 2) := (Rρ1.1.a7 (s := 2) (f := 1) (by omega) (by omega) (by omega)).trans (rfl)
  rw [e3] at o2 ⊢
  refine r_iload_n hC dX6_reachedNow_12 rfl ?_
  refine z_inv2 hM dX6_reachedNow_13 vl_RX6_197 rfl rfl rfl (Nat.le_of_ble_eq_true rfl) (Nat.le_of_ble_eq_true rfl) ?_
  refine y_comes (n := (V 7 l 6).toNat) (u := (V 9 l)) (by omega) (by omega) (by omega) (by omega) w_ρ1 hBd_ (fun ρ4 g_ρ4 => ?_)
  rw [cm_t (fun j a b => Rρ1.1.t16 a b) (fun j a b => Rρ1.1.t15 a b) (fun j a b => by rw [Rρ1.1.t15 a (by omega)]; exact hL.2.2.2.1 j a b)]
  have Rρ4 : RS t σ0 V ρ4 := RS.mk2 Rρ1.1 Rρ1.2.1 Rρ1.2.2 (fun c p q h => g_ρ4 c p q (by omega))
  clear Rρ1
  refine r_iload_n hC dX6_reachedNow_16 rfl ?_
  refine z_ins2 hM dX6_reachedNow_17 tl_RX6_200 rfl (Nat.le_of_ble_eq_true rfl) (Nat.le_of_ble_eq_true rfl) ?_
  refine y_isReached (fun h5 => ?_) (fun h5 => ?_)
  · refine r_if_eq (tgt := 27) hC dX6_reachedNow_20 rfl (fun h6 => by omega) (fun h6 => ?_)
    refine r_iconst hC dX6_reachedNow_23 rfl ?_
    refine r_goto (tgt := 28) hC dX6_reachedNow_24 rfl ?_
    refine y_iret hK rfl dX6_reachedNow_28 ?_
    have hv : rc1 V l w b = 1 := if_pos h5
    rw [hv] at k
    exact k _ ⟨Rρ4.1, Rρ4.2.1, Rρ4.2.2⟩
  · refine r_if_eq (tgt := 27) hC dX6_reachedNow_20 rfl (fun h7 => ?_) (fun h7 => by omega)
    refine r_iconst hC dX6_reachedNow_27 rfl ?_
    refine y_iret hK rfl dX6_reachedNow_28 ?_
    have hv : rc1 V l w b = 0 := if_neg h5
    rw [hv] at k
    exact k _ ⟨Rρ4.1, Rρ4.2.1, Rρ4.2.2⟩
theorem y_look {eb : Bool} {t : Int} {V : Mm} {d : Nat} {P : Option Vl → Mm → Prop} {σ : Mm} {l : Int} (b_l : 0 ≤ l ∧ l ≤ 7) {σ0 : Mm} (ht : 6 ≤ t ∧ t ≤ 7) (hR : RS t σ0 V σ) (hl : l ≤ t) (hL : LK V l)  (k : ∀ ρ : Mm, RS t σ0 (rgM V l) ρ → P none ρ) : WT (true, eb, true) (d + 6) 185 [vR 30 0, vI l] σ P := by
  refine WT_in fun K hK => ?_
  have hK : StpY (true, eb, true) cX6_look RX6 (none) (WT (true, eb, true) (d + 5)) P K := hK
  have hM := hK.1
  have hC := hK.1.1
  show K 0 [some (vR 30 0), some (vI l), none, none] [] σ
  refine r_iconst hC dX6_look_0 rfl ?_
  refine r_istore_n hC dX6_look_1 rfl ?_
  have L2 : ∀ (n2 : Nat) (w1 : Int) (ρ2 W2 : Mm), 0 ≤ w1 ∧ w1 ≤ 8 → 8 - w1 < (n2 : Int) → (RS t σ0 W2 ρ2) → (W2 = rgK V l (w1)) → K 2 [some (vR 30 0), some (vI l), some (vI w1), none] [] ρ2 := by
    intro n2
    induction n2 with
    | zero => intro w1 ρ2 W2 f_w1  hm  m0_2 m1_2; omega
    | succ n2 ih2 =>
      intro w1 ρ2 W2 f_w1  hm2  m0_2 m1_2
      refine r_iload_n hC dX6_look_2 rfl ?_
      refine r_bipush hC dX6_look_3 rfl ?_
      refine r_icmp_ge (tgt := 85) hC dX6_look_5 rfl (fun h3 => ?_) (fun h3 => ?_)
      · refine y_vret hK rfl dX6_look_85 ?_
        have q := m0_2
        rw [m1_2, rgK_8 (by omega)] at q
        exact k _ q
      · refine r_aload_n hC dX6_look_8 rfl ?_
        have e0 : W2 12 w1 0 = V 12 w1 0 := by rw [m1_2]; exact rgK_lo (by omega)
        have e3 : W2 12 w1 3 = V 12 w1 3 := by rw [m1_2]; exact rgK_up (by omega)
        have e10 : W2 7 l 10 = V 7 l 10 := by rw [m1_2]; exact rgK_ne (by omega)
        have e01w := hL.2.2.2.2.2 w1 (by omega) (by omega)
        refine z_getR hM dX6_look_9 fl_RX6_34 rfl rfl (vld_of (n := 1) rfl (by omega) (by omega)) ?_
        refine r_iload_n hC dX6_look_12 rfl ?_
        refine z_iald hM dX6_look_13 rfl (by omega) (by omega) (fun v4 h_v4 o_v4 t_v4 => ?_)
        have w_v4 := ((t_v4 (Or.inl (by simp [Tb]))).trans ((m0_2.1.w0 (by omega) (by omega)).trans (rfl))).symm
        clear t_v4
        subst w_v4
        refine r_iload_n hC dX6_look_14 rfl ?_
        refine r_icmp_eq (tgt := 21) hC dX6_look_15 rfl (fun h5 => ?_) (fun h5 => ?_)
        · refine r_aload_n hC dX6_look_21 rfl ?_
          refine r_iload_n hC dX6_look_22 rfl ?_
          refine r_aload_n hC dX6_look_23 rfl ?_
          refine z_getR hM dX6_look_24 fl_RX6_37 rfl rfl (vld_of (n := 1) rfl (by omega) (by omega)) ?_
          refine r_iload_n hC dX6_look_27 rfl ?_
          refine z_iald hM dX6_look_28 rfl (by omega) (by omega) (fun v6 h_v6 o_v6 t_v6 => ?_)
          have w_v6 := ((t_v6 (Or.inl (by simp [Tb]))).trans ((m0_2.1.w1 (by omega) (by omega)).trans (rfl))).symm
          clear t_v6
          subst w_v6
          have q_v6 : 0 ≤ (W2 12 w1 1) ∧ (W2 12 w1 1) ≤ 6 := o_v6
          refine r_aload_n hC dX6_look_29 rfl ?_
          refine z_getR hM dX6_look_30 fl_RX6_40 rfl rfl (vld_of (n := 1) rfl (by omega) (by omega)) ?_
          refine r_iload_n hC dX6_look_33 rfl ?_
          refine z_iald hM dX6_look_34 rfl (by omega) (by omega) (fun v7 h_v7 o_v7 t_v7 => ?_)
          have w_v7 := ((t_v7 (Or.inl (by simp [Tb]))).trans ((m0_2.1.w2 (by omega) (by omega)).trans (rfl))).symm
          clear t_v7
          subst w_v7
          refine z_inv3 hM dX6_look_35 vl_RX6_203 rfl rfl rfl (Nat.le_of_ble_eq_true rfl) (Nat.le_of_ble_eq_true rfl) ?_
          have hLW : LK W2 l := by rw [m1_2]; exact LK_rgK hL _
          have hq1 := hLW.2.2.2.2.1 w1 (by omega) (by omega) (by omega)
          have hq2 := numF_rng (W2 7 l 2)
          refine y_reachedNow (V := W2) (by omega) (by omega) ht ⟨m0_2.1, m0_2.2.1, m0_2.2.2⟩ (by omega) hLW (by omega) (fun ρ8 Rρ8 => ?_)
          have eis : rc1 W2 l (W2 12 w1 1) (W2 12 w1 2) = isR V l w1 := by
            rw [m1_2, rc1_g (V := V) (funext fun y => rgK_ne (by omega)) (funext fun y => rgK_ne (by omega)) (fun y => rgK_ne (by omega)) (funext fun y => rgK_ne (by omega)), rgK_lo (by omega), rgK_lo (by omega)]
            rfl
          have e01 := isR_01 V l w1
          rw [eis]
          refine r_istore_n hC dX6_look_38 rfl ?_
          refine r_iload_n hC dX6_look_39 rfl ?_
          refine r_aload_n hC dX6_look_40 rfl ?_
          refine z_getR hM dX6_look_41 fl_RX6_43 rfl rfl (vld_of (n := 1) rfl (by omega) (by omega)) ?_
          refine r_iload_n hC dX6_look_44 rfl ?_
          refine z_iald hM dX6_look_45 rfl (by omega) (by omega) (fun v9 h_v9 o_v9 t_v9 => ?_)
          have w_v9 := ((t_v9 (Or.inl (by simp [Tb]))).trans ((Rρ8.1.w3 (by omega) (by omega)).trans (rfl))).symm
          clear t_v9
          subst w_v9
          refine r_icmp_le (tgt := 72) hC dX6_look_46 rfl (fun h10 => ?_) (fun h10 => ?_)
          · refine r_aload_n hC dX6_look_72 rfl ?_
            refine z_getR hM dX6_look_73 fl_RX6_43 rfl rfl (vld_of (n := 1) rfl (by omega) (by omega)) ?_
            refine r_iload_n hC dX6_look_76 rfl ?_
            refine r_iload_n hC dX6_look_77 rfl ?_
            refine z_iastT hM dX6_look_78 rfl (by omega) (by omega) ⟨Or.inr (by simp [DL]), Or.inr (by simp [DF])⟩ (by first | trivial | (simp only [Okv]; omega) | (simp [Okv]; try omega)) ?_
            obtain ⟨ρ11, e_ρ11⟩ : ∃ zz_, zz_ = mu ρ8 42 0 w1 (isR V l w1) := ⟨_, rfl⟩
            rw [← e_ρ11]
            have Sρ11 : SB t σ0 (mu W2 12 w1 3 (isR V l w1)) ρ11 := by rw [e_ρ11]; exact Rρ8.1.pw3 (by omega) (by omega)
            have Kρ11 : KF t (mu W2 12 w1 3 (isR V l w1)) ρ11 := by rw [e_ρ11]; exact (Rρ8.2.1).e (fun l a b => ⟨mu_ne (by omega), mu_ne (by omega)⟩) |>.v (fun l => mu_ne (by omega))
            have Fρ11 : FB (mu W2 12 w1 3 (isR V l w1)) ρ11 := by rw [e_ρ11]; exact (Rρ8.2.2).e (fun l a b => mu_ne (by omega)) |>.v (fun l y a b c => mu_ne (by omega))
            clear e_ρ11
            refine r_iincE hC ((w1 + 1)) dX6_look_79 rfl rfl (by omega) (by unfold inR; omega) ?_
            refine r_goto (tgt := 2) hC dX6_look_82 rfl ?_
            refine r_forget hC (ls2 := [some (vR 30 0), some (vI l), some (vI (w1 + 1)), none]) (lsub_some (lsub_some (lsub_some (lsub_none lsub_nil)))) ?_
            exact ih2 ((w1 + 1)) ρ11 (mu W2 12 w1 3 (isR V l w1)) (by omega)  (by omega)  (⟨Sρ11, Kρ11, Fρ11⟩) (by rw [← rgK_yf (by omega) (by omega), ← m1_2, noM_0 (by omega)])
          · refine r_aload_n hC dX6_look_49 rfl ?_
            refine z_getR hM dX6_look_50 fl_RX6_46 rfl rfl (vld_of (n := 1) rfl (by omega) (by omega)) ?_
            refine r_iload_n hC dX6_look_53 rfl ?_
            refine r_dup2 hC dX6_look_54 rfl rfl ?_
            refine z_iald hM dX6_look_55 rfl (by omega) (by omega) (fun v12 h_v12 o_v12 t_v12 => ?_)
            have w_v12 := ((t_v12 (Or.inl (by simp [Tb]))).trans ((Rρ8.1.w4 (by omega) (by omega)).trans (rfl))).symm
            clear t_v12
            subst w_v12
            refine r_iconst hC dX6_look_56 rfl ?_
            refine r_iadd hC dX6_look_57 ?_
            have f13 := inR_le (inR_wr ((W2 12 w1 4) + 1))
            refine z_iastT hM dX6_look_58 rfl (by omega) (by omega) ⟨Or.inr (by simp [DL]), Or.inr (by simp [DF])⟩ (by first | trivial | (simp only [Okv]; omega) | (simp [Okv]; try omega)) ?_
            obtain ⟨ρ14, e_ρ14⟩ : ∃ zz_, zz_ = mu ρ8 43 0 w1 (wr ((W2 12 w1 4) + 1)) := ⟨_, rfl⟩
            rw [← e_ρ14]
            have Sρ14 : SB t σ0 (mu W2 12 w1 4 (wr ((W2 12 w1 4) + 1))) ρ14 := by rw [e_ρ14]; exact Rρ8.1.pw4 (by omega) (by omega)
            have Kρ14 : KF t (mu W2 12 w1 4 (wr ((W2 12 w1 4) + 1))) ρ14 := by rw [e_ρ14]; exact (Rρ8.2.1).e (fun l a b => ⟨mu_ne (by omega), mu_ne (by omega)⟩) |>.v (fun l => mu_ne (by omega))
            have Fρ14 : FB (mu W2 12 w1 4 (wr ((W2 12 w1 4) + 1))) ρ14 := by rw [e_ρ14]; exact (Rρ8.2.2).e (fun l a b => mu_ne (by omega)) |>.v (fun l y a b c => mu_ne (by omega))
            clear Rρ8 e_ρ14
            refine r_aload_n hC dX6_look_59 rfl ?_
            refine z_getR hM dX6_look_60 fl_RX6_49 rfl rfl (vld_of (n := 1) rfl (by omega) (by omega)) ?_
            refine r_iload_n hC dX6_look_63 rfl ?_
            refine r_aload_n hC dX6_look_64 rfl ?_
            refine r_iload_n hC dX6_look_65 rfl ?_
            refine r_bipush hC dX6_look_66 rfl ?_
            refine z_inv2 hM dX6_look_68 vl_RX6_80 rfl rfl rfl (Nat.le_of_ble_eq_true rfl) (Nat.le_of_ble_eq_true rfl) ?_
            refine y_of (by omega) (by omega) (by omega) (fun o15 => ?_)
            have e16 : ρ14 31 0 (22 * l + 6) = (W2 7 l 10) := (Sρ14.a7 (s := 10) (f := 6) (by omega) (by omega) (by omega)).trans ((mu_ne (by omega)).trans (rfl))
            rw [e16] at o15 ⊢
            refine z_iastT hM dX6_look_71 rfl (by omega) (by omega) ⟨Or.inr (by simp [DL]), Or.inr (by simp [DF])⟩ (by first | trivial | (simp only [Okv]; omega) | (simp [Okv]; try omega)) ?_
            obtain ⟨ρ17, e_ρ17⟩ : ∃ zz_, zz_ = mu ρ14 44 0 w1 (W2 7 l 10) := ⟨_, rfl⟩
            rw [← e_ρ17]
            have Sρ17 : SB t σ0 (mu (mu W2 12 w1 4 (wr ((W2 12 w1 4) + 1))) 12 w1 5 (W2 7 l 10)) ρ17 := by rw [e_ρ17]; exact Sρ14.pw5 (by omega) (by omega)
            clear Sρ14
            have Kρ17 : KF t (mu (mu W2 12 w1 4 (wr ((W2 12 w1 4) + 1))) 12 w1 5 (W2 7 l 10)) ρ17 := by rw [e_ρ17]; exact (Kρ14).e (fun l a b => ⟨mu_ne (by omega), mu_ne (by omega)⟩) |>.v (fun l => mu_ne (by omega))
            clear Kρ14
            have Fρ17 : FB (mu (mu W2 12 w1 4 (wr ((W2 12 w1 4) + 1))) 12 w1 5 (W2 7 l 10)) ρ17 := by rw [e_ρ17]; exact (Fρ14).e (fun l a b => mu_ne (by omega)) |>.v (fun l y a b c => mu_ne (by omega))
            clear Fρ14 e_ρ17
            refine r_aload_n hC dX6_look_72 rfl ?_
            refine z_getR hM dX6_look_73 fl_RX6_43 rfl rfl (vld_of (n := 1) rfl (by omega) (by omega)) ?_
            refine r_iload_n hC dX6_look_76 rfl ?_
            refine r_iload_n hC dX6_look_77 rfl ?_
            refine z_iastT hM dX6_look_78 rfl (by omega) (by omega) ⟨Or.inr (by simp [DL]), Or.inr (by simp [DF])⟩ (by first | trivial | (simp only [Okv]; omega) | (simp [Okv]; try omega)) ?_
            obtain ⟨ρ18, e_ρ18⟩ : ∃ zz_, zz_ = mu ρ17 42 0 w1 (isR V l w1) := ⟨_, rfl⟩
            rw [← e_ρ18]
            have Sρ18 : SB t σ0 (mu (mu (mu W2 12 w1 4 (wr ((W2 12 w1 4) + 1))) 12 w1 5 (W2 7 l 10)) 12 w1 3 (isR V l w1)) ρ18 := by rw [e_ρ18]; exact Sρ17.pw3 (by omega) (by omega)
            clear Sρ17
            have Kρ18 : KF t (mu (mu (mu W2 12 w1 4 (wr ((W2 12 w1 4) + 1))) 12 w1 5 (W2 7 l 10)) 12 w1 3 (isR V l w1)) ρ18 := by rw [e_ρ18]; exact (Kρ17).e (fun l a b => ⟨mu_ne (by omega), mu_ne (by omega)⟩) |>.v (fun l => mu_ne (by omega))
            clear Kρ17
            have Fρ18 : FB (mu (mu (mu W2 12 w1 4 (wr ((W2 12 w1 4) + 1))) 12 w1 5 (W2 7 l 10)) 12 w1 3 (isR V l w1)) ρ18 := by rw [e_ρ18]; exact (Fρ17).e (fun l a b => mu_ne (by omega)) |>.v (fun l y a b c => mu_ne (by omega))
            clear Fρ17 e_ρ18
            refine r_iincE hC ((w1 + 1)) dX6_look_79 rfl rfl (by omega) (by unfold inR; omega) ?_
            refine r_goto (tgt := 2) hC dX6_look_82 rfl ?_
            refine r_forget hC (ls2 := [some (vR 30 0), some (vI l), some (vI (w1 + 1)), none]) (lsub_some (lsub_some (lsub_some (lsub_none lsub_nil)))) ?_
            exact ih2 ((w1 + 1)) ρ18 (mu (mu (mu W2 12 w1 4 (wr ((W2 12 w1 4) + 1))) 12 w1 5 (W2 7 l 10)) 12 w1 3 (isR V l w1)) (by omega)  (by omega)  (⟨Sρ18, Kρ18, Fρ18⟩) (by rw [← rgK_yf (by omega) (by omega), ← m1_2, show isR V l w1 = 1 from by omega, noM_1 (by omega), e10])
        · refine r_goto (tgt := 79) hC dX6_look_18 rfl ?_
          refine r_iincE hC ((w1 + 1)) dX6_look_79 rfl rfl (by omega) (by unfold inR; omega) ?_
          refine r_goto (tgt := 2) hC dX6_look_82 rfl ?_
          exact ih2 ((w1 + 1)) ρ2 W2 (by omega)  (by omega)  (⟨m0_2.1, m0_2.2.1, m0_2.2.2⟩) (by rw [rgK_nf (by omega)]; exact m1_2)
  exact L2 10 (0) σ V (by omega)  (by omega)  (⟨hR.1, hR.2.1, hR.2.2⟩) (rgK_0f.symm)
