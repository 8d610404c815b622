-- B: the reference: same, commutes
def FKx (σ ρ : Mm) : Prop := ∀ (c : Nat) (p q : Int), ¬ (c = 30 ∨ c = 37 ∨ c = 38) → ρ c p q = σ c p q
theorem y_goThroughW {eb : Bool} {n : Nat} {u : Int → Int} {d : Nat} {P : Option Vl → Mm → Prop} {σ : Mm} {o : Int} (b_o : 0 ≤ o ∧ o ≤ 9) (hn1 : 1 ≤ n) (hn : n ≤ 242) (hR : RWP σ u n) (hb : Bd u n) (k : ∀ ρ : Mm, Gx (fun c x y => c = 38 ∧ x = 0) σ ρ → (∀ k : Int, 0 ≤ k → k < numF o → ρ 38 0 k = cmN (σ 36 0) (σ 35 0) o u n k) → P none ρ) : WT (true, eb, true) (d + 3) 158 [vR 30 0, vI o] σ P :=
  y_goThrough b_o hR.1 hn1 hn (hb.cg hR.2) (fun ρ g h => k ρ g (fun k a b => (h k a b).trans (cmN_c (fun j a b => hR.2 j a b))))
theorem y_layAllK {eb : Bool} {t : Int} {V : Mm} {d : Nat} {P : Option Vl → Mm → Prop} {σ : Mm} {l : Int} (b_l : 0 ≤ l ∧ l ≤ 7) {σ0 : Mm} (ht : 6 ≤ t ∧ t ≤ 7) (hR : RS t σ0 V σ) (hl : l ≤ t) (hL : LK V l)  (k : ∀ ρ : Mm, RS t σ0 V ρ → FKx σ ρ → RWP ρ (V 9 l) (V 7 l 6).toNat → P none ρ) : WT (true, eb, true) (d + 3) 155 [vR 30 0, vI l] σ P := by
  refine WT_in fun K hK => ?_
  have hK : StpY (true, eb, true) cX6_layAll RX6 (none) (WT (true, eb, true) (d + 2)) P K := hK
  have hM := hK.1
  have hC := hK.1.1
  show K 0 [some (vR 30 0), some (vI l)] [] σ
  have hop := hL.1
  have h6 := hL.2.1
  refine r_aload_n hC dX6_layAll_0 rfl ?_
  refine z_inv0 hM dX6_layAll_1 vl_RX6_113 rfl rfl rfl (Nat.le_of_ble_eq_true rfl) (Nat.le_of_ble_eq_true rfl) ?_
  refine y_clearRow ?_
  obtain ⟨ρ1, e_ρ1⟩ : ∃ zz_, zz_ = mu σ 30 0 8 0 := ⟨_, rfl⟩
  rw [← e_ρ1]
  have n_ρ1 : ∀ u : Int → Int, RWP ρ1 u 0 := fun u => RWP.nil (by rw [e_ρ1]; exact mu_self _ _ _ _ _)
  have f_ρ1 : FKx σ ρ1 := fun c p q h => by rw [e_ρ1]; exact mu_ne (by omega)
  have Rρ1 : RS t σ0 V ρ1 := RS.mk2 hR.1 hR.2.1 hR.2.2 (fun c p q h => f_ρ1 c p q (by omega))
  refine r_aload_n hC dX6_layAll_4 rfl ?_
  refine r_iload_n hC dX6_layAll_5 rfl ?_
  refine r_iconst hC dX6_layAll_6 rfl ?_
  refine r_aload_n hC dX6_layAll_7 rfl ?_
  refine r_iload_n hC dX6_layAll_8 rfl ?_
  refine z_inv1 hM dX6_layAll_9 vl_RX6_116 rfl rfl rfl (Nat.le_of_ble_eq_true rfl) (Nat.le_of_ble_eq_true rfl) ?_
  refine y_heldOf (by omega) (fun o2 => ?_)
  have e3 : ρ1 31 0 (22 * l + 5) = (V 7 l 6) := (Rρ1.1.a7 (s := 6) (f := 5) (by omega) (by omega) (by omega)).trans (rfl)
  rw [e3] at o2 ⊢
  have qo2 : 0 ≤ (V 7 l 6) ∧ (V 7 l 6) ≤ 121 := o2.1 (by omega)
  refine r_iconst hC dX6_layAll_12 rfl ?_
  refine r_isubE hC (((V 7 l 6) - 1)) dX6_layAll_13 (by omega) (by unfold inR; omega) ?_
  refine z_inv3 hM dX6_layAll_14 vl_RX6_120 rfl rfl rfl (Nat.le_of_ble_eq_true rfl) (Nat.le_of_ble_eq_true rfl) ?_
  refine y_putFrom (n := 0) (u := (V 9 l)) (by omega) (by omega) (by omega) (by omega) (by omega) (n_ρ1 (V 9 l)) (fun j a b => by rw [show (((0 : Nat) : Int) + (j - 0)) = j from by omega]; exact (Rρ1.1.a9 (y := j) (by omega) (by omega) (by omega) (by omega)).symm) (fun ρ4 g_ρ4 w_ρ4 => ?_)
  have f_ρ4 : FKx ρ1 ρ4 := fun c p q h => g_ρ4 c p q (by omega)
  have Rρ4 : RS t σ0 V ρ4 := RS.mk2 Rρ1.1 Rρ1.2.1 Rρ1.2.2 (fun c p q h => f_ρ4 c p q (by omega))
  refine y_vret hK rfl dX6_layAll_17 ?_
  have q := w_ρ4
  rw [show (0 + (((V 7 l 6) - 1) + 1 - 0).toNat) = (V 7 l 6).toNat from by omega] at q
  exact k _ ⟨Rρ4.1, Rρ4.2.1, Rρ4.2.2⟩ (fun c p q h => (f_ρ4 c p q h).trans (f_ρ1 c p q h)) q
theorem y_comesFromK {eb : Bool} {t : Int} {V : Mm} {d : Nat} {P : Option Vl → Mm → Prop} {σ : Mm} {l f z w : Int} (b_l : 0 ≤ l ∧ l ≤ 7) (b_f : 0 ≤ f ∧ f ≤ 121) (b_z : -2147483648 ≤ z ∧ z ≤ 120) (b_w : 0 ≤ w ∧ w ≤ 6) {σ0 : Mm} (ht : 6 ≤ t ∧ t ≤ 7) (hR : RS t σ0 V σ) (hl : l ≤ t) (hL : LK V l) (hw : w < numF (V 7 l 2))  (k : ∀ ρ : Mm, RS t σ0 V ρ → FKx σ ρ → P (some (vI (cm (V 16 0) (V 15 0) (V 7 l 2) (fun j => V 9 l (f + j)) (z + 1 - f).toNat w))) ρ) : WT (true, eb, true) (d + 5) 213 [vR 30 0, vI l, vI f, vI z, vI w] σ P := by
  refine WT_in fun K hK => ?_
  have hK : StpY (true, eb, true) cX6_comesFrom RX6 (some .int) (WT (true, eb, true) (d + 4)) P K := hK
  have hM := hK.1
  have hC := hK.1.1
  show K 0 [some (vR 30 0), some (vI l), some (vI f), some (vI z), some (vI w)] [] σ
  have hop := hL.1
  have h6 := hL.2.1
  have hBd_ : Bd (fun j => V 9 l (f + j)) (0 + (z + 1 - f).toNat) := fun j a b => hL.2.2.1 (f + j) (by omega) (by omega)
  refine r_aload_n hC dX6_comesFrom_0 rfl ?_
  refine z_inv0 hM dX6_comesFrom_1 vl_RX6_113 rfl rfl rfl (Nat.le_of_ble_eq_true rfl) (Nat.le_of_ble_eq_true rfl) ?_
  refine y_clearRow ?_
  obtain ⟨ρ1, e_ρ1⟩ : ∃ zz_, zz_ = mu σ 30 0 8 0 := ⟨_, rfl⟩
  rw [← e_ρ1]
  have n_ρ1 : ∀ u : Int → Int, RWP ρ1 u 0 := fun u => RWP.nil (by rw [e_ρ1]; exact mu_self _ _ _ _ _)
  have f_ρ1 : FKx σ ρ1 := fun c p q h => by rw [e_ρ1]; exact mu_ne (by omega)
  have Rρ1 : RS t σ0 V ρ1 := RS.mk2 hR.1 hR.2.1 hR.2.2 (fun c p q h => f_ρ1 c p q (by omega))
  refine r_aload_n hC dX6_comesFrom_4 rfl ?_
  refine r_iload_n hC dX6_comesFrom_5 rfl ?_
  refine r_iload_n hC dX6_comesFrom_6 rfl ?_
  refine r_iload_n hC dX6_comesFrom_7 rfl ?_
  refine z_inv3 hM dX6_comesFrom_8 vl_RX6_120 rfl rfl rfl (Nat.le_of_ble_eq_true rfl) (Nat.le_of_ble_eq_true rfl) ?_
  refine y_putFrom (n := 0) (u := (fun j => V 9 l (f + j))) (by omega) (by omega) (by omega) (by omega) (by omega) (n_ρ1 (fun j => V 9 l (f + j))) (fun j a b => by show V 9 l (f + (((0 : Nat) : Int) + (j - f))) = _; rw [show f + (((0 : Nat) : Int) + (j - f)) = j from by omega]; exact (Rρ1.1.a9 (y := j) (by omega) (by omega) (by omega) (by omega)).symm) (fun ρ2 g_ρ2 w_ρ2 => ?_)
  have f_ρ2 : FKx ρ1 ρ2 := fun c p q h => g_ρ2 c p q (by omega)
  have Rρ2 : RS t σ0 V ρ2 := RS.mk2 Rρ1.1 Rρ1.2.1 Rρ1.2.2 (fun c p q h => f_ρ2 c p q (by omega))
  refine r_aload_n hC dX6_comesFrom_11 rfl ?_
  refine r_aload_n hC dX6_comesFrom_12 rfl ?_
  refine r_iload_n hC dX6_comesFrom_13 rfl ?_
  refine r_iconst hC dX6_comesFrom_14 rfl ?_
  refine z_inv2 hM dX6_comesFrom_15 vl_RX6_80 rfl rfl rfl (Nat.le_of_ble_eq_true rfl) (Nat.le_of_ble_eq_true rfl) ?_
  refine y_of (by omega) (by omega) (by omega) (fun o3 => ?_)
  have e4 : ρ2 31 0 (22 * l + 1) = (V 7 l 2) := (Rρ2.1.a7 (s := 2) (f := 1) (by omega) (by omega) (by omega)).trans (rfl)
  rw [e4] at o3 ⊢
  refine r_iload hC dX6_comesFrom_18 rfl ?_
  refine z_inv2 hM dX6_comesFrom_20 vl_RX6_197 rfl rfl rfl (Nat.le_of_ble_eq_true rfl) (Nat.le_of_ble_eq_true rfl) ?_
  refine y_comes (n := (0 + (z + 1 - f).toNat)) (u := (fun j => V 9 l (f + j))) (by omega) (by omega) (by omega) (by omega) w_ρ2 hBd_ (fun ρ5 g_ρ5 => ?_)
  rw [cm_t (fun j a b => Rρ2.1.t16 a b) (fun j a b => Rρ2.1.t15 a b) (fun j a b => by rw [Rρ2.1.t15 a (by omega)]; exact hL.2.2.2.1 j a b)]
  have f_ρ5 : FKx ρ2 ρ5 := fun c p q h => g_ρ5 c p q (by omega)
  have Rρ5 : RS t σ0 V ρ5 := RS.mk2 Rρ2.1 Rρ2.2.1 Rρ2.2.2 (fun c p q h => f_ρ5 c p q (by omega))
  refine y_iret hK rfl dX6_comesFrom_23 ?_
  have hv : (cm (V 16 0) (V 15 0) (V 7 l 2) (fun j => V 9 l (f + j)) (z + 1 - f).toNat w) = (cm (V 16 0) (V 15 0) (V 7 l 2) (fun j => V 9 l (f + j)) (0 + (z + 1 - f).toNat) w) := by rw [Nat.zero_add]
  rw [hv] at k
  exact k _ ⟨Rρ5.1, Rρ5.2.1, Rρ5.2.2⟩ (fun c p q h => (f_ρ5 c p q h).trans ((f_ρ2 c p q h).trans (f_ρ1 c p q h)))
theorem y_keepNumbers {eb : Bool} {d : Nat} {P : Option Vl → Mm → Prop} {σ : Mm} {o : Int} (b_o : 0 ≤ o ∧ o ≤ 9)  (k : ∀ ρ : Mm, (∀ (c : Nat) (x y : Int), ¬ (c = 49) → ρ c x y = σ c x y) → (∀ k : Int, 0 ≤ k → k < numF o → ρ 49 0 k = σ 38 0 k) → P none ρ) : WT (true, eb, true) (d + 2) 228 [vR 30 0, vI o] σ P := by
  refine WT_in fun K hK => ?_
  have hK : StpY (true, eb, true) cX6_keepNumbers RX6 (none) (WT (true, eb, true) (d + 1)) P K := hK
  have hM := hK.1
  have hC := hK.1.1
  show K 0 [some (vR 30 0), some (vI o), none] [] σ
  have n7_ := numF_rng o
  refine r_iconst hC dX6_keepNumbers_0 rfl ?_
  refine r_istore_n hC dX6_keepNumbers_1 rfl ?_
  have L2 : ∀ (n2 : Nat) (w1 : Int) (ρ2 : Mm), 0 ≤ w1 ∧ w1 ≤ 7 → ((w1) ≤ numF o) → 7 - w1 < (n2 : Int) → (∀ (c : Nat) (x y : Int), ¬ (c = 49) → ρ2 c x y = σ c x y) → (∀ k : Int, 0 ≤ k → k < (w1) → ρ2 49 0 k = σ 38 0 k) → K 2 [some (vR 30 0), some (vI o), some (vI w1)] [] ρ2 := by
    intro n2
    induction n2 with
    | zero => intro w1 ρ2 f_w1 i0_2 hm  m0_2 m1_2; omega
    | succ n2 ih2 =>
      intro w1 ρ2 f_w1 i0_2 hm2  m0_2 m1_2
      refine r_iload_n hC dX6_keepNumbers_2 rfl ?_
      refine r_iload_n hC dX6_keepNumbers_3 rfl ?_
      refine z_ins1 hM dX6_keepNumbers_4 tl_RX6_127 rfl (Nat.le_of_ble_eq_true rfl) (Nat.le_of_ble_eq_true rfl) ?_
      refine y_howMany (by omega) ?_
      refine r_icmp_ge (tgt := 28) hC dX6_keepNumbers_7 rfl (fun h3 => ?_) (fun h3 => ?_)
      · refine y_vret hK rfl dX6_keepNumbers_28 ?_
        exact k _ m0_2 (fun k a b => m1_2 k a (by omega))
      · refine r_aload_n hC dX6_keepNumbers_10 rfl ?_
        refine z_getR hM dX6_keepNumbers_11 fl_RX6_64 rfl rfl (vld_of (n := 1) rfl (by omega) (by omega)) ?_
        refine r_iload_n hC dX6_keepNumbers_14 rfl ?_
        refine r_aload_n hC dX6_keepNumbers_15 rfl ?_
        refine z_getR hM dX6_keepNumbers_16 fl_RX6_31 rfl rfl (vld_of (n := 1) rfl (by omega) (by omega)) ?_
        refine r_iload_n hC dX6_keepNumbers_19 rfl ?_
        refine z_iald hM dX6_keepNumbers_20 rfl (by omega) (by omega) (fun v4 h_v4 o_v4 t_v4 => ?_)
        have w_v4 := ((t_v4 (Or.inr (Or.inr (Or.inr ⟨rfl, by first | exact True.intro | exact (rfl : true = true)⟩)))).trans (rfl)).symm
        subst w_v4
        refine z_iastT hM dX6_keepNumbers_21 rfl (by omega) (by omega) ⟨Or.inr (by simp [DL]), Or.inr (by simp [DF])⟩ (by first | trivial | (simp only [Okv]; omega) | (simp [Okv]; try omega)) ?_
        obtain ⟨ρ5, e_ρ5⟩ : ∃ zz_, zz_ = mu ρ2 49 0 w1 (ρ2 38 0 w1) := ⟨_, rfl⟩
        rw [← e_ρ5]
        refine r_iincE hC ((w1 + 1)) dX6_keepNumbers_22 rfl rfl (by omega) (by unfold inR; omega) ?_
        refine r_goto (tgt := 2) hC dX6_keepNumbers_25 rfl ?_
        exact ih2 ((w1 + 1)) ρ5 (by omega) (by omega) (by omega)  (fun c x y q => by rw [e_ρ5]; exact (mu_ne (by omega)).trans (m0_2 c x y q)) (fun k a b => by rw [e_ρ5]; rcases (by omega : k < w1 ∨ k = w1) with z | z; exact (mu_ne (by omega)).trans (m1_2 k a z); subst z; exact (mu_self _ _ _ _ _).trans (m0_2 38 0 _ (by decide)))
  exact L2 9 (0) σ (by omega) (by omega) (by omega)  (fun _ _ _ _ => rfl) (fun k a b => by omega)
theorem y_areKept {eb : Bool} {d : Nat} {P : Option Vl → Mm → Prop} {σ : Mm} {o : Int} (b_o : 0 ≤ o ∧ o ≤ 9)  (k1 : (∀ k : Int, 0 ≤ k → k < numF o → σ 49 0 k = σ 38 0 k) → P (some (vI 1)) σ) (k0 : ¬ (∀ k : Int, 0 ≤ k → k < numF o → σ 49 0 k = σ 38 0 k) → P (some (vI 0)) σ) : WT (true, eb, true) (d + 2) 229 [vR 30 0, vI o] σ P := by
  refine WT_in fun K hK => ?_
  have hK : StpY (true, eb, true) cX6_areKept RX6 (some .boolean) (WT (true, eb, true) (d + 1)) P K := hK
  have hM := hK.1
  have hC := hK.1.1
  show K 0 [some (vR 30 0), some (vI o), none] [] σ
  have n7_ := numF_rng o
  refine r_iconst hC dX6_areKept_0 rfl ?_
  refine r_istore_n hC dX6_areKept_1 rfl ?_
  have L2 : ∀ (n2 : Nat) (w1 : Int), 0 ≤ w1 ∧ w1 ≤ 7 → (∀ k : Int, 0 ≤ k → k < (w1) → σ 49 0 k = σ 38 0 k) → ((w1) ≤ numF o) → 7 - w1 < (n2 : Int) → K 2 [some (vR 30 0), some (vI o), some (vI w1)] [] σ := by
    intro n2
    induction n2 with
    | zero => intro w1  f_w1 i0_2 i1_2 hm  ; omega
    | succ n2 ih2 =>
      intro w1  f_w1 i0_2 i1_2 hm2  
      refine r_iload_n hC dX6_areKept_2 rfl ?_
      refine r_iload_n hC dX6_areKept_3 rfl ?_
      refine z_ins1 hM dX6_areKept_4 tl_RX6_127 rfl (Nat.le_of_ble_eq_true rfl) (Nat.le_of_ble_eq_true rfl) ?_
      refine y_howMany (by omega) ?_
      refine r_icmp_ge (tgt := 33) hC dX6_areKept_7 rfl (fun h2 => ?_) (fun h2 => ?_)
      · refine r_iconst hC dX6_areKept_33 rfl ?_
        refine y_zret hK rfl dX6_areKept_34 (by omega) ?_
        exact k1 (fun k a b => i0_2 k a (by omega))
      · refine r_aload_n hC dX6_areKept_10 rfl ?_
        refine z_getR hM dX6_areKept_11 fl_RX6_64 rfl rfl (vld_of (n := 1) rfl (by omega) (by omega)) ?_
        refine r_iload_n hC dX6_areKept_14 rfl ?_
        refine z_iald hM dX6_areKept_15 rfl (by omega) (by omega) (fun v3 h_v3 o_v3 t_v3 => ?_)
        have w_v3 := ((t_v3 (Or.inr (Or.inr (Or.inr ⟨rfl, by first | exact True.intro | exact (rfl : true = true)⟩)))).trans (rfl)).symm
        subst w_v3
        refine r_aload_n hC dX6_areKept_16 rfl ?_
        refine z_getR hM dX6_areKept_17 fl_RX6_31 rfl rfl (vld_of (n := 1) rfl (by omega) (by omega)) ?_
        refine r_iload_n hC dX6_areKept_20 rfl ?_
        refine z_iald hM dX6_areKept_21 rfl (by omega) (by omega) (fun v4 h_v4 o_v4 t_v4 => ?_)
        have w_v4 := ((t_v4 (Or.inr (Or.inr (Or.inr ⟨rfl, by first | exact True.intro | exact (rfl : true = true)⟩)))).trans (rfl)).symm
        subst w_v4
        refine r_icmp_eq (tgt := 27) hC dX6_areKept_22 rfl (fun h5 => ?_) (fun h5 => ?_)
        · refine r_iincE hC ((w1 + 1)) dX6_areKept_27 rfl rfl (by omega) (by unfold inR; omega) ?_
          refine r_goto (tgt := 2) hC dX6_areKept_30 rfl ?_
          exact ih2 ((w1 + 1))  (by omega) (by intro k a b; first | omega | (rcases (by omega : k < w1 ∨ k = w1) with z | z; exact i0_2 k a z; subst z; omega)) (by omega) (by omega)  
        · refine r_iconst hC dX6_areKept_25 rfl ?_
          refine y_zret hK rfl dX6_areKept_26 (by omega) ?_
          exact k0 (fun q => by have := q w1 (by omega) (by omega); omega)
  exact L2 9 (0)  (by omega) (by intro k a b; first | omega | (rcases (by omega : k < w1 ∨ k = w1) with z | z; exact i0_2 k a z; subst z; omega)) (by omega) (by omega)  
theorem y_same {eb : Bool} {t : Int} {V : Mm} {d : Nat} {P : Option Vl → Mm → Prop} {σ : Mm} {l o : Int}  {σ0 : Mm} (ht : 6 ≤ t ∧ t ≤ 7) (hR : RS t σ0 V σ) (hG : GI V)  (k : ∀ (r : Int) (ρ : Mm), saA V l o r → RS t σ0 V ρ → P (some (vI r)) ρ) : WT (true, eb, true) (d + 4) 234 [vR 30 0, vI l, vI o] σ P := by
  refine WT_in fun K hK => ?_
  have hK : StpY (true, eb, true) cX6_same RX6 (some .int) (WT (true, eb, true) (d + 3)) P K := hK
  have hM := hK.1
  have hC := hK.1.1
  show K 0 [some (vR 30 0), some (vI l), some (vI o)] [] σ
  refine r_rngz hC (fun g0 => ?_)
  have r_l : -2147483648 ≤ l ∧ l ≤ 2147483647 := inR_le (g0 (vI l) (by simp))
  have r_o : -2147483648 ≤ o ∧ o ≤ 2147483647 := inR_le (g0 (vI o) (by simp))
  have hcl := hG.2.1.2.2.2.2.2.2.2
  have hrow := hG.2.1.2.2.1
  refine r_aload_n hC dX6_same_0 rfl ?_
  refine r_iload_n hC dX6_same_1 rfl ?_
  refine r_iload_n hC dX6_same_2 rfl ?_
  refine z_inv2 hM dX6_same_3 vl_RX6_280 rfl rfl rfl (Nat.le_of_ble_eq_true rfl) (Nat.le_of_ble_eq_true rfl) ?_
  refine y_areAlike (V := V) ht ⟨hR.1, hR.2.1, hR.2.2⟩ hG (fun h1 => ?_) (fun h1 => ?_)
  · unfold saC opV at h1
    have hop_ : V 7 o 2 = V 7 l 2 := by omega
    have h6_l := hG.1.h7 (l := l) (by omega) (by omega)
    have h6_o := hG.1.h7 (l := o) (by omega) (by omega)
    have hO_l := (hG.2.1.2.2.2.1 l (by omega) (by omega)).2
    have n_l := numF_rng (V 7 l 2)
    refine r_if_ne (tgt := 11) hC dX6_same_6 rfl (fun h2 => ?_) (fun h2 => by omega)
    refine r_aload_n hC dX6_same_11 rfl ?_
    refine r_iload_n hC dX6_same_12 rfl ?_
    refine z_inv1 hM dX6_same_13 vl_RX6_116 rfl rfl rfl (Nat.le_of_ble_eq_true rfl) (Nat.le_of_ble_eq_true rfl) ?_
    refine y_heldOf (by omega) (fun o3 => ?_)
    have e4 : σ 31 0 (22 * l + 5) = (V 7 l 6) := (hR.1.a7 (s := 6) (f := 5) (by omega) (by omega) (by omega)).trans (rfl)
    rw [e4] at o3 ⊢
    have qo3 : 0 ≤ (V 7 l 6) ∧ (V 7 l 6) ≤ 121 := o3.1 (by omega)
    refine r_if_eq (tgt := 27) hC dX6_same_16 rfl (fun h5 => ?_) (fun h5 => ?_)
    · refine r_aload_n hC dX6_same_27 rfl ?_
      refine r_iload_n hC dX6_same_28 rfl ?_
      refine z_inv1 hM dX6_same_29 vl_RX6_116 rfl rfl rfl (Nat.le_of_ble_eq_true rfl) (Nat.le_of_ble_eq_true rfl) ?_
      refine y_heldOf (by omega) (fun o6 => ?_)
      have e7 : σ 31 0 (22 * l + 5) = (V 7 l 6) := (hR.1.a7 (s := 6) (f := 5) (by omega) (by omega) (by omega)).trans (rfl)
      rw [e7] at o6 ⊢
      have qo6 : 0 ≤ (V 7 l 6) ∧ (V 7 l 6) ≤ 121 := o6.1 (by omega)
      refine r_aload_n hC dX6_same_32 rfl ?_
      refine r_iload_n hC dX6_same_33 rfl ?_
      refine z_inv1 hM dX6_same_34 vl_RX6_116 rfl rfl rfl (Nat.le_of_ble_eq_true rfl) (Nat.le_of_ble_eq_true rfl) ?_
      refine y_heldOf (by omega) (fun o8 => ?_)
      have e9 : σ 31 0 (22 * o + 5) = (V 7 o 6) := (hR.1.a7 (s := 6) (f := 5) (by omega) (by omega) (by omega)).trans (rfl)
      rw [e9] at o8 ⊢
      have qo8 : 0 ≤ (V 7 o 6) ∧ (V 7 o 6) ≤ 121 := o8.1 (by omega)
      refine r_icmp_ne (tgt := 44) hC dX6_same_37 rfl (fun h10 => ?_) (fun h10 => ?_)
      · refine r_iconst hC dX6_same_44 rfl ?_
        refine y_iret hK rfl dX6_same_45 ?_
        have hA : saA V l o 0 := by
          refine ⟨fun z => absurd (by unfold saC opV; omega) z, fun _ => ?_⟩
          unfold alk
          rw [if_pos (by omega)]
          exact ⟨fun z => absurd z (by omega), fun _ => rfl⟩
        exact k _ _ hA ⟨hR.1, hR.2.1, hR.2.2⟩
      · refine r_iconst hC dX6_same_40 rfl ?_
        refine r_goto (tgt := 45) hC dX6_same_41 rfl ?_
        refine y_iret hK rfl dX6_same_45 ?_
        have hA : saA V l o 1 := by
          refine ⟨fun z => absurd (by unfold saC opV; omega) z, fun _ => ?_⟩
          unfold alk
          rw [if_pos (by omega)]
          exact ⟨fun _ => rfl, fun z => absurd (by omega) z⟩
        exact k _ _ hA ⟨hR.1, hR.2.1, hR.2.2⟩
    · refine r_aload_n hC dX6_same_19 rfl ?_
      refine r_iload_n hC dX6_same_20 rfl ?_
      refine z_inv1 hM dX6_same_21 vl_RX6_116 rfl rfl rfl (Nat.le_of_ble_eq_true rfl) (Nat.le_of_ble_eq_true rfl) ?_
      refine y_heldOf (by omega) (fun o11 => ?_)
      have e12 : σ 31 0 (22 * o + 5) = (V 7 o 6) := (hR.1.a7 (s := 6) (f := 5) (by omega) (by omega) (by omega)).trans (rfl)
      rw [e12] at o11 ⊢
      have qo11 : 0 ≤ (V 7 o 6) ∧ (V 7 o 6) ≤ 121 := o11.1 (by omega)
      refine r_if_ne (tgt := 46) hC dX6_same_24 rfl (fun h13 => ?_) (fun h13 => ?_)
      · refine r_aload_n hC dX6_same_46 rfl ?_
        refine r_iload_n hC dX6_same_47 rfl ?_
        refine z_inv1 hM dX6_same_48 vl_RX6_194 rfl rfl rfl (Nat.le_of_ble_eq_true rfl) (Nat.le_of_ble_eq_true rfl) ?_
        refine y_layAllK (V := V) (l := l) (by omega) ht ⟨hR.1, hR.2.1, hR.2.2⟩ (by omega) (hG.2.1.lk hG.1 (by omega) (by omega)) (fun ρ14 Rρ14 f_ρ14 w_ρ14 => ?_)
        refine r_aload_n hC dX6_same_51 rfl ?_
        refine r_aload_n hC dX6_same_52 rfl ?_
        refine r_iload_n hC dX6_same_53 rfl ?_
        refine r_iconst hC dX6_same_54 rfl ?_
        refine z_inv2 hM dX6_same_55 vl_RX6_80 rfl rfl rfl (Nat.le_of_ble_eq_true rfl) (Nat.le_of_ble_eq_true rfl) ?_
        refine y_of (by omega) (by omega) (by omega) (fun o15 => ?_)
        have e16 : ρ14 31 0 (22 * l + 1) = (V 7 l 2) := (Rρ14.1.a7 (s := 2) (f := 1) (by omega) (by omega) (by omega)).trans (rfl)
        rw [e16] at o15 ⊢
        refine z_inv1 hM dX6_same_58 vl_RX6_161 rfl rfl rfl (Nat.le_of_ble_eq_true rfl) (Nat.le_of_ble_eq_true rfl) ?_
        refine y_goThroughW (n := (V 7 l 6).toNat) (u := (V 9 l)) (by omega) (by omega) (by omega) w_ρ14 (fun j h0 h1 => (hrow l j (by omega) (by omega) h0 (by omega)).2) (fun ρ17 g_ρ17 c_ρ17 => ?_)
        have d_ρ17 : ∀ k : Int, 0 ≤ k → k < numF (V 7 l 2) → ρ17 38 0 k = cmN (V 16 0) (V 15 0) (V 7 l 2) (V 9 l) (V 7 l 6).toNat k := fun k a b => (c_ρ17 k a b).trans (cmN_t (fun j a b => Rρ14.1.t16 a b) (fun j a b => Rρ14.1.t15 a b) (fun j a b => by rw [Rρ14.1.t15 a (by omega)]; exact hcl j a b) _ _ _ _)
        have f_ρ17 : FKx ρ14 ρ17 := fun c p q h => g_ρ17 c p q (by omega)
        have Rρ17 : RS t σ0 V ρ17 := RS.mk2 Rρ14.1 Rρ14.2.1 Rρ14.2.2 (fun c p q h => f_ρ17 c p q (by omega))
        refine r_aload_n hC dX6_same_61 rfl ?_
        refine r_aload_n hC dX6_same_62 rfl ?_
        refine r_iload_n hC dX6_same_63 rfl ?_
        refine r_iconst hC dX6_same_64 rfl ?_
        refine z_inv2 hM dX6_same_65 vl_RX6_80 rfl rfl rfl (Nat.le_of_ble_eq_true rfl) (Nat.le_of_ble_eq_true rfl) ?_
        refine y_of (by omega) (by omega) (by omega) (fun o18 => ?_)
        have e19 : ρ17 31 0 (22 * l + 1) = (V 7 l 2) := (Rρ17.1.a7 (s := 2) (f := 1) (by omega) (by omega) (by omega)).trans (rfl)
        rw [e19] at o18 ⊢
        refine z_inv1 hM dX6_same_68 vl_RX6_274 rfl rfl rfl (Nat.le_of_ble_eq_true rfl) (Nat.le_of_ble_eq_true rfl) ?_
        refine y_keepNumbers (by omega) (fun ρ20 g_ρ20 k_ρ20 => ?_)
        have kp_ρ20 : ∀ k : Int, 0 ≤ k → k < numF (V 7 l 2) → ρ20 49 0 k = cmN (V 16 0) (V 15 0) (V 7 l 2) (V 9 l) (V 7 l 6).toNat k := fun k a b => (k_ρ20 k a b).trans (d_ρ17 k a b)
        have Rρ20 : RS t σ0 V ρ20 := RS.mk2 Rρ17.1 Rρ17.2.1 Rρ17.2.2 (fun c p q h => g_ρ20 c p q (by omega))
        skip
        refine r_aload_n hC dX6_same_71 rfl ?_
        refine r_iload_n hC dX6_same_72 rfl ?_
        refine z_inv1 hM dX6_same_73 vl_RX6_194 rfl rfl rfl (Nat.le_of_ble_eq_true rfl) (Nat.le_of_ble_eq_true rfl) ?_
        refine y_layAllK (V := V) (l := o) (by omega) ht ⟨Rρ20.1, Rρ20.2.1, Rρ20.2.2⟩ (by omega) (hG.2.1.lk hG.1 (by omega) (by omega)) (fun ρ21 Rρ21 f_ρ21 w_ρ21 => ?_)
        have kp_ρ21 : ∀ k : Int, 0 ≤ k → k < numF (V 7 l 2) → ρ21 49 0 k = cmN (V 16 0) (V 15 0) (V 7 l 2) (V 9 l) (V 7 l 6).toNat k := fun k a b => (f_ρ21 49 0 k (by decide)).trans (kp_ρ20 k a b)
        refine r_aload_n hC dX6_same_76 rfl ?_
        refine r_aload_n hC dX6_same_77 rfl ?_
        refine r_iload_n hC dX6_same_78 rfl ?_
        refine r_iconst hC dX6_same_79 rfl ?_
        refine z_inv2 hM dX6_same_80 vl_RX6_80 rfl rfl rfl (Nat.le_of_ble_eq_true rfl) (Nat.le_of_ble_eq_true rfl) ?_
        refine y_of (by omega) (by omega) (by omega) (fun o22 => ?_)
        have e23 : ρ21 31 0 (22 * o + 1) = (V 7 o 2) := (Rρ21.1.a7 (s := 2) (f := 1) (by omega) (by omega) (by omega)).trans (rfl)
        rw [e23] at o22 ⊢
        refine z_inv1 hM dX6_same_83 vl_RX6_161 rfl rfl rfl (Nat.le_of_ble_eq_true rfl) (Nat.le_of_ble_eq_true rfl) ?_
        refine y_goThroughW (n := (V 7 o 6).toNat) (u := (V 9 o)) (by omega) (by omega) (by omega) w_ρ21 (fun j h0 h1 => (hrow o j (by omega) (by omega) h0 (by omega)).2) (fun ρ24 g_ρ24 c_ρ24 => ?_)
        have d_ρ24 : ∀ k : Int, 0 ≤ k → k < numF (V 7 o 2) → ρ24 38 0 k = cmN (V 16 0) (V 15 0) (V 7 o 2) (V 9 o) (V 7 o 6).toNat k := fun k a b => (c_ρ24 k a b).trans (cmN_t (fun j a b => Rρ21.1.t16 a b) (fun j a b => Rρ21.1.t15 a b) (fun j a b => by rw [Rρ21.1.t15 a (by omega)]; exact hcl j a b) _ _ _ _)
        rw [hop_] at d_ρ24
        have f_ρ24 : FKx ρ21 ρ24 := fun c p q h => g_ρ24 c p q (by omega)
        have Rρ24 : RS t σ0 V ρ24 := RS.mk2 Rρ21.1 Rρ21.2.1 Rρ21.2.2 (fun c p q h => f_ρ24 c p q (by omega))
        have kp_ρ24 : ∀ k : Int, 0 ≤ k → k < numF (V 7 l 2) → ρ24 49 0 k = cmN (V 16 0) (V 15 0) (V 7 l 2) (V 9 l) (V 7 l 6).toNat k := fun k a b => (f_ρ24 49 0 k (by decide)).trans (kp_ρ21 k a b)
        refine r_aload_n hC dX6_same_86 rfl ?_
        refine r_aload_n hC dX6_same_87 rfl ?_
        refine r_iload_n hC dX6_same_88 rfl ?_
        refine r_iconst hC dX6_same_89 rfl ?_
        refine z_inv2 hM dX6_same_90 vl_RX6_80 rfl rfl rfl (Nat.le_of_ble_eq_true rfl) (Nat.le_of_ble_eq_true rfl) ?_
        refine y_of (by omega) (by omega) (by omega) (fun o25 => ?_)
        have e26 : ρ24 31 0 (22 * o + 1) = (V 7 o 2) := (Rρ24.1.a7 (s := 2) (f := 1) (by omega) (by omega) (by omega)).trans (rfl)
        rw [e26] at o25 ⊢
        refine z_inv1 hM dX6_same_93 vl_RX6_277 rfl rfl rfl (Nat.le_of_ble_eq_true rfl) (Nat.le_of_ble_eq_true rfl) ?_
        refine y_areKept (by omega) (fun hk_93 => ?_) (fun hk_93 => ?_)
        · rw [hop_] at hk_93
          have hq_ : ∀ k : Int, 0 ≤ k → k < numF (V 7 l 2) → cmN (V 16 0) (V 15 0) (V 7 l 2) (V 9 o) (V 7 o 6).toNat k = cmN (V 16 0) (V 15 0) (V 7 l 2) (V 9 l) (V 7 l 6).toNat k := fun k a b => ((d_ρ24 k a b).symm.trans ((hk_93 k a b).symm)).trans (kp_ρ24 k a b)
          refine r_if_eq (tgt := 103) hC dX6_same_96 rfl (fun h27 => by omega) (fun h27 => ?_)
          refine r_iconst hC dX6_same_99 rfl ?_
          refine r_goto (tgt := 104) hC dX6_same_100 rfl ?_
          refine y_iret hK rfl dX6_same_104 ?_
          have hA : saA V l o 1 := by
            refine ⟨fun z => absurd (by unfold saC opV; omega) z, fun _ => ?_⟩
            unfold alk
            rw [if_neg (by omega)]
            exact ⟨fun _ => rfl, fun z => absurd hq_ z⟩
          exact k _ _ hA ⟨Rρ24.1, Rρ24.2.1, Rρ24.2.2⟩
        · rw [hop_] at hk_93
          have hq_ : ¬ ∀ k : Int, 0 ≤ k → k < numF (V 7 l 2) → cmN (V 16 0) (V 15 0) (V 7 l 2) (V 9 o) (V 7 o 6).toNat k = cmN (V 16 0) (V 15 0) (V 7 l 2) (V 9 l) (V 7 l 6).toNat k := fun q => hk_93 (fun k a b => (kp_ρ24 k a b).trans ((q k a b).symm.trans (d_ρ24 k a b).symm))
          refine r_if_eq (tgt := 103) hC dX6_same_96 rfl (fun h28 => ?_) (fun h28 => by omega)
          refine r_iconst hC dX6_same_103 rfl ?_
          refine y_iret hK rfl dX6_same_104 ?_
          have hA : saA V l o 0 := by
            refine ⟨fun z => absurd (by unfold saC opV; omega) z, fun _ => ?_⟩
            unfold alk
            rw [if_neg (by omega)]
            exact ⟨fun z => absurd z hq_, fun _ => rfl⟩
          exact k _ _ hA ⟨Rρ24.1, Rρ24.2.1, Rρ24.2.2⟩
      · refine r_aload_n hC dX6_same_27 rfl ?_
        refine r_iload_n hC dX6_same_28 rfl ?_
        refine z_inv1 hM dX6_same_29 vl_RX6_116 rfl rfl rfl (Nat.le_of_ble_eq_true rfl) (Nat.le_of_ble_eq_true rfl) ?_
        refine y_heldOf (by omega) (fun o29 => ?_)
        have e30 : σ 31 0 (22 * l + 5) = (V 7 l 6) := (hR.1.a7 (s := 6) (f := 5) (by omega) (by omega) (by omega)).trans (rfl)
        rw [e30] at o29 ⊢
        have qo29 : 0 ≤ (V 7 l 6) ∧ (V 7 l 6) ≤ 121 := o29.1 (by omega)
        refine r_aload_n hC dX6_same_32 rfl ?_
        refine r_iload_n hC dX6_same_33 rfl ?_
        refine z_inv1 hM dX6_same_34 vl_RX6_116 rfl rfl rfl (Nat.le_of_ble_eq_true rfl) (Nat.le_of_ble_eq_true rfl) ?_
        refine y_heldOf (by omega) (fun o31 => ?_)
        have e32 : σ 31 0 (22 * o + 5) = (V 7 o 6) := (hR.1.a7 (s := 6) (f := 5) (by omega) (by omega) (by omega)).trans (rfl)
        rw [e32] at o31 ⊢
        have qo31 : 0 ≤ (V 7 o 6) ∧ (V 7 o 6) ≤ 121 := o31.1 (by omega)
        refine r_icmp_ne (tgt := 44) hC dX6_same_37 rfl (fun h33 => ?_) (fun h33 => by omega)
        refine r_iconst hC dX6_same_44 rfl ?_
        refine y_iret hK rfl dX6_same_45 ?_
        have hA : saA V l o 0 := by
          refine ⟨fun z => absurd (by unfold saC opV; omega) z, fun _ => ?_⟩
          unfold alk
          rw [if_pos (by omega)]
          exact ⟨fun z => absurd z (by omega), fun _ => rfl⟩
        exact k _ _ hA ⟨hR.1, hR.2.1, hR.2.2⟩
  · unfold saC opV at h1
    refine r_if_ne (tgt := 11) hC dX6_same_6 rfl (fun h34 => by omega) (fun h34 => ?_)
    refine r_iconst hC dX6_same_9 rfl ?_
    refine y_iret hK rfl dX6_same_10 ?_
    have hA : saA V l o (-1) := by
      exact ⟨fun _ => rfl, fun q => by unfold saC opV at q; omega⟩
    exact k _ _ hA ⟨hR.1, hR.2.1, hR.2.2⟩
theorem y_commutes {eb : Bool} {t : Int} {V : Mm} {d : Nat} {P : Option Vl → Mm → Prop} {σ : Mm} {l x : Int}  {σ0 : Mm} (ht : 6 ≤ t ∧ t ≤ 7) (hR : RS t σ0 V σ) (hG : GI V)  (k : ∀ (r : Int) (ρ : Mm), comA V l x r → RS t σ0 V ρ → P (some (vI r)) ρ) : WT (true, eb, true) (d + 4) 230 [vR 30 0, vI l, vI x] σ P := by
  refine WT_in fun K hK => ?_
  have hK : StpY (true, eb, true) cX6_commutes RX6 (some .int) (WT (true, eb, true) (d + 3)) P K := hK
  have hM := hK.1
  have hC := hK.1.1
  show K 0 [some (vR 30 0), some (vI l), some (vI x), none] [] σ
  refine r_rngz hC (fun g0 => ?_)
  have r_l : -2147483648 ≤ l ∧ l ≤ 2147483647 := inR_le (g0 (vI l) (by simp))
  have r_x : -2147483648 ≤ x ∧ x ≤ 2147483647 := inR_le (g0 (vI x) (by simp))
  have hcl := hG.2.1.2.2.2.2.2.2.2
  have hrow := hG.2.1.2.2.1
  refine r_aload_n hC dX6_commutes_0 rfl ?_
  refine r_iload_n hC dX6_commutes_1 rfl ?_
  refine z_inv1 hM dX6_commutes_2 vl_RX6_124 rfl rfl rfl (Nat.le_of_ble_eq_true rfl) (Nat.le_of_ble_eq_true rfl) ?_
  refine y_isLane (V := V) ht ⟨hR.1, hR.2.1, hR.2.2⟩ (fun h1 => ?_) (fun h1 => ?_)
  · unfold opV at h1
    have h6_l := hG.1.h7 (l := l) (by omega) (by omega)
    have hO_l := (hG.2.1.2.2.2.1 l (by omega) (by omega)).2
    refine r_if_eq (tgt := 23) hC dX6_commutes_5 rfl (fun h2 => by omega) (fun h2 => ?_)
    refine r_iload_n hC dX6_commutes_8 rfl ?_
    refine r_iconst hC dX6_commutes_9 rfl ?_
    refine r_aload_n hC dX6_commutes_10 rfl ?_
    refine r_iload_n hC dX6_commutes_11 rfl ?_
    refine z_inv1 hM dX6_commutes_12 vl_RX6_116 rfl rfl rfl (Nat.le_of_ble_eq_true rfl) (Nat.le_of_ble_eq_true rfl) ?_
    refine y_heldOf (by omega) (fun o3 => ?_)
    have e4 : σ 31 0 (22 * l + 5) = (V 7 l 6) := (hR.1.a7 (s := 6) (f := 5) (by omega) (by omega) (by omega)).trans (rfl)
    rw [e4] at o3 ⊢
    have qo3 : 0 ≤ (V 7 l 6) ∧ (V 7 l 6) ≤ 121 := o3.1 (by omega)
    refine r_iconst hC dX6_commutes_15 rfl ?_
    refine r_isubE hC (((V 7 l 6) - 2)) dX6_commutes_16 (by omega) (by unfold inR; omega) ?_
    refine z_ins3 hM dX6_commutes_17 tl_RX6_76 rfl (Nat.le_of_ble_eq_true rfl) (Nat.le_of_ble_eq_true rfl) ?_
    refine m_isIn (fun h6 => ?_) (fun h6 => ?_)
    · refine r_if_ne (tgt := 25) hC dX6_commutes_20 rfl (fun h7 => ?_) (fun h7 => by omega)
      refine r_aload_n hC dX6_commutes_25 rfl ?_
      refine r_iload_n hC dX6_commutes_26 rfl ?_
      refine z_inv1 hM dX6_commutes_27 vl_RX6_194 rfl rfl rfl (Nat.le_of_ble_eq_true rfl) (Nat.le_of_ble_eq_true rfl) ?_
      refine y_layAllK (V := V) (l := l) (by omega) ht ⟨hR.1, hR.2.1, hR.2.2⟩ (by omega) (hG.2.1.lk hG.1 (by omega) (by omega)) (fun ρ8 Rρ8 f_ρ8 w_ρ8 => ?_)
      refine r_aload_n hC dX6_commutes_30 rfl ?_
      refine r_aload_n hC dX6_commutes_31 rfl ?_
      refine r_iload_n hC dX6_commutes_32 rfl ?_
      refine r_iconst hC dX6_commutes_33 rfl ?_
      refine z_inv2 hM dX6_commutes_34 vl_RX6_80 rfl rfl rfl (Nat.le_of_ble_eq_true rfl) (Nat.le_of_ble_eq_true rfl) ?_
      refine y_of (by omega) (by omega) (by omega) (fun o9 => ?_)
      have e10 : ρ8 31 0 (22 * l + 1) = (V 7 l 2) := (Rρ8.1.a7 (s := 2) (f := 1) (by omega) (by omega) (by omega)).trans (rfl)
      rw [e10] at o9 ⊢
      refine z_inv1 hM dX6_commutes_37 vl_RX6_161 rfl rfl rfl (Nat.le_of_ble_eq_true rfl) (Nat.le_of_ble_eq_true rfl) ?_
      refine y_goThroughW (n := (V 7 l 6).toNat) (u := (V 9 l)) (by omega) (by omega) (by omega) w_ρ8 (fun j h0 h1 => (hrow l j (by omega) (by omega) h0 (by omega)).2) (fun ρ11 g_ρ11 c_ρ11 => ?_)
      have d_ρ11 : ∀ k : Int, 0 ≤ k → k < numF (V 7 l 2) → ρ11 38 0 k = cmN (V 16 0) (V 15 0) (V 7 l 2) (V 9 l) (V 7 l 6).toNat k := fun k a b => (c_ρ11 k a b).trans (cmN_t (fun j a b => Rρ8.1.t16 a b) (fun j a b => Rρ8.1.t15 a b) (fun j a b => by rw [Rρ8.1.t15 a (by omega)]; exact hcl j a b) _ _ _ _)
      have f_ρ11 : FKx ρ8 ρ11 := fun c p q h => g_ρ11 c p q (by omega)
      have Rρ11 : RS t σ0 V ρ11 := RS.mk2 Rρ8.1 Rρ8.2.1 Rρ8.2.2 (fun c p q h => f_ρ11 c p q (by omega))
      refine r_aload_n hC dX6_commutes_40 rfl ?_
      refine r_aload_n hC dX6_commutes_41 rfl ?_
      refine r_iload_n hC dX6_commutes_42 rfl ?_
      refine r_iconst hC dX6_commutes_43 rfl ?_
      refine z_inv2 hM dX6_commutes_44 vl_RX6_80 rfl rfl rfl (Nat.le_of_ble_eq_true rfl) (Nat.le_of_ble_eq_true rfl) ?_
      refine y_of (by omega) (by omega) (by omega) (fun o12 => ?_)
      have e13 : ρ11 31 0 (22 * l + 1) = (V 7 l 2) := (Rρ11.1.a7 (s := 2) (f := 1) (by omega) (by omega) (by omega)).trans (rfl)
      rw [e13] at o12 ⊢
      refine z_inv1 hM dX6_commutes_47 vl_RX6_274 rfl rfl rfl (Nat.le_of_ble_eq_true rfl) (Nat.le_of_ble_eq_true rfl) ?_
      refine y_keepNumbers (by omega) (fun ρ14 g_ρ14 k_ρ14 => ?_)
      have kp_ρ14 : ∀ k : Int, 0 ≤ k → k < numF (V 7 l 2) → ρ14 49 0 k = cmN (V 16 0) (V 15 0) (V 7 l 2) (V 9 l) (V 7 l 6).toNat k := fun k a b => (k_ρ14 k a b).trans (d_ρ11 k a b)
      have Rρ14 : RS t σ0 V ρ14 := RS.mk2 Rρ11.1 Rρ11.2.1 Rρ11.2.2 (fun c p q h => g_ρ14 c p q (by omega))
      skip
      have w9_ : RWP ρ14 (V 9 l) (V 7 l 6).toNat := RWP.ext (RWP.ext w_ρ8 (g_ρ11 30 0 8 (by decide)) (fun j => g_ρ11 37 0 j (by show ¬ ((37 : Nat) = 38 ∧ (0 : Int) = 0); decide))) (g_ρ14 30 0 8 (by decide)) (fun j => g_ρ14 37 0 j (by decide))
      refine r_aload_n hC dX6_commutes_50 rfl ?_
      refine z_getR hM dX6_commutes_51 fl_RX6_28 rfl rfl (vld_of (n := 1) rfl (by omega) (by omega)) ?_
      refine r_iload_n hC dX6_commutes_54 rfl ?_
      refine z_iald hM dX6_commutes_55 rfl (by omega) (by omega) (fun v15 h_v15 o_v15 t_v15 => ?_)
      have w_v15 := (t_v15 (Or.inr (Or.inr (Or.inr ⟨rfl, by first | exact True.intro | exact (rfl : true = true)⟩)))).symm
      subst w_v15
      refine r_istore_n hC dX6_commutes_56 rfl ?_
      refine r_aload_n hC dX6_commutes_57 rfl ?_
      refine z_getR hM dX6_commutes_58 fl_RX6_28 rfl rfl (vld_of (n := 1) rfl (by omega) (by omega)) ?_
      refine r_iload_n hC dX6_commutes_61 rfl ?_
      refine r_aload_n hC dX6_commutes_62 rfl ?_
      refine z_getR hM dX6_commutes_63 fl_RX6_28 rfl rfl (vld_of (n := 1) rfl (by omega) (by omega)) ?_
      refine r_iload_n hC dX6_commutes_66 rfl ?_
      refine r_iconst hC dX6_commutes_67 rfl ?_
      refine r_iaddE hC ((x + 1)) dX6_commutes_68 (by omega) (by unfold inR; omega) ?_
      refine z_iald hM dX6_commutes_69 rfl (by omega) (by omega) (fun v16 h_v16 o_v16 t_v16 => ?_)
      have w_v16 := (t_v16 (Or.inr (Or.inr (Or.inr ⟨rfl, by first | exact True.intro | exact (rfl : true = true)⟩)))).symm
      subst w_v16
      refine z_iastT hM dX6_commutes_70 rfl (by omega) (by omega) ⟨Or.inr (by simp [DL]), Or.inr (by simp [DF])⟩ (by first | trivial | (simp only [Okv]; omega) | (simp [Okv]; try omega)) ?_
      obtain ⟨ρ17, e_ρ17⟩ : ∃ zz_, zz_ = mu ρ14 37 0 x (ρ14 37 0 (x + 1)) := ⟨_, rfl⟩
      rw [← e_ρ17]
      have f_ρ17 : FKx ρ14 ρ17 := fun c p q h => by rw [e_ρ17]; exact mu_ne (by omega)
      have Rρ17 : RS t σ0 V ρ17 := RS.mk2 Rρ14.1 Rρ14.2.1 Rρ14.2.2 (fun c p q h => f_ρ17 c p q (by omega))
      have kp_ρ17 : ∀ k : Int, 0 ≤ k → k < numF (V 7 l 2) → ρ17 49 0 k = cmN (V 16 0) (V 15 0) (V 7 l 2) (V 9 l) (V 7 l 6).toNat k := fun k a b => (f_ρ17 49 0 k (by decide)).trans (kp_ρ14 k a b)
      refine r_aload_n hC dX6_commutes_71 rfl ?_
      refine z_getR hM dX6_commutes_72 fl_RX6_28 rfl rfl (vld_of (n := 1) rfl (by omega) (by omega)) ?_
      refine r_iload_n hC dX6_commutes_75 rfl ?_
      refine r_iconst hC dX6_commutes_76 rfl ?_
      refine r_iaddE hC ((x + 1)) dX6_commutes_77 (by omega) (by unfold inR; omega) ?_
      refine r_iload_n hC dX6_commutes_78 rfl ?_
      refine z_iastT hM dX6_commutes_79 rfl (by omega) (by omega) ⟨Or.inr (by simp [DL]), Or.inr (by simp [DF])⟩ (by first | trivial | (simp only [Okv]; omega) | (simp [Okv]; try omega)) ?_
      obtain ⟨ρ18, e_ρ18⟩ : ∃ zz_, zz_ = mu ρ17 37 0 (x + 1) (ρ14 37 0 x) := ⟨_, rfl⟩
      rw [← e_ρ18]
      have f_ρ18 : FKx ρ17 ρ18 := fun c p q h => by rw [e_ρ18]; exact mu_ne (by omega)
      have Rρ18 : RS t σ0 V ρ18 := RS.mk2 Rρ17.1 Rρ17.2.1 Rρ17.2.2 (fun c p q h => f_ρ18 c p q (by omega))
      have kp_ρ18 : ∀ k : Int, 0 ≤ k → k < numF (V 7 l 2) → ρ18 49 0 k = cmN (V 16 0) (V 15 0) (V 7 l 2) (V 9 l) (V 7 l 6).toNat k := fun k a b => (f_ρ18 49 0 k (by decide)).trans (kp_ρ17 k a b)
      skip
      have w_ρ18 : RWP ρ18 (coU V l x) (V 7 l 6).toNat := by
        refine ⟨?_, fun j a b => ?_⟩
        · rw [e_ρ18, mu_ne (by omega), e_ρ17, mu_ne (by omega)]; exact w9_.1
        · show ρ18 37 0 j = V 9 l (if j = x then x + 1 else if j = x + 1 then x else j)
          rw [e_ρ18]
          by_cases h1 : j = x + 1
          · subst h1
            rw [mu_self, if_neg (by omega), if_pos rfl]
            exact w9_.2 x (by omega) (by omega)
          · rw [mu_ne (by omega), e_ρ17]
            by_cases h2 : j = x
            · subst h2
              rw [mu_self, if_pos rfl]
              exact w9_.2 (j + 1) (by omega) (by omega)
            · rw [mu_ne (by omega), if_neg h2, if_neg h1]
              exact w9_.2 j a b
      refine r_aload_n hC dX6_commutes_80 rfl ?_
      refine r_aload_n hC dX6_commutes_81 rfl ?_
      refine r_iload_n hC dX6_commutes_82 rfl ?_
      refine r_iconst hC dX6_commutes_83 rfl ?_
      refine z_inv2 hM dX6_commutes_84 vl_RX6_80 rfl rfl rfl (Nat.le_of_ble_eq_true rfl) (Nat.le_of_ble_eq_true rfl) ?_
      refine y_of (by omega) (by omega) (by omega) (fun o19 => ?_)
      have e20 : ρ18 31 0 (22 * l + 1) = (V 7 l 2) := (Rρ18.1.a7 (s := 2) (f := 1) (by omega) (by omega) (by omega)).trans (rfl)
      rw [e20] at o19 ⊢
      refine z_inv1 hM dX6_commutes_87 vl_RX6_161 rfl rfl rfl (Nat.le_of_ble_eq_true rfl) (Nat.le_of_ble_eq_true rfl) ?_
      refine y_goThroughW (n := (V 7 l 6).toNat) (u := (coU V l x)) (by omega) (by omega) (by omega) w_ρ18 (fun j h0 h1 => by unfold coU; exact (hrow l _ (by omega) (by omega) (by (repeat' split) <;> omega) (by (repeat' split) <;> omega)).2) (fun ρ21 g_ρ21 c_ρ21 => ?_)
      have d_ρ21 : ∀ k : Int, 0 ≤ k → k < numF (V 7 l 2) → ρ21 38 0 k = cmN (V 16 0) (V 15 0) (V 7 l 2) (coU V l x) (V 7 l 6).toNat k := fun k a b => (c_ρ21 k a b).trans (cmN_t (fun j a b => Rρ18.1.t16 a b) (fun j a b => Rρ18.1.t15 a b) (fun j a b => by rw [Rρ18.1.t15 a (by omega)]; exact hcl j a b) _ _ _ _)
      have f_ρ21 : FKx ρ18 ρ21 := fun c p q h => g_ρ21 c p q (by omega)
      have Rρ21 : RS t σ0 V ρ21 := RS.mk2 Rρ18.1 Rρ18.2.1 Rρ18.2.2 (fun c p q h => f_ρ21 c p q (by omega))
      have kp_ρ21 : ∀ k : Int, 0 ≤ k → k < numF (V 7 l 2) → ρ21 49 0 k = cmN (V 16 0) (V 15 0) (V 7 l 2) (V 9 l) (V 7 l 6).toNat k := fun k a b => (f_ρ21 49 0 k (by decide)).trans (kp_ρ18 k a b)
      refine r_aload_n hC dX6_commutes_90 rfl ?_
      refine r_aload_n hC dX6_commutes_91 rfl ?_
      refine r_iload_n hC dX6_commutes_92 rfl ?_
      refine r_iconst hC dX6_commutes_93 rfl ?_
      refine z_inv2 hM dX6_commutes_94 vl_RX6_80 rfl rfl rfl (Nat.le_of_ble_eq_true rfl) (Nat.le_of_ble_eq_true rfl) ?_
      refine y_of (by omega) (by omega) (by omega) (fun o22 => ?_)
      have e23 : ρ21 31 0 (22 * l + 1) = (V 7 l 2) := (Rρ21.1.a7 (s := 2) (f := 1) (by omega) (by omega) (by omega)).trans (rfl)
      rw [e23] at o22 ⊢
      refine z_inv1 hM dX6_commutes_97 vl_RX6_277 rfl rfl rfl (Nat.le_of_ble_eq_true rfl) (Nat.le_of_ble_eq_true rfl) ?_
      refine y_areKept (by omega) (fun hk_97 => ?_) (fun hk_97 => ?_)
      · have hq_ : ∀ k : Int, 0 ≤ k → k < numF (V 7 l 2) → cmN (V 16 0) (V 15 0) (V 7 l 2) (coU V l x) (V 7 l 6).toNat k = cmN (V 16 0) (V 15 0) (V 7 l 2) (V 9 l) (V 7 l 6).toNat k := fun k a b => ((d_ρ21 k a b).symm.trans ((hk_97 k a b).symm)).trans (kp_ρ21 k a b)
        refine r_if_eq (tgt := 107) hC dX6_commutes_100 rfl (fun h24 => by omega) (fun h24 => ?_)
        refine r_iconst hC dX6_commutes_103 rfl ?_
        refine r_goto (tgt := 108) hC dX6_commutes_104 rfl ?_
        refine y_iret hK rfl dX6_commutes_108 ?_
        have hA : comA V l x 1 := by
          refine ⟨fun z => absurd (by unfold comC opV; omega) z, fun _ => ?_⟩
          unfold alk
          rw [if_neg (by omega)]
          exact ⟨fun _ => rfl, fun z => absurd hq_ z⟩
        exact k _ _ hA ⟨Rρ21.1, Rρ21.2.1, Rρ21.2.2⟩
      · have hq_ : ¬ ∀ k : Int, 0 ≤ k → k < numF (V 7 l 2) → cmN (V 16 0) (V 15 0) (V 7 l 2) (coU V l x) (V 7 l 6).toNat k = cmN (V 16 0) (V 15 0) (V 7 l 2) (V 9 l) (V 7 l 6).toNat k := fun q => hk_97 (fun k a b => (kp_ρ21 k a b).trans ((q k a b).symm.trans (d_ρ21 k a b).symm))
        refine r_if_eq (tgt := 107) hC dX6_commutes_100 rfl (fun h25 => ?_) (fun h25 => by omega)
        refine r_iconst hC dX6_commutes_107 rfl ?_
        refine y_iret hK rfl dX6_commutes_108 ?_
        have hA : comA V l x 0 := by
          refine ⟨fun z => absurd (by unfold comC opV; omega) z, fun _ => ?_⟩
          unfold alk
          rw [if_neg (by omega)]
          exact ⟨fun z => absurd z hq_, fun _ => rfl⟩
        exact k _ _ hA ⟨Rρ21.1, Rρ21.2.1, Rρ21.2.2⟩
    · refine r_if_ne (tgt := 25) hC dX6_commutes_20 rfl (fun h26 => by omega) (fun h26 => ?_)
      refine r_iconst hC dX6_commutes_23 rfl ?_
      refine y_iret hK rfl dX6_commutes_24 ?_
      have hA : comA V l x (-1) := by
        exact ⟨fun _ => rfl, fun q => by unfold comC opV at q; omega⟩
      exact k _ _ hA ⟨hR.1, hR.2.1, hR.2.2⟩
  · unfold opV at h1
    refine r_if_eq (tgt := 23) hC dX6_commutes_5 rfl (fun h27 => ?_) (fun h27 => by omega)
    refine r_iconst hC dX6_commutes_23 rfl ?_
    refine y_iret hK rfl dX6_commutes_24 ?_
    have hA : comA V l x (-1) := by
      exact ⟨fun _ => rfl, fun q => by unfold comC opV at q; omega⟩
    exact k _ _ hA ⟨hR.1, hR.2.1, hR.2.2⟩
