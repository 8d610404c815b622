-- B: the reference: opening, BOXES
theorem SB.v0 {t : Int} {σ0 V ρ : Mm} {b a : Int} (h : SB t σ0 V ρ) : SB t σ0 (mu V 7 b 0 a) ρ := by
  obtain ⟨q1, q2, q3, q4, q5, q6, q7, q8⟩ := h
  refine ⟨fun m u g x y z => ?_, fun m u g x y z => ?_, fun m u x y z k => ?_, fun k x y => ?_, fun k x y => ?_, fun k x y => ?_, fun k x y => ?_, fun c x y z => ?_⟩
  · have z2 := z
    unfold P7 at z2
    rw [mu_ne (by first | assumption | decide | exact xs_ (by decide) | exact xc_ (by decide) | exact x31_ (by decide) | omega)]; exact q1 m u g x y z
  · rw [mu_ne (by first | assumption | decide | exact xs_ (by decide) | exact xc_ (by decide) | exact x31_ (by decide) | omega)]; exact q2 m u g x y z
  · rw [mu_ne (by first | assumption | decide | exact xs_ (by decide) | exact xc_ (by decide) | exact x31_ (by decide) | omega), mu_ne (by first | assumption | decide | exact xs_ (by decide) | exact xc_ (by decide) | exact x31_ (by decide) | omega), mu_ne (by first | assumption | decide | exact xs_ (by decide) | exact xc_ (by decide) | exact x31_ (by decide) | omega)]; exact q3 m u x y z k
  · rw [mu_ne (by first | assumption | decide | exact xs_ (by decide) | exact xc_ (by decide) | exact x31_ (by decide) | omega), mu_ne (by first | assumption | decide | exact xs_ (by decide) | exact xc_ (by decide) | exact x31_ (by decide) | omega), mu_ne (by first | assumption | decide | exact xs_ (by decide) | exact xc_ (by decide) | exact x31_ (by decide) | omega), mu_ne (by first | assumption | decide | exact xs_ (by decide) | exact xc_ (by decide) | exact x31_ (by decide) | omega), mu_ne (by first | assumption | decide | exact xs_ (by decide) | exact xc_ (by decide) | exact x31_ (by decide) | omega), mu_ne (by first | assumption | decide | exact xs_ (by decide) | exact xc_ (by decide) | exact x31_ (by decide) | omega)]; exact q4 k x y
  · rw [mu_ne (by first | assumption | decide | exact xs_ (by decide) | exact xc_ (by decide) | exact x31_ (by decide) | omega), mu_ne (by first | assumption | decide | exact xs_ (by decide) | exact xc_ (by decide) | exact x31_ (by decide) | omega), mu_ne (by first | assumption | decide | exact xs_ (by decide) | exact xc_ (by decide) | exact x31_ (by decide) | omega), mu_ne (by first | assumption | decide | exact xs_ (by decide) | exact xc_ (by decide) | exact x31_ (by decide) | omega)]; exact q5 k x y
  · rw [mu_ne (by first | assumption | decide | exact xs_ (by decide) | exact xc_ (by decide) | exact x31_ (by decide) | omega)]; exact q6 k x y
  · rw [mu_ne (by first | assumption | decide | exact xs_ (by decide) | exact xc_ (by decide) | exact x31_ (by decide) | omega)]; exact q7 k x y
  · exact q8 c x y z
/-- as FB, but for one BOX -/
def FX (b : Int) (V ρ : Mm) : Prop := ∀ l : Int, 4 ≤ l → l ≤ 6 → l ≠ b → V 7 l 1 = 1 → ρ 31 0 (22 * l + 21) = V 7 l 0
theorem FB.fx {V ρ : Mm} (h : FB V ρ) (b : Int) : FX b V ρ := fun l a c _ e => h l a c e
theorem FX.e {b : Int} {V W ρ ρ2 : Mm} (h : FX b V ρ) (e : ∀ m : Int, 4 ≤ m → m ≤ 6 → m ≠ b → ρ2 31 0 (22 * m + 21) = ρ 31 0 (22 * m + 21)) (ev : ∀ m y : Int, m ≠ b → W 7 m y = V 7 m y) : FX b W ρ2 := fun m x y z w => by
  rw [ev m 1 z] at w
  rw [e m x y z, ev m 0 z]
  exact h m x y z w
theorem FX.fb {b v : Int} {V ρ : Mm} (h : FX b V ρ) (e : ρ 31 0 (22 * b + 21) = v) : FB (mu V 7 b 0 v) ρ := fun m x y z => by
  by_cases hm : m = b
  · subst hm
    rw [mu_self]; exact e
  · rw [mu_ne (by first | assumption | decide | exact xs_ (by decide) | exact xc_ (by decide) | exact x31_ (by decide) | omega)] at z
    rw [mu_ne (by first | assumption | decide | exact xs_ (by decide) | exact xc_ (by decide) | exact x31_ (by decide) | omega)]
    exact h m x y hm z
theorem mu_back {V : Mm} {c : Nat} {x y v a : Int} (h : V c x y = a) : mu (mu V c x y v) c x y a = V := by
  funext c2 x2 y2
  by_cases e : c2 = c ∧ x2 = x ∧ y2 = y
  · obtain ⟨rfl, rfl, rfl⟩ := e
    rw [mu_self, h]
  · rw [mu_ne e, mu_ne e]
theorem ft_key {V ρ : Mm} (h : ∀ j : Int, 0 ≤ j → j < 16 → V 15 0 j = ρ 35 0 j) (hb : ∀ j : Int, 0 ≤ j → j < 16 → 0 ≤ V 15 0 j ∧ V 15 0 j ≤ 3) : trpF 15 V 3 = 64 ↔ fstA 35 ρ (64 : Int).toNat < 0 := by
  have e1 : trpF 15 V 3 = cntA 15 V (64 : Int).toNat := if_pos rfl
  have e2 := cnt_eq (k := 15) (k2 := 35) (σ := V) (ρ := ρ) h hb (64 : Int).toNat (by decide)
  have e3 := cnt_fst 35 ρ (64 : Int).toNat
  have e4 : ((64 : Int).toNat : Int) = 64 := by decide
  rw [e1, e2.1]
  clear e1 e2
  constructor
  · intro q
    have := e3.2.1.mp (by first | assumption | decide | exact xs_ (by decide) | exact xc_ (by decide) | exact x31_ (by decide) | omega)
    omega
  · intro q
    have := e3.2.1.mpr (by first | assumption | decide | exact xs_ (by decide) | exact xc_ (by decide) | exact x31_ (by decide) | omega)
    clear e3
    omega
abbrev cpT (y : Int) : Prop := (1 ≤ y ∧ y ≤ 6) ∨ y = 10 ∨ (12 ≤ y ∧ y ≤ 15)
def cpA (V : Mm) (a b : Int) : Mm := fun c x y => if x = b then (if c = 7 then (if cpT y then V 7 a y else V 7 b y) else if c = 11 then (if 0 ≤ y ∧ y ≤ 6 then V 11 a y else V 11 b y) else V c x y) else V c x y
def cpB (V : Mm) (a b n : Int) : Mm := fun c x y => if x = b ∧ (c = 8 ∨ c = 9 ∨ c = 10) ∧ 0 ≤ y ∧ y < n then V c a y else V c x y
theorem cpA_ne {V : Mm} {a b x y : Int} {c : Nat} (h : x ≠ b) : cpA V a b c x y = V c x y := if_neg h
theorem cpA_11 {V : Mm} {a b y : Int} (h : 0 ≤ y ∧ y ≤ 6) : cpA V a b 11 b y = V 11 a y := by
  unfold cpA
  rw [if_pos rfl, if_neg (by first | assumption | decide | exact xs_ (by decide) | exact xc_ (by decide) | exact x31_ (by decide) | omega), if_pos rfl, if_pos h]
theorem cpB_0 {V : Mm} {a b : Int} : cpB V a b 0 = V := by
  funext c x y
  exact if_neg (by first | assumption | decide | exact xs_ (by decide) | exact xc_ (by decide) | exact x31_ (by decide) | omega)
theorem cpB_7 {V : Mm} {a b n x y : Int} : cpB V a b n 7 x y = V 7 x y := if_neg (by first | assumption | decide | exact xs_ (by decide) | exact xc_ (by decide) | exact x31_ (by decide) | omega)
theorem cpB_a {V : Mm} {a b n y : Int} {c : Nat} (h : a ≠ b) : cpB V a b n c a y = V c a y := if_neg (by first | assumption | decide | exact xs_ (by decide) | exact xc_ (by decide) | exact x31_ (by decide) | omega)
theorem cpB_s {V : Mm} {a b n : Int} (h : a ≠ b) (h0 : 0 ≤ n) : ceM (cpB V a b n) a n b n = cpB V a b (n + 1) := by
  funext c x y
  unfold ceM
  rw [cpB_a h, cpB_a h, cpB_a h]
  by_cases hx : x = b ∧ y = n
  · obtain ⟨rfl, rfl⟩ := hx
    by_cases h8 : c = 8
    · subst h8
      rw [mu_ne (by first | assumption | decide | exact xs_ (by decide) | exact xc_ (by decide) | exact x31_ (by decide) | omega), mu_ne (by first | assumption | decide | exact xs_ (by decide) | exact xc_ (by decide) | exact x31_ (by decide) | omega), mu_self]
      exact (if_pos ⟨rfl, by omega, by omega, by omega⟩).symm
    by_cases h9 : c = 9
    · subst h9
      rw [mu_ne (by first | assumption | decide | exact xs_ (by decide) | exact xc_ (by decide) | exact x31_ (by decide) | omega), mu_self]
      exact (if_pos ⟨rfl, by omega, by omega, by omega⟩).symm
    by_cases h10 : c = 10
    · subst h10
      rw [mu_self]
      exact (if_pos ⟨rfl, by omega, by omega, by omega⟩).symm
    · rw [mu_ne (by first | assumption | decide | exact xs_ (by decide) | exact xc_ (by decide) | exact x31_ (by decide) | omega), mu_ne (by first | assumption | decide | exact xs_ (by decide) | exact xc_ (by decide) | exact x31_ (by decide) | omega), mu_ne (by first | assumption | decide | exact xs_ (by decide) | exact xc_ (by decide) | exact x31_ (by decide) | omega)]
      exact (if_neg (by first | assumption | decide | exact xs_ (by decide) | exact xc_ (by decide) | exact x31_ (by decide) | omega)).trans (if_neg (by first | assumption | decide | exact xs_ (by decide) | exact xc_ (by decide) | exact x31_ (by decide) | omega)).symm
  · rw [mu_ne (by first | assumption | decide | exact xs_ (by decide) | exact xc_ (by decide) | exact x31_ (by decide) | omega), mu_ne (by first | assumption | decide | exact xs_ (by decide) | exact xc_ (by decide) | exact x31_ (by decide) | omega), mu_ne (by first | assumption | decide | exact xs_ (by decide) | exact xc_ (by decide) | exact x31_ (by decide) | omega)]
    unfold cpB
    by_cases e : x = b ∧ (c = 8 ∨ c = 9 ∨ c = 10) ∧ 0 ≤ y ∧ y < n
    · rw [if_pos e, if_pos (by first | assumption | decide | exact xs_ (by decide) | exact xc_ (by decide) | exact x31_ (by decide) | omega)]
    · rw [if_neg e, if_neg (by first | assumption | decide | exact xs_ (by decide) | exact xc_ (by decide) | exact x31_ (by decide) | omega)]
theorem cpM_0 {V : Mm} {a b : Int} : cpM V a b 7 b 0 = V 7 a 0 := by
  unfold cpM
  rw [if_pos rfl, if_pos rfl, if_pos (by unfold cpS; omega)]
theorem cpM_6 {V : Mm} {a b : Int} : cpM V a b 7 b 6 = V 7 a 6 := by
  unfold cpM
  rw [if_pos rfl, if_pos rfl, if_pos (by unfold cpS; omega)]
theorem cpM_fin {V : Mm} {a b v : Int} (h : a ≠ b) : cpB (mu (cpA V a b) 7 b 0 v) a b (V 7 a 6) = mu (cpM V a b) 7 b 0 v := by
  funext c x y
  by_cases e0 : c = 7 ∧ x = b ∧ y = 0
  · obtain ⟨rfl, rfl, rfl⟩ := e0
    rw [cpB_7, mu_self, mu_self]
  rw [mu_ne e0]
  unfold cpB
  by_cases e : x = b ∧ (c = 8 ∨ c = 9 ∨ c = 10) ∧ 0 ≤ y ∧ y < V 7 a 6
  · rw [if_pos e, mu_ne (by first | assumption | decide | exact xs_ (by decide) | exact xc_ (by decide) | exact x31_ (by decide) | omega), cpA_ne h]
    obtain ⟨rfl, e8, e2⟩ := e
    unfold cpM
    rw [if_pos rfl, if_neg (by first | assumption | decide | exact xs_ (by decide) | exact xc_ (by decide) | exact x31_ (by decide) | omega), if_pos e8, if_pos e2]
  · rw [if_neg e, mu_ne e0]
    unfold cpA cpM
    by_cases hx : x = b
    · subst hx
      rw [if_pos rfl, if_pos rfl]
      by_cases h7 : c = 7
      · subst h7
        rw [if_pos rfl, if_pos rfl]
        by_cases hy : cpT y
        · rw [if_pos hy, if_pos (by unfold cpT at hy; unfold cpS; omega)]
        · rw [if_neg hy, if_neg (by unfold cpT at hy; unfold cpS; omega)]
      · rw [if_neg h7, if_neg h7]
        by_cases h8 : c = 8 ∨ c = 9 ∨ c = 10
        · rw [if_neg (by first | assumption | decide | exact xs_ (by decide) | exact xc_ (by decide) | exact x31_ (by decide) | omega), if_pos h8, if_neg (by first | assumption | decide | exact xs_ (by decide) | exact xc_ (by decide) | exact x31_ (by decide) | omega)]
        · rw [if_neg h8]
    · rw [if_neg hx, if_neg hx]
theorem bg24 {V : Mm} {l o b z y : Int} : bgM V l o b z y = (mu (mu (mu (mu (mu (mu (mu (mu (mu (mu (mu (mu (mu (mu (mu (mu (mu (mu (mu (mu (mu (mu (mu (mu V 7 l 1 0) 7 l 2 0) 7 l 3 0) 7 l 4 0) 7 l 5 0) 7 l 6 0) 7 l 10 0) 7 l 12 0) 7 l 13 0) 7 l 14 0) 7 l 15 0) 11 l 0 0) 11 l 1 0) 11 l 2 0) 11 l 3 0) 11 l 4 0) 11 l 5 0) 11 l 6 0) 7 l 1 1) 7 l 2 o) 7 l 3 b) 7 l 4 z) 7 l 5 y) 7 l 10 (-1)) := by
  funext c x t
  by_cases hx : l = x
  · subst hx
    unfold bgM
    rw [if_pos rfl]
    by_cases c7 : c = 7
    · subst c7
      rw [if_pos rfl]
      by_cases t1 : t = 1
      · subst t1
        rw [mu_ne (by first | assumption | decide | exact xs_ (by decide) | exact xc_ (by decide) | exact x31_ (by decide) | omega), mu_ne (by first | assumption | decide | exact xs_ (by decide) | exact xc_ (by decide) | exact x31_ (by decide) | omega), mu_ne (by first | assumption | decide | exact xs_ (by decide) | exact xc_ (by decide) | exact x31_ (by decide) | omega), mu_ne (by first | assumption | decide | exact xs_ (by decide) | exact xc_ (by decide) | exact x31_ (by decide) | omega), mu_ne (by first | assumption | decide | exact xs_ (by decide) | exact xc_ (by decide) | exact x31_ (by decide) | omega), mu_self]
        first | rfl | (simp [bgR]; done)
      by_cases t2 : t = 2
      · subst t2
        rw [mu_ne (by first | assumption | decide | exact xs_ (by decide) | exact xc_ (by decide) | exact x31_ (by decide) | omega), mu_ne (by first | assumption | decide | exact xs_ (by decide) | exact xc_ (by decide) | exact x31_ (by decide) | omega), mu_ne (by first | assumption | decide | exact xs_ (by decide) | exact xc_ (by decide) | exact x31_ (by decide) | omega), mu_ne (by first | assumption | decide | exact xs_ (by decide) | exact xc_ (by decide) | exact x31_ (by decide) | omega), mu_self]
        first | rfl | (simp [bgR]; done)
      by_cases t3 : t = 3
      · subst t3
        rw [mu_ne (by first | assumption | decide | exact xs_ (by decide) | exact xc_ (by decide) | exact x31_ (by decide) | omega), mu_ne (by first | assumption | decide | exact xs_ (by decide) | exact xc_ (by decide) | exact x31_ (by decide) | omega), mu_ne (by first | assumption | decide | exact xs_ (by decide) | exact xc_ (by decide) | exact x31_ (by decide) | omega), mu_self]
        first | rfl | (simp [bgR]; done)
      by_cases t4 : t = 4
      · subst t4
        rw [mu_ne (by first | assumption | decide | exact xs_ (by decide) | exact xc_ (by decide) | exact x31_ (by decide) | omega), mu_ne (by first | assumption | decide | exact xs_ (by decide) | exact xc_ (by decide) | exact x31_ (by decide) | omega), mu_self]
        first | rfl | (simp [bgR]; done)
      by_cases t5 : t = 5
      · subst t5
        rw [mu_ne (by first | assumption | decide | exact xs_ (by decide) | exact xc_ (by decide) | exact x31_ (by decide) | omega), mu_self]
        first | rfl | (simp [bgR]; done)
      by_cases t6 : t = 6
      · subst t6
        rw [mu_ne (by first | assumption | decide | exact xs_ (by decide) | exact xc_ (by decide) | exact x31_ (by decide) | omega), mu_ne (by first | assumption | decide | exact xs_ (by decide) | exact xc_ (by decide) | exact x31_ (by decide) | omega), mu_ne (by first | assumption | decide | exact xs_ (by decide) | exact xc_ (by decide) | exact x31_ (by decide) | omega), mu_ne (by first | assumption | decide | exact xs_ (by decide) | exact xc_ (by decide) | exact x31_ (by decide) | omega), mu_ne (by first | assumption | decide | exact xs_ (by decide) | exact xc_ (by decide) | exact x31_ (by decide) | omega), mu_ne (by first | assumption | decide | exact xs_ (by decide) | exact xc_ (by decide) | exact x31_ (by decide) | omega), mu_ne (by first | assumption | decide | exact xs_ (by decide) | exact xc_ (by decide) | exact x31_ (by decide) | omega), mu_ne (by first | assumption | decide | exact xs_ (by decide) | exact xc_ (by decide) | exact x31_ (by decide) | omega), mu_ne (by first | assumption | decide | exact xs_ (by decide) | exact xc_ (by decide) | exact x31_ (by decide) | omega), mu_ne (by first | assumption | decide | exact xs_ (by decide) | exact xc_ (by decide) | exact x31_ (by decide) | omega), mu_ne (by first | assumption | decide | exact xs_ (by decide) | exact xc_ (by decide) | exact x31_ (by decide) | omega), mu_ne (by first | assumption | decide | exact xs_ (by decide) | exact xc_ (by decide) | exact x31_ (by decide) | omega), mu_ne (by first | assumption | decide | exact xs_ (by decide) | exact xc_ (by decide) | exact x31_ (by decide) | omega), mu_ne (by first | assumption | decide | exact xs_ (by decide) | exact xc_ (by decide) | exact x31_ (by decide) | omega), mu_ne (by first | assumption | decide | exact xs_ (by decide) | exact xc_ (by decide) | exact x31_ (by decide) | omega), mu_ne (by first | assumption | decide | exact xs_ (by decide) | exact xc_ (by decide) | exact x31_ (by decide) | omega), mu_ne (by first | assumption | decide | exact xs_ (by decide) | exact xc_ (by decide) | exact x31_ (by decide) | omega), mu_ne (by first | assumption | decide | exact xs_ (by decide) | exact xc_ (by decide) | exact x31_ (by decide) | omega), mu_self]
        first | rfl | (simp [bgR]; done)
      by_cases t10 : t = 10
      · subst t10
        rw [mu_self]
        first | rfl | (simp [bgR]; done)
      by_cases t12 : t = 12
      · subst t12
        rw [mu_ne (by first | assumption | decide | exact xs_ (by decide) | exact xc_ (by decide) | exact x31_ (by decide) | omega), mu_ne (by first | assumption | decide | exact xs_ (by decide) | exact xc_ (by decide) | exact x31_ (by decide) | omega), mu_ne (by first | assumption | decide | exact xs_ (by decide) | exact xc_ (by decide) | exact x31_ (by decide) | omega), mu_ne (by first | assumption | decide | exact xs_ (by decide) | exact xc_ (by decide) | exact x31_ (by decide) | omega), mu_ne (by first | assumption | decide | exact xs_ (by decide) | exact xc_ (by decide) | exact x31_ (by decide) | omega), mu_ne (by first | assumption | decide | exact xs_ (by decide) | exact xc_ (by decide) | exact x31_ (by decide) | omega), mu_ne (by first | assumption | decide | exact xs_ (by decide) | exact xc_ (by decide) | exact x31_ (by decide) | omega), mu_ne (by first | assumption | decide | exact xs_ (by decide) | exact xc_ (by decide) | exact x31_ (by decide) | omega), mu_ne (by first | assumption | decide | exact xs_ (by decide) | exact xc_ (by decide) | exact x31_ (by decide) | omega), mu_ne (by first | assumption | decide | exact xs_ (by decide) | exact xc_ (by decide) | exact x31_ (by decide) | omega), mu_ne (by first | assumption | decide | exact xs_ (by decide) | exact xc_ (by decide) | exact x31_ (by decide) | omega), mu_ne (by first | assumption | decide | exact xs_ (by decide) | exact xc_ (by decide) | exact x31_ (by decide) | omega), mu_ne (by first | assumption | decide | exact xs_ (by decide) | exact xc_ (by decide) | exact x31_ (by decide) | omega), mu_ne (by first | assumption | decide | exact xs_ (by decide) | exact xc_ (by decide) | exact x31_ (by decide) | omega), mu_ne (by first | assumption | decide | exact xs_ (by decide) | exact xc_ (by decide) | exact x31_ (by decide) | omega), mu_ne (by first | assumption | decide | exact xs_ (by decide) | exact xc_ (by decide) | exact x31_ (by decide) | omega), mu_self]
        first | rfl | (simp [bgR]; done)
      by_cases t13 : t = 13
      · subst t13
        rw [mu_ne (by first | assumption | decide | exact xs_ (by decide) | exact xc_ (by decide) | exact x31_ (by decide) | omega), mu_ne (by first | assumption | decide | exact xs_ (by decide) | exact xc_ (by decide) | exact x31_ (by decide) | omega), mu_ne (by first | assumption | decide | exact xs_ (by decide) | exact xc_ (by decide) | exact x31_ (by decide) | omega), mu_ne (by first | assumption | decide | exact xs_ (by decide) | exact xc_ (by decide) | exact x31_ (by decide) | omega), mu_ne (by first | assumption | decide | exact xs_ (by decide) | exact xc_ (by decide) | exact x31_ (by decide) | omega), mu_ne (by first | assumption | decide | exact xs_ (by decide) | exact xc_ (by decide) | exact x31_ (by decide) | omega), mu_ne (by first | assumption | decide | exact xs_ (by decide) | exact xc_ (by decide) | exact x31_ (by decide) | omega), mu_ne (by first | assumption | decide | exact xs_ (by decide) | exact xc_ (by decide) | exact x31_ (by decide) | omega), mu_ne (by first | assumption | decide | exact xs_ (by decide) | exact xc_ (by decide) | exact x31_ (by decide) | omega), mu_ne (by first | assumption | decide | exact xs_ (by decide) | exact xc_ (by decide) | exact x31_ (by decide) | omega), mu_ne (by first | assumption | decide | exact xs_ (by decide) | exact xc_ (by decide) | exact x31_ (by decide) | omega), mu_ne (by first | assumption | decide | exact xs_ (by decide) | exact xc_ (by decide) | exact x31_ (by decide) | omega), mu_ne (by first | assumption | decide | exact xs_ (by decide) | exact xc_ (by decide) | exact x31_ (by decide) | omega), mu_ne (by first | assumption | decide | exact xs_ (by decide) | exact xc_ (by decide) | exact x31_ (by decide) | omega), mu_ne (by first | assumption | decide | exact xs_ (by decide) | exact xc_ (by decide) | exact x31_ (by decide) | omega), mu_self]
        first | rfl | (simp [bgR]; done)
      by_cases t14 : t = 14
      · subst t14
        rw [mu_ne (by first | assumption | decide | exact xs_ (by decide) | exact xc_ (by decide) | exact x31_ (by decide) | omega), mu_ne (by first | assumption | decide | exact xs_ (by decide) | exact xc_ (by decide) | exact x31_ (by decide) | omega), mu_ne (by first | assumption | decide | exact xs_ (by decide) | exact xc_ (by decide) | exact x31_ (by decide) | omega), mu_ne (by first | assumption | decide | exact xs_ (by decide) | exact xc_ (by decide) | exact x31_ (by decide) | omega), mu_ne (by first | assumption | decide | exact xs_ (by decide) | exact xc_ (by decide) | exact x31_ (by decide) | omega), mu_ne (by first | assumption | decide | exact xs_ (by decide) | exact xc_ (by decide) | exact x31_ (by decide) | omega), mu_ne (by first | assumption | decide | exact xs_ (by decide) | exact xc_ (by decide) | exact x31_ (by decide) | omega), mu_ne (by first | assumption | decide | exact xs_ (by decide) | exact xc_ (by decide) | exact x31_ (by decide) | omega), mu_ne (by first | assumption | decide | exact xs_ (by decide) | exact xc_ (by decide) | exact x31_ (by decide) | omega), mu_ne (by first | assumption | decide | exact xs_ (by decide) | exact xc_ (by decide) | exact x31_ (by decide) | omega), mu_ne (by first | assumption | decide | exact xs_ (by decide) | exact xc_ (by decide) | exact x31_ (by decide) | omega), mu_ne (by first | assumption | decide | exact xs_ (by decide) | exact xc_ (by decide) | exact x31_ (by decide) | omega), mu_ne (by first | assumption | decide | exact xs_ (by decide) | exact xc_ (by decide) | exact x31_ (by decide) | omega), mu_ne (by first | assumption | decide | exact xs_ (by decide) | exact xc_ (by decide) | exact x31_ (by decide) | omega), mu_self]
        first | rfl | (simp [bgR]; done)
      by_cases t15 : t = 15
      · subst t15
        rw [mu_ne (by first | assumption | decide | exact xs_ (by decide) | exact xc_ (by decide) | exact x31_ (by decide) | omega), mu_ne (by first | assumption | decide | exact xs_ (by decide) | exact xc_ (by decide) | exact x31_ (by decide) | omega), mu_ne (by first | assumption | decide | exact xs_ (by decide) | exact xc_ (by decide) | exact x31_ (by decide) | omega), mu_ne (by first | assumption | decide | exact xs_ (by decide) | exact xc_ (by decide) | exact x31_ (by decide) | omega), mu_ne (by first | assumption | decide | exact xs_ (by decide) | exact xc_ (by decide) | exact x31_ (by decide) | omega), mu_ne (by first | assumption | decide | exact xs_ (by decide) | exact xc_ (by decide) | exact x31_ (by decide) | omega), mu_ne (by first | assumption | decide | exact xs_ (by decide) | exact xc_ (by decide) | exact x31_ (by decide) | omega), mu_ne (by first | assumption | decide | exact xs_ (by decide) | exact xc_ (by decide) | exact x31_ (by decide) | omega), mu_ne (by first | assumption | decide | exact xs_ (by decide) | exact xc_ (by decide) | exact x31_ (by decide) | omega), mu_ne (by first | assumption | decide | exact xs_ (by decide) | exact xc_ (by decide) | exact x31_ (by decide) | omega), mu_ne (by first | assumption | decide | exact xs_ (by decide) | exact xc_ (by decide) | exact x31_ (by decide) | omega), mu_ne (by first | assumption | decide | exact xs_ (by decide) | exact xc_ (by decide) | exact x31_ (by decide) | omega), mu_ne (by first | assumption | decide | exact xs_ (by decide) | exact xc_ (by decide) | exact x31_ (by decide) | omega), mu_self]
        first | rfl | (simp [bgR]; done)
      rw [mu_ne (by first | assumption | decide | exact xs_ (by decide) | exact xc_ (by decide) | exact x31_ (by decide) | omega), mu_ne (by first | assumption | decide | exact xs_ (by decide) | exact xc_ (by decide) | exact x31_ (by decide) | omega), mu_ne (by first | assumption | decide | exact xs_ (by decide) | exact xc_ (by decide) | exact x31_ (by decide) | omega), mu_ne (by first | assumption | decide | exact xs_ (by decide) | exact xc_ (by decide) | exact x31_ (by decide) | omega), mu_ne (by first | assumption | decide | exact xs_ (by decide) | exact xc_ (by decide) | exact x31_ (by decide) | omega), mu_ne (by first | assumption | decide | exact xs_ (by decide) | exact xc_ (by decide) | exact x31_ (by decide) | omega), mu_ne (by first | assumption | decide | exact xs_ (by decide) | exact xc_ (by decide) | exact x31_ (by decide) | omega), mu_ne (by first | assumption | decide | exact xs_ (by decide) | exact xc_ (by decide) | exact x31_ (by decide) | omega), mu_ne (by first | assumption | decide | exact xs_ (by decide) | exact xc_ (by decide) | exact x31_ (by decide) | omega), mu_ne (by first | assumption | decide | exact xs_ (by decide) | exact xc_ (by decide) | exact x31_ (by decide) | omega), mu_ne (by first | assumption | decide | exact xs_ (by decide) | exact xc_ (by decide) | exact x31_ (by decide) | omega), mu_ne (by first | assumption | decide | exact xs_ (by decide) | exact xc_ (by decide) | exact x31_ (by decide) | omega), mu_ne (by first | assumption | decide | exact xs_ (by decide) | exact xc_ (by decide) | exact x31_ (by decide) | omega), mu_ne (by first | assumption | decide | exact xs_ (by decide) | exact xc_ (by decide) | exact x31_ (by decide) | omega), mu_ne (by first | assumption | decide | exact xs_ (by decide) | exact xc_ (by decide) | exact x31_ (by decide) | omega), mu_ne (by first | assumption | decide | exact xs_ (by decide) | exact xc_ (by decide) | exact x31_ (by decide) | omega), mu_ne (by first | assumption | decide | exact xs_ (by decide) | exact xc_ (by decide) | exact x31_ (by decide) | omega), mu_ne (by first | assumption | decide | exact xs_ (by decide) | exact xc_ (by decide) | exact x31_ (by decide) | omega), mu_ne (by first | assumption | decide | exact xs_ (by decide) | exact xc_ (by decide) | exact x31_ (by decide) | omega), mu_ne (by first | assumption | decide | exact xs_ (by decide) | exact xc_ (by decide) | exact x31_ (by decide) | omega), mu_ne (by first | assumption | decide | exact xs_ (by decide) | exact xc_ (by decide) | exact x31_ (by decide) | omega), mu_ne (by first | assumption | decide | exact xs_ (by decide) | exact xc_ (by decide) | exact x31_ (by decide) | omega), mu_ne (by first | assumption | decide | exact xs_ (by decide) | exact xc_ (by decide) | exact x31_ (by decide) | omega), mu_ne (by first | assumption | decide | exact xs_ (by decide) | exact xc_ (by decide) | exact x31_ (by decide) | omega)]
      unfold bgR
      rw [if_neg t1, if_neg t2, if_neg t3, if_neg t4, if_neg t5, if_neg t10, if_neg (by first | assumption | decide | exact xs_ (by decide) | exact xc_ (by decide) | exact x31_ (by decide) | omega)]
    by_cases c11 : c = 11
    · subst c11
      rw [if_neg (by first | assumption | decide | exact xs_ (by decide) | exact xc_ (by decide) | exact x31_ (by decide) | omega), if_pos rfl]
      by_cases t0 : t = 0
      · subst t0
        rw [mu_ne (by first | assumption | decide | exact xs_ (by decide) | exact xc_ (by decide) | exact x31_ (by decide) | omega), mu_ne (by first | assumption | decide | exact xs_ (by decide) | exact xc_ (by decide) | exact x31_ (by decide) | omega), mu_ne (by first | assumption | decide | exact xs_ (by decide) | exact xc_ (by decide) | exact x31_ (by decide) | omega), mu_ne (by first | assumption | decide | exact xs_ (by decide) | exact xc_ (by decide) | exact x31_ (by decide) | omega), mu_ne (by first | assumption | decide | exact xs_ (by decide) | exact xc_ (by decide) | exact x31_ (by decide) | omega), mu_ne (by first | assumption | decide | exact xs_ (by decide) | exact xc_ (by decide) | exact x31_ (by decide) | omega), mu_ne (by first | assumption | decide | exact xs_ (by decide) | exact xc_ (by decide) | exact x31_ (by decide) | omega), mu_ne (by first | assumption | decide | exact xs_ (by decide) | exact xc_ (by decide) | exact x31_ (by decide) | omega), mu_ne (by first | assumption | decide | exact xs_ (by decide) | exact xc_ (by decide) | exact x31_ (by decide) | omega), mu_ne (by first | assumption | decide | exact xs_ (by decide) | exact xc_ (by decide) | exact x31_ (by decide) | omega), mu_ne (by first | assumption | decide | exact xs_ (by decide) | exact xc_ (by decide) | exact x31_ (by decide) | omega), mu_ne (by first | assumption | decide | exact xs_ (by decide) | exact xc_ (by decide) | exact x31_ (by decide) | omega), mu_self]
        first | rfl | (simp [zrR, r7]; done)
      by_cases t1 : t = 1
      · subst t1
        rw [mu_ne (by first | assumption | decide | exact xs_ (by decide) | exact xc_ (by decide) | exact x31_ (by decide) | omega), mu_ne (by first | assumption | decide | exact xs_ (by decide) | exact xc_ (by decide) | exact x31_ (by decide) | omega), mu_ne (by first | assumption | decide | exact xs_ (by decide) | exact xc_ (by decide) | exact x31_ (by decide) | omega), mu_ne (by first | assumption | decide | exact xs_ (by decide) | exact xc_ (by decide) | exact x31_ (by decide) | omega), mu_ne (by first | assumption | decide | exact xs_ (by decide) | exact xc_ (by decide) | exact x31_ (by decide) | omega), mu_ne (by first | assumption | decide | exact xs_ (by decide) | exact xc_ (by decide) | exact x31_ (by decide) | omega), mu_ne (by first | assumption | decide | exact xs_ (by decide) | exact xc_ (by decide) | exact x31_ (by decide) | omega), mu_ne (by first | assumption | decide | exact xs_ (by decide) | exact xc_ (by decide) | exact x31_ (by decide) | omega), mu_ne (by first | assumption | decide | exact xs_ (by decide) | exact xc_ (by decide) | exact x31_ (by decide) | omega), mu_ne (by first | assumption | decide | exact xs_ (by decide) | exact xc_ (by decide) | exact x31_ (by decide) | omega), mu_ne (by first | assumption | decide | exact xs_ (by decide) | exact xc_ (by decide) | exact x31_ (by decide) | omega), mu_self]
        first | rfl | (simp [zrR, r7]; done)
      by_cases t2 : t = 2
      · subst t2
        rw [mu_ne (by first | assumption | decide | exact xs_ (by decide) | exact xc_ (by decide) | exact x31_ (by decide) | omega), mu_ne (by first | assumption | decide | exact xs_ (by decide) | exact xc_ (by decide) | exact x31_ (by decide) | omega), mu_ne (by first | assumption | decide | exact xs_ (by decide) | exact xc_ (by decide) | exact x31_ (by decide) | omega), mu_ne (by first | assumption | decide | exact xs_ (by decide) | exact xc_ (by decide) | exact x31_ (by decide) | omega), mu_ne (by first | assumption | decide | exact xs_ (by decide) | exact xc_ (by decide) | exact x31_ (by decide) | omega), mu_ne (by first | assumption | decide | exact xs_ (by decide) | exact xc_ (by decide) | exact x31_ (by decide) | omega), mu_ne (by first | assumption | decide | exact xs_ (by decide) | exact xc_ (by decide) | exact x31_ (by decide) | omega), mu_ne (by first | assumption | decide | exact xs_ (by decide) | exact xc_ (by decide) | exact x31_ (by decide) | omega), mu_ne (by first | assumption | decide | exact xs_ (by decide) | exact xc_ (by decide) | exact x31_ (by decide) | omega), mu_ne (by first | assumption | decide | exact xs_ (by decide) | exact xc_ (by decide) | exact x31_ (by decide) | omega), mu_self]
        first | rfl | (simp [zrR, r7]; done)
      by_cases t3 : t = 3
      · subst t3
        rw [mu_ne (by first | assumption | decide | exact xs_ (by decide) | exact xc_ (by decide) | exact x31_ (by decide) | omega), mu_ne (by first | assumption | decide | exact xs_ (by decide) | exact xc_ (by decide) | exact x31_ (by decide) | omega), mu_ne (by first | assumption | decide | exact xs_ (by decide) | exact xc_ (by decide) | exact x31_ (by decide) | omega), mu_ne (by first | assumption | decide | exact xs_ (by decide) | exact xc_ (by decide) | exact x31_ (by decide) | omega), mu_ne (by first | assumption | decide | exact xs_ (by decide) | exact xc_ (by decide) | exact x31_ (by decide) | omega), mu_ne (by first | assumption | decide | exact xs_ (by decide) | exact xc_ (by decide) | exact x31_ (by decide) | omega), mu_ne (by first | assumption | decide | exact xs_ (by decide) | exact xc_ (by decide) | exact x31_ (by decide) | omega), mu_ne (by first | assumption | decide | exact xs_ (by decide) | exact xc_ (by decide) | exact x31_ (by decide) | omega), mu_ne (by first | assumption | decide | exact xs_ (by decide) | exact xc_ (by decide) | exact x31_ (by decide) | omega), mu_self]
        first | rfl | (simp [zrR, r7]; done)
      by_cases t4 : t = 4
      · subst t4
        rw [mu_ne (by first | assumption | decide | exact xs_ (by decide) | exact xc_ (by decide) | exact x31_ (by decide) | omega), mu_ne (by first | assumption | decide | exact xs_ (by decide) | exact xc_ (by decide) | exact x31_ (by decide) | omega), mu_ne (by first | assumption | decide | exact xs_ (by decide) | exact xc_ (by decide) | exact x31_ (by decide) | omega), mu_ne (by first | assumption | decide | exact xs_ (by decide) | exact xc_ (by decide) | exact x31_ (by decide) | omega), mu_ne (by first | assumption | decide | exact xs_ (by decide) | exact xc_ (by decide) | exact x31_ (by decide) | omega), mu_ne (by first | assumption | decide | exact xs_ (by decide) | exact xc_ (by decide) | exact x31_ (by decide) | omega), mu_ne (by first | assumption | decide | exact xs_ (by decide) | exact xc_ (by decide) | exact x31_ (by decide) | omega), mu_ne (by first | assumption | decide | exact xs_ (by decide) | exact xc_ (by decide) | exact x31_ (by decide) | omega), mu_self]
        first | rfl | (simp [zrR, r7]; done)
      by_cases t5 : t = 5
      · subst t5
        rw [mu_ne (by first | assumption | decide | exact xs_ (by decide) | exact xc_ (by decide) | exact x31_ (by decide) | omega), mu_ne (by first | assumption | decide | exact xs_ (by decide) | exact xc_ (by decide) | exact x31_ (by decide) | omega), mu_ne (by first | assumption | decide | exact xs_ (by decide) | exact xc_ (by decide) | exact x31_ (by decide) | omega), mu_ne (by first | assumption | decide | exact xs_ (by decide) | exact xc_ (by decide) | exact x31_ (by decide) | omega), mu_ne (by first | assumption | decide | exact xs_ (by decide) | exact xc_ (by decide) | exact x31_ (by decide) | omega), mu_ne (by first | assumption | decide | exact xs_ (by decide) | exact xc_ (by decide) | exact x31_ (by decide) | omega), mu_ne (by first | assumption | decide | exact xs_ (by decide) | exact xc_ (by decide) | exact x31_ (by decide) | omega), mu_self]
        first | rfl | (simp [zrR, r7]; done)
      by_cases t6 : t = 6
      · subst t6
        rw [mu_ne (by first | assumption | decide | exact xs_ (by decide) | exact xc_ (by decide) | exact x31_ (by decide) | omega), mu_ne (by first | assumption | decide | exact xs_ (by decide) | exact xc_ (by decide) | exact x31_ (by decide) | omega), mu_ne (by first | assumption | decide | exact xs_ (by decide) | exact xc_ (by decide) | exact x31_ (by decide) | omega), mu_ne (by first | assumption | decide | exact xs_ (by decide) | exact xc_ (by decide) | exact x31_ (by decide) | omega), mu_ne (by first | assumption | decide | exact xs_ (by decide) | exact xc_ (by decide) | exact x31_ (by decide) | omega), mu_ne (by first | assumption | decide | exact xs_ (by decide) | exact xc_ (by decide) | exact x31_ (by decide) | omega), mu_self]
        first | rfl | (simp [zrR, r7]; done)
      rw [mu_ne (by first | assumption | decide | exact xs_ (by decide) | exact xc_ (by decide) | exact x31_ (by decide) | omega), mu_ne (by first | assumption | decide | exact xs_ (by decide) | exact xc_ (by decide) | exact x31_ (by decide) | omega), mu_ne (by first | assumption | decide | exact xs_ (by decide) | exact xc_ (by decide) | exact x31_ (by decide) | omega), mu_ne (by first | assumption | decide | exact xs_ (by decide) | exact xc_ (by decide) | exact x31_ (by decide) | omega), mu_ne (by first | assumption | decide | exact xs_ (by decide) | exact xc_ (by decide) | exact x31_ (by decide) | omega), mu_ne (by first | assumption | decide | exact xs_ (by decide) | exact xc_ (by decide) | exact x31_ (by decide) | omega), mu_ne (by first | assumption | decide | exact xs_ (by decide) | exact xc_ (by decide) | exact x31_ (by decide) | omega), mu_ne (by first | assumption | decide | exact xs_ (by decide) | exact xc_ (by decide) | exact x31_ (by decide) | omega), mu_ne (by first | assumption | decide | exact xs_ (by decide) | exact xc_ (by decide) | exact x31_ (by decide) | omega), mu_ne (by first | assumption | decide | exact xs_ (by decide) | exact xc_ (by decide) | exact x31_ (by decide) | omega), mu_ne (by first | assumption | decide | exact xs_ (by decide) | exact xc_ (by decide) | exact x31_ (by decide) | omega), mu_ne (by first | assumption | decide | exact xs_ (by decide) | exact xc_ (by decide) | exact x31_ (by decide) | omega), mu_ne (by first | assumption | decide | exact xs_ (by decide) | exact xc_ (by decide) | exact x31_ (by decide) | omega), mu_ne (by first | assumption | decide | exact xs_ (by decide) | exact xc_ (by decide) | exact x31_ (by decide) | omega), mu_ne (by first | assumption | decide | exact xs_ (by decide) | exact xc_ (by decide) | exact x31_ (by decide) | omega), mu_ne (by first | assumption | decide | exact xs_ (by decide) | exact xc_ (by decide) | exact x31_ (by decide) | omega), mu_ne (by first | assumption | decide | exact xs_ (by decide) | exact xc_ (by decide) | exact x31_ (by decide) | omega), mu_ne (by first | assumption | decide | exact xs_ (by decide) | exact xc_ (by decide) | exact x31_ (by decide) | omega), mu_ne (by first | assumption | decide | exact xs_ (by decide) | exact xc_ (by decide) | exact x31_ (by decide) | omega), mu_ne (by first | assumption | decide | exact xs_ (by decide) | exact xc_ (by decide) | exact x31_ (by decide) | omega), mu_ne (by first | assumption | decide | exact xs_ (by decide) | exact xc_ (by decide) | exact x31_ (by decide) | omega), mu_ne (by first | assumption | decide | exact xs_ (by decide) | exact xc_ (by decide) | exact x31_ (by decide) | omega), mu_ne (by first | assumption | decide | exact xs_ (by decide) | exact xc_ (by decide) | exact x31_ (by decide) | omega), mu_ne (by first | assumption | decide | exact xs_ (by decide) | exact xc_ (by decide) | exact x31_ (by decide) | omega)]
      unfold zrR r7
      rw [if_neg t0, if_neg t1, if_neg t2, if_neg t3, if_neg t4, if_neg t5, if_neg t6]
    rw [if_neg c7, if_neg c11, mu_ne (by first | assumption | decide | exact xs_ (by decide) | exact xc_ (by decide) | exact x31_ (by decide) | omega), mu_ne (by first | assumption | decide | exact xs_ (by decide) | exact xc_ (by decide) | exact x31_ (by decide) | omega), mu_ne (by first | assumption | decide | exact xs_ (by decide) | exact xc_ (by decide) | exact x31_ (by decide) | omega), mu_ne (by first | assumption | decide | exact xs_ (by decide) | exact xc_ (by decide) | exact x31_ (by decide) | omega), mu_ne (by first | assumption | decide | exact xs_ (by decide) | exact xc_ (by decide) | exact x31_ (by decide) | omega), mu_ne (by first | assumption | decide | exact xs_ (by decide) | exact xc_ (by decide) | exact x31_ (by decide) | omega), mu_ne (by first | assumption | decide | exact xs_ (by decide) | exact xc_ (by decide) | exact x31_ (by decide) | omega), mu_ne (by first | assumption | decide | exact xs_ (by decide) | exact xc_ (by decide) | exact x31_ (by decide) | omega), mu_ne (by first | assumption | decide | exact xs_ (by decide) | exact xc_ (by decide) | exact x31_ (by decide) | omega), mu_ne (by first | assumption | decide | exact xs_ (by decide) | exact xc_ (by decide) | exact x31_ (by decide) | omega), mu_ne (by first | assumption | decide | exact xs_ (by decide) | exact xc_ (by decide) | exact x31_ (by decide) | omega), mu_ne (by first | assumption | decide | exact xs_ (by decide) | exact xc_ (by decide) | exact x31_ (by decide) | omega), mu_ne (by first | assumption | decide | exact xs_ (by decide) | exact xc_ (by decide) | exact x31_ (by decide) | omega), mu_ne (by first | assumption | decide | exact xs_ (by decide) | exact xc_ (by decide) | exact x31_ (by decide) | omega), mu_ne (by first | assumption | decide | exact xs_ (by decide) | exact xc_ (by decide) | exact x31_ (by decide) | omega), mu_ne (by first | assumption | decide | exact xs_ (by decide) | exact xc_ (by decide) | exact x31_ (by decide) | omega), mu_ne (by first | assumption | decide | exact xs_ (by decide) | exact xc_ (by decide) | exact x31_ (by decide) | omega), mu_ne (by first | assumption | decide | exact xs_ (by decide) | exact xc_ (by decide) | exact x31_ (by decide) | omega), mu_ne (by first | assumption | decide | exact xs_ (by decide) | exact xc_ (by decide) | exact x31_ (by decide) | omega), mu_ne (by first | assumption | decide | exact xs_ (by decide) | exact xc_ (by decide) | exact x31_ (by decide) | omega), mu_ne (by first | assumption | decide | exact xs_ (by decide) | exact xc_ (by decide) | exact x31_ (by decide) | omega), mu_ne (by first | assumption | decide | exact xs_ (by decide) | exact xc_ (by decide) | exact x31_ (by decide) | omega), mu_ne (by first | assumption | decide | exact xs_ (by decide) | exact xc_ (by decide) | exact x31_ (by decide) | omega), mu_ne (by first | assumption | decide | exact xs_ (by decide) | exact xc_ (by decide) | exact x31_ (by decide) | omega)]
  · unfold bgM
    rw [if_neg (fun q => hx q.symm), mu_ne (by first | assumption | decide | exact xs_ (by decide) | exact xc_ (by decide) | exact x31_ (by decide) | omega), mu_ne (by first | assumption | decide | exact xs_ (by decide) | exact xc_ (by decide) | exact x31_ (by decide) | omega), mu_ne (by first | assumption | decide | exact xs_ (by decide) | exact xc_ (by decide) | exact x31_ (by decide) | omega), mu_ne (by first | assumption | decide | exact xs_ (by decide) | exact xc_ (by decide) | exact x31_ (by decide) | omega), mu_ne (by first | assumption | decide | exact xs_ (by decide) | exact xc_ (by decide) | exact x31_ (by decide) | omega), mu_ne (by first | assumption | decide | exact xs_ (by decide) | exact xc_ (by decide) | exact x31_ (by decide) | omega), mu_ne (by first | assumption | decide | exact xs_ (by decide) | exact xc_ (by decide) | exact x31_ (by decide) | omega), mu_ne (by first | assumption | decide | exact xs_ (by decide) | exact xc_ (by decide) | exact x31_ (by decide) | omega), mu_ne (by first | assumption | decide | exact xs_ (by decide) | exact xc_ (by decide) | exact x31_ (by decide) | omega), mu_ne (by first | assumption | decide | exact xs_ (by decide) | exact xc_ (by decide) | exact x31_ (by decide) | omega), mu_ne (by first | assumption | decide | exact xs_ (by decide) | exact xc_ (by decide) | exact x31_ (by decide) | omega), mu_ne (by first | assumption | decide | exact xs_ (by decide) | exact xc_ (by decide) | exact x31_ (by decide) | omega), mu_ne (by first | assumption | decide | exact xs_ (by decide) | exact xc_ (by decide) | exact x31_ (by decide) | omega), mu_ne (by first | assumption | decide | exact xs_ (by decide) | exact xc_ (by decide) | exact x31_ (by decide) | omega), mu_ne (by first | assumption | decide | exact xs_ (by decide) | exact xc_ (by decide) | exact x31_ (by decide) | omega), mu_ne (by first | assumption | decide | exact xs_ (by decide) | exact xc_ (by decide) | exact x31_ (by decide) | omega), mu_ne (by first | assumption | decide | exact xs_ (by decide) | exact xc_ (by decide) | exact x31_ (by decide) | omega), mu_ne (by first | assumption | decide | exact xs_ (by decide) | exact xc_ (by decide) | exact x31_ (by decide) | omega), mu_ne (by first | assumption | decide | exact xs_ (by decide) | exact xc_ (by decide) | exact x31_ (by decide) | omega), mu_ne (by first | assumption | decide | exact xs_ (by decide) | exact xc_ (by decide) | exact x31_ (by decide) | omega), mu_ne (by first | assumption | decide | exact xs_ (by decide) | exact xc_ (by decide) | exact x31_ (by decide) | omega), mu_ne (by first | assumption | decide | exact xs_ (by decide) | exact xc_ (by decide) | exact x31_ (by decide) | omega), mu_ne (by first | assumption | decide | exact xs_ (by decide) | exact xc_ (by decide) | exact x31_ (by decide) | omega), mu_ne (by first | assumption | decide | exact xs_ (by decide) | exact xc_ (by decide) | exact x31_ (by decide) | omega)]
theorem bg_11 {V : Mm} {l o b z y : Int} : bgM V l o b z y 11 l 3 = 0 := by
  unfold bgM
  rw [if_pos rfl, if_neg (by first | assumption | decide | exact xs_ (by decide) | exact xc_ (by decide) | exact x31_ (by decide) | omega), if_pos rfl]
  rfl
theorem cpA_eq {V : Mm} {l m : Int} : cpA V l m = (mu (mu (mu (mu (mu (mu (mu (mu (mu (mu (mu (mu (mu (mu (mu (mu (mu (mu V 7 m 1 (V 7 l 1)) 7 m 2 (V 7 l 2)) 7 m 3 (V 7 l 3)) 7 m 4 (V 7 l 4)) 7 m 5 (V 7 l 5)) 7 m 6 (V 7 l 6)) 7 m 10 (V 7 l 10)) 7 m 12 (V 7 l 12)) 7 m 13 (V 7 l 13)) 7 m 14 (V 7 l 14)) 7 m 15 (V 7 l 15)) 11 m 0 (V 11 l 0)) 11 m 1 (V 11 l 1)) 11 m 2 (V 11 l 2)) 11 m 3 (V 11 l 3)) 11 m 4 (V 11 l 4)) 11 m 5 (V 11 l 5)) 11 m 6 (V 11 l 6)) := by
  funext c x t
  by_cases hx : m = x
  · subst hx
    unfold cpA
    rw [if_pos rfl]
    by_cases c7 : c = 7
    · subst c7
      rw [if_pos rfl]
      by_cases t1 : t = 1
      · subst t1
        rw [mu_ne (by first | assumption | decide | exact xs_ (by decide) | exact xc_ (by decide) | exact x31_ (by decide) | omega), mu_ne (by first | assumption | decide | exact xs_ (by decide) | exact xc_ (by decide) | exact x31_ (by decide) | omega), mu_ne (by first | assumption | decide | exact xs_ (by decide) | exact xc_ (by decide) | exact x31_ (by decide) | omega), mu_ne (by first | assumption | decide | exact xs_ (by decide) | exact xc_ (by decide) | exact x31_ (by decide) | omega), mu_ne (by first | assumption | decide | exact xs_ (by decide) | exact xc_ (by decide) | exact x31_ (by decide) | omega), mu_ne (by first | assumption | decide | exact xs_ (by decide) | exact xc_ (by decide) | exact x31_ (by decide) | omega), mu_ne (by first | assumption | decide | exact xs_ (by decide) | exact xc_ (by decide) | exact x31_ (by decide) | omega), mu_ne (by first | assumption | decide | exact xs_ (by decide) | exact xc_ (by decide) | exact x31_ (by decide) | omega), mu_ne (by first | assumption | decide | exact xs_ (by decide) | exact xc_ (by decide) | exact x31_ (by decide) | omega), mu_ne (by first | assumption | decide | exact xs_ (by decide) | exact xc_ (by decide) | exact x31_ (by decide) | omega), mu_ne (by first | assumption | decide | exact xs_ (by decide) | exact xc_ (by decide) | exact x31_ (by decide) | omega), mu_ne (by first | assumption | decide | exact xs_ (by decide) | exact xc_ (by decide) | exact x31_ (by decide) | omega), mu_ne (by first | assumption | decide | exact xs_ (by decide) | exact xc_ (by decide) | exact x31_ (by decide) | omega), mu_ne (by first | assumption | decide | exact xs_ (by decide) | exact xc_ (by decide) | exact x31_ (by decide) | omega), mu_ne (by first | assumption | decide | exact xs_ (by decide) | exact xc_ (by decide) | exact x31_ (by decide) | omega), mu_ne (by first | assumption | decide | exact xs_ (by decide) | exact xc_ (by decide) | exact x31_ (by decide) | omega), mu_ne (by first | assumption | decide | exact xs_ (by decide) | exact xc_ (by decide) | exact x31_ (by decide) | omega), mu_self]
        exact if_pos (by first | omega | (unfold cpT; omega))
      by_cases t2 : t = 2
      · subst t2
        rw [mu_ne (by first | assumption | decide | exact xs_ (by decide) | exact xc_ (by decide) | exact x31_ (by decide) | omega), mu_ne (by first | assumption | decide | exact xs_ (by decide) | exact xc_ (by decide) | exact x31_ (by decide) | omega), mu_ne (by first | assumption | decide | exact xs_ (by decide) | exact xc_ (by decide) | exact x31_ (by decide) | omega), mu_ne (by first | assumption | decide | exact xs_ (by decide) | exact xc_ (by decide) | exact x31_ (by decide) | omega), mu_ne (by first | assumption | decide | exact xs_ (by decide) | exact xc_ (by decide) | exact x31_ (by decide) | omega), mu_ne (by first | assumption | decide | exact xs_ (by decide) | exact xc_ (by decide) | exact x31_ (by decide) | omega), mu_ne (by first | assumption | decide | exact xs_ (by decide) | exact xc_ (by decide) | exact x31_ (by decide) | omega), mu_ne (by first | assumption | decide | exact xs_ (by decide) | exact xc_ (by decide) | exact x31_ (by decide) | omega), mu_ne (by first | assumption | decide | exact xs_ (by decide) | exact xc_ (by decide) | exact x31_ (by decide) | omega), mu_ne (by first | assumption | decide | exact xs_ (by decide) | exact xc_ (by decide) | exact x31_ (by decide) | omega), mu_ne (by first | assumption | decide | exact xs_ (by decide) | exact xc_ (by decide) | exact x31_ (by decide) | omega), mu_ne (by first | assumption | decide | exact xs_ (by decide) | exact xc_ (by decide) | exact x31_ (by decide) | omega), mu_ne (by first | assumption | decide | exact xs_ (by decide) | exact xc_ (by decide) | exact x31_ (by decide) | omega), mu_ne (by first | assumption | decide | exact xs_ (by decide) | exact xc_ (by decide) | exact x31_ (by decide) | omega), mu_ne (by first | assumption | decide | exact xs_ (by decide) | exact xc_ (by decide) | exact x31_ (by decide) | omega), mu_ne (by first | assumption | decide | exact xs_ (by decide) | exact xc_ (by decide) | exact x31_ (by decide) | omega), mu_self]
        exact if_pos (by first | omega | (unfold cpT; omega))
      by_cases t3 : t = 3
      · subst t3
        rw [mu_ne (by first | assumption | decide | exact xs_ (by decide) | exact xc_ (by decide) | exact x31_ (by decide) | omega), mu_ne (by first | assumption | decide | exact xs_ (by decide) | exact xc_ (by decide) | exact x31_ (by decide) | omega), mu_ne (by first | assumption | decide | exact xs_ (by decide) | exact xc_ (by decide) | exact x31_ (by decide) | omega), mu_ne (by first | assumption | decide | exact xs_ (by decide) | exact xc_ (by decide) | exact x31_ (by decide) | omega), mu_ne (by first | assumption | decide | exact xs_ (by decide) | exact xc_ (by decide) | exact x31_ (by decide) | omega), mu_ne (by first | assumption | decide | exact xs_ (by decide) | exact xc_ (by decide) | exact x31_ (by decide) | omega), mu_ne (by first | assumption | decide | exact xs_ (by decide) | exact xc_ (by decide) | exact x31_ (by decide) | omega), mu_ne (by first | assumption | decide | exact xs_ (by decide) | exact xc_ (by decide) | exact x31_ (by decide) | omega), mu_ne (by first | assumption | decide | exact xs_ (by decide) | exact xc_ (by decide) | exact x31_ (by decide) | omega), mu_ne (by first | assumption | decide | exact xs_ (by decide) | exact xc_ (by decide) | exact x31_ (by decide) | omega), mu_ne (by first | assumption | decide | exact xs_ (by decide) | exact xc_ (by decide) | exact x31_ (by decide) | omega), mu_ne (by first | assumption | decide | exact xs_ (by decide) | exact xc_ (by decide) | exact x31_ (by decide) | omega), mu_ne (by first | assumption | decide | exact xs_ (by decide) | exact xc_ (by decide) | exact x31_ (by decide) | omega), mu_ne (by first | assumption | decide | exact xs_ (by decide) | exact xc_ (by decide) | exact x31_ (by decide) | omega), mu_ne (by first | assumption | decide | exact xs_ (by decide) | exact xc_ (by decide) | exact x31_ (by decide) | omega), mu_self]
        exact if_pos (by first | omega | (unfold cpT; omega))
      by_cases t4 : t = 4
      · subst t4
        rw [mu_ne (by first | assumption | decide | exact xs_ (by decide) | exact xc_ (by decide) | exact x31_ (by decide) | omega), mu_ne (by first | assumption | decide | exact xs_ (by decide) | exact xc_ (by decide) | exact x31_ (by decide) | omega), mu_ne (by first | assumption | decide | exact xs_ (by decide) | exact xc_ (by decide) | exact x31_ (by decide) | omega), mu_ne (by first | assumption | decide | exact xs_ (by decide) | exact xc_ (by decide) | exact x31_ (by decide) | omega), mu_ne (by first | assumption | decide | exact xs_ (by decide) | exact xc_ (by decide) | exact x31_ (by decide) | omega), mu_ne (by first | assumption | decide | exact xs_ (by decide) | exact xc_ (by decide) | exact x31_ (by decide) | omega), mu_ne (by first | assumption | decide | exact xs_ (by decide) | exact xc_ (by decide) | exact x31_ (by decide) | omega), mu_ne (by first | assumption | decide | exact xs_ (by decide) | exact xc_ (by decide) | exact x31_ (by decide) | omega), mu_ne (by first | assumption | decide | exact xs_ (by decide) | exact xc_ (by decide) | exact x31_ (by decide) | omega), mu_ne (by first | assumption | decide | exact xs_ (by decide) | exact xc_ (by decide) | exact x31_ (by decide) | omega), mu_ne (by first | assumption | decide | exact xs_ (by decide) | exact xc_ (by decide) | exact x31_ (by decide) | omega), mu_ne (by first | assumption | decide | exact xs_ (by decide) | exact xc_ (by decide) | exact x31_ (by decide) | omega), mu_ne (by first | assumption | decide | exact xs_ (by decide) | exact xc_ (by decide) | exact x31_ (by decide) | omega), mu_ne (by first | assumption | decide | exact xs_ (by decide) | exact xc_ (by decide) | exact x31_ (by decide) | omega), mu_self]
        exact if_pos (by first | omega | (unfold cpT; omega))
      by_cases t5 : t = 5
      · subst t5
        rw [mu_ne (by first | assumption | decide | exact xs_ (by decide) | exact xc_ (by decide) | exact x31_ (by decide) | omega), mu_ne (by first | assumption | decide | exact xs_ (by decide) | exact xc_ (by decide) | exact x31_ (by decide) | omega), mu_ne (by first | assumption | decide | exact xs_ (by decide) | exact xc_ (by decide) | exact x31_ (by decide) | omega), mu_ne (by first | assumption | decide | exact xs_ (by decide) | exact xc_ (by decide) | exact x31_ (by decide) | omega), mu_ne (by first | assumption | decide | exact xs_ (by decide) | exact xc_ (by decide) | exact x31_ (by decide) | omega), mu_ne (by first | assumption | decide | exact xs_ (by decide) | exact xc_ (by decide) | exact x31_ (by decide) | omega), mu_ne (by first | assumption | decide | exact xs_ (by decide) | exact xc_ (by decide) | exact x31_ (by decide) | omega), mu_ne (by first | assumption | decide | exact xs_ (by decide) | exact xc_ (by decide) | exact x31_ (by decide) | omega), mu_ne (by first | assumption | decide | exact xs_ (by decide) | exact xc_ (by decide) | exact x31_ (by decide) | omega), mu_ne (by first | assumption | decide | exact xs_ (by decide) | exact xc_ (by decide) | exact x31_ (by decide) | omega), mu_ne (by first | assumption | decide | exact xs_ (by decide) | exact xc_ (by decide) | exact x31_ (by decide) | omega), mu_ne (by first | assumption | decide | exact xs_ (by decide) | exact xc_ (by decide) | exact x31_ (by decide) | omega), mu_ne (by first | assumption | decide | exact xs_ (by decide) | exact xc_ (by decide) | exact x31_ (by decide) | omega), mu_self]
        exact if_pos (by first | omega | (unfold cpT; omega))
      by_cases t6 : t = 6
      · subst t6
        rw [mu_ne (by first | assumption | decide | exact xs_ (by decide) | exact xc_ (by decide) | exact x31_ (by decide) | omega), mu_ne (by first | assumption | decide | exact xs_ (by decide) | exact xc_ (by decide) | exact x31_ (by decide) | omega), mu_ne (by first | assumption | decide | exact xs_ (by decide) | exact xc_ (by decide) | exact x31_ (by decide) | omega), mu_ne (by first | assumption | decide | exact xs_ (by decide) | exact xc_ (by decide) | exact x31_ (by decide) | omega), mu_ne (by first | assumption | decide | exact xs_ (by decide) | exact xc_ (by decide) | exact x31_ (by decide) | omega), mu_ne (by first | assumption | decide | exact xs_ (by decide) | exact xc_ (by decide) | exact x31_ (by decide) | omega), mu_ne (by first | assumption | decide | exact xs_ (by decide) | exact xc_ (by decide) | exact x31_ (by decide) | omega), mu_ne (by first | assumption | decide | exact xs_ (by decide) | exact xc_ (by decide) | exact x31_ (by decide) | omega), mu_ne (by first | assumption | decide | exact xs_ (by decide) | exact xc_ (by decide) | exact x31_ (by decide) | omega), mu_ne (by first | assumption | decide | exact xs_ (by decide) | exact xc_ (by decide) | exact x31_ (by decide) | omega), mu_ne (by first | assumption | decide | exact xs_ (by decide) | exact xc_ (by decide) | exact x31_ (by decide) | omega), mu_ne (by first | assumption | decide | exact xs_ (by decide) | exact xc_ (by decide) | exact x31_ (by decide) | omega), mu_self]
        exact if_pos (by first | omega | (unfold cpT; omega))
      by_cases t10 : t = 10
      · subst t10
        rw [mu_ne (by first | assumption | decide | exact xs_ (by decide) | exact xc_ (by decide) | exact x31_ (by decide) | omega), mu_ne (by first | assumption | decide | exact xs_ (by decide) | exact xc_ (by decide) | exact x31_ (by decide) | omega), mu_ne (by first | assumption | decide | exact xs_ (by decide) | exact xc_ (by decide) | exact x31_ (by decide) | omega), mu_ne (by first | assumption | decide | exact xs_ (by decide) | exact xc_ (by decide) | exact x31_ (by decide) | omega), mu_ne (by first | assumption | decide | exact xs_ (by decide) | exact xc_ (by decide) | exact x31_ (by decide) | omega), mu_ne (by first | assumption | decide | exact xs_ (by decide) | exact xc_ (by decide) | exact x31_ (by decide) | omega), mu_ne (by first | assumption | decide | exact xs_ (by decide) | exact xc_ (by decide) | exact x31_ (by decide) | omega), mu_ne (by first | assumption | decide | exact xs_ (by decide) | exact xc_ (by decide) | exact x31_ (by decide) | omega), mu_ne (by first | assumption | decide | exact xs_ (by decide) | exact xc_ (by decide) | exact x31_ (by decide) | omega), mu_ne (by first | assumption | decide | exact xs_ (by decide) | exact xc_ (by decide) | exact x31_ (by decide) | omega), mu_ne (by first | assumption | decide | exact xs_ (by decide) | exact xc_ (by decide) | exact x31_ (by decide) | omega), mu_self]
        exact if_pos (by first | omega | (unfold cpT; omega))
      by_cases t12 : t = 12
      · subst t12
        rw [mu_ne (by first | assumption | decide | exact xs_ (by decide) | exact xc_ (by decide) | exact x31_ (by decide) | omega), mu_ne (by first | assumption | decide | exact xs_ (by decide) | exact xc_ (by decide) | exact x31_ (by decide) | omega), mu_ne (by first | assumption | decide | exact xs_ (by decide) | exact xc_ (by decide) | exact x31_ (by decide) | omega), mu_ne (by first | assumption | decide | exact xs_ (by decide) | exact xc_ (by decide) | exact x31_ (by decide) | omega), mu_ne (by first | assumption | decide | exact xs_ (by decide) | exact xc_ (by decide) | exact x31_ (by decide) | omega), mu_ne (by first | assumption | decide | exact xs_ (by decide) | exact xc_ (by decide) | exact x31_ (by decide) | omega), mu_ne (by first | assumption | decide | exact xs_ (by decide) | exact xc_ (by decide) | exact x31_ (by decide) | omega), mu_ne (by first | assumption | decide | exact xs_ (by decide) | exact xc_ (by decide) | exact x31_ (by decide) | omega), mu_ne (by first | assumption | decide | exact xs_ (by decide) | exact xc_ (by decide) | exact x31_ (by decide) | omega), mu_ne (by first | assumption | decide | exact xs_ (by decide) | exact xc_ (by decide) | exact x31_ (by decide) | omega), mu_self]
        exact if_pos (by first | omega | (unfold cpT; omega))
      by_cases t13 : t = 13
      · subst t13
        rw [mu_ne (by first | assumption | decide | exact xs_ (by decide) | exact xc_ (by decide) | exact x31_ (by decide) | omega), mu_ne (by first | assumption | decide | exact xs_ (by decide) | exact xc_ (by decide) | exact x31_ (by decide) | omega), mu_ne (by first | assumption | decide | exact xs_ (by decide) | exact xc_ (by decide) | exact x31_ (by decide) | omega), mu_ne (by first | assumption | decide | exact xs_ (by decide) | exact xc_ (by decide) | exact x31_ (by decide) | omega), mu_ne (by first | assumption | decide | exact xs_ (by decide) | exact xc_ (by decide) | exact x31_ (by decide) | omega), mu_ne (by first | assumption | decide | exact xs_ (by decide) | exact xc_ (by decide) | exact x31_ (by decide) | omega), mu_ne (by first | assumption | decide | exact xs_ (by decide) | exact xc_ (by decide) | exact x31_ (by decide) | omega), mu_ne (by first | assumption | decide | exact xs_ (by decide) | exact xc_ (by decide) | exact x31_ (by decide) | omega), mu_ne (by first | assumption | decide | exact xs_ (by decide) | exact xc_ (by decide) | exact x31_ (by decide) | omega), mu_self]
        exact if_pos (by first | omega | (unfold cpT; omega))
      by_cases t14 : t = 14
      · subst t14
        rw [mu_ne (by first | assumption | decide | exact xs_ (by decide) | exact xc_ (by decide) | exact x31_ (by decide) | omega), mu_ne (by first | assumption | decide | exact xs_ (by decide) | exact xc_ (by decide) | exact x31_ (by decide) | omega), mu_ne (by first | assumption | decide | exact xs_ (by decide) | exact xc_ (by decide) | exact x31_ (by decide) | omega), mu_ne (by first | assumption | decide | exact xs_ (by decide) | exact xc_ (by decide) | exact x31_ (by decide) | omega), mu_ne (by first | assumption | decide | exact xs_ (by decide) | exact xc_ (by decide) | exact x31_ (by decide) | omega), mu_ne (by first | assumption | decide | exact xs_ (by decide) | exact xc_ (by decide) | exact x31_ (by decide) | omega), mu_ne (by first | assumption | decide | exact xs_ (by decide) | exact xc_ (by decide) | exact x31_ (by decide) | omega), mu_ne (by first | assumption | decide | exact xs_ (by decide) | exact xc_ (by decide) | exact x31_ (by decide) | omega), mu_self]
        exact if_pos (by first | omega | (unfold cpT; omega))
      by_cases t15 : t = 15
      · subst t15
        rw [mu_ne (by first | assumption | decide | exact xs_ (by decide) | exact xc_ (by decide) | exact x31_ (by decide) | omega), mu_ne (by first | assumption | decide | exact xs_ (by decide) | exact xc_ (by decide) | exact x31_ (by decide) | omega), mu_ne (by first | assumption | decide | exact xs_ (by decide) | exact xc_ (by decide) | exact x31_ (by decide) | omega), mu_ne (by first | assumption | decide | exact xs_ (by decide) | exact xc_ (by decide) | exact x31_ (by decide) | omega), mu_ne (by first | assumption | decide | exact xs_ (by decide) | exact xc_ (by decide) | exact x31_ (by decide) | omega), mu_ne (by first | assumption | decide | exact xs_ (by decide) | exact xc_ (by decide) | exact x31_ (by decide) | omega), mu_ne (by first | assumption | decide | exact xs_ (by decide) | exact xc_ (by decide) | exact x31_ (by decide) | omega), mu_self]
        exact if_pos (by first | omega | (unfold cpT; omega))
      rw [mu_ne (by first | assumption | decide | exact xs_ (by decide) | exact xc_ (by decide) | exact x31_ (by decide) | omega), mu_ne (by first | assumption | decide | exact xs_ (by decide) | exact xc_ (by decide) | exact x31_ (by decide) | omega), mu_ne (by first | assumption | decide | exact xs_ (by decide) | exact xc_ (by decide) | exact x31_ (by decide) | omega), mu_ne (by first | assumption | decide | exact xs_ (by decide) | exact xc_ (by decide) | exact x31_ (by decide) | omega), mu_ne (by first | assumption | decide | exact xs_ (by decide) | exact xc_ (by decide) | exact x31_ (by decide) | omega), mu_ne (by first | assumption | decide | exact xs_ (by decide) | exact xc_ (by decide) | exact x31_ (by decide) | omega), mu_ne (by first | assumption | decide | exact xs_ (by decide) | exact xc_ (by decide) | exact x31_ (by decide) | omega), mu_ne (by first | assumption | decide | exact xs_ (by decide) | exact xc_ (by decide) | exact x31_ (by decide) | omega), mu_ne (by first | assumption | decide | exact xs_ (by decide) | exact xc_ (by decide) | exact x31_ (by decide) | omega), mu_ne (by first | assumption | decide | exact xs_ (by decide) | exact xc_ (by decide) | exact x31_ (by decide) | omega), mu_ne (by first | assumption | decide | exact xs_ (by decide) | exact xc_ (by decide) | exact x31_ (by decide) | omega), mu_ne (by first | assumption | decide | exact xs_ (by decide) | exact xc_ (by decide) | exact x31_ (by decide) | omega), mu_ne (by first | assumption | decide | exact xs_ (by decide) | exact xc_ (by decide) | exact x31_ (by decide) | omega), mu_ne (by first | assumption | decide | exact xs_ (by decide) | exact xc_ (by decide) | exact x31_ (by decide) | omega), mu_ne (by first | assumption | decide | exact xs_ (by decide) | exact xc_ (by decide) | exact x31_ (by decide) | omega), mu_ne (by first | assumption | decide | exact xs_ (by decide) | exact xc_ (by decide) | exact x31_ (by decide) | omega), mu_ne (by first | assumption | decide | exact xs_ (by decide) | exact xc_ (by decide) | exact x31_ (by decide) | omega), mu_ne (by first | assumption | decide | exact xs_ (by decide) | exact xc_ (by decide) | exact x31_ (by decide) | omega)]
      exact if_neg (by first | omega | (unfold cpT; omega))
    by_cases c11 : c = 11
    · subst c11
      rw [if_neg (by first | assumption | decide | exact xs_ (by decide) | exact xc_ (by decide) | exact x31_ (by decide) | omega), if_pos rfl]
      by_cases t0 : t = 0
      · subst t0
        rw [mu_ne (by first | assumption | decide | exact xs_ (by decide) | exact xc_ (by decide) | exact x31_ (by decide) | omega), mu_ne (by first | assumption | decide | exact xs_ (by decide) | exact xc_ (by decide) | exact x31_ (by decide) | omega), mu_ne (by first | assumption | decide | exact xs_ (by decide) | exact xc_ (by decide) | exact x31_ (by decide) | omega), mu_ne (by first | assumption | decide | exact xs_ (by decide) | exact xc_ (by decide) | exact x31_ (by decide) | omega), mu_ne (by first | assumption | decide | exact xs_ (by decide) | exact xc_ (by decide) | exact x31_ (by decide) | omega), mu_ne (by first | assumption | decide | exact xs_ (by decide) | exact xc_ (by decide) | exact x31_ (by decide) | omega), mu_self]
        exact if_pos (by first | assumption | decide | exact xs_ (by decide) | exact xc_ (by decide) | exact x31_ (by decide) | omega)
      by_cases t1 : t = 1
      · subst t1
        rw [mu_ne (by first | assumption | decide | exact xs_ (by decide) | exact xc_ (by decide) | exact x31_ (by decide) | omega), mu_ne (by first | assumption | decide | exact xs_ (by decide) | exact xc_ (by decide) | exact x31_ (by decide) | omega), mu_ne (by first | assumption | decide | exact xs_ (by decide) | exact xc_ (by decide) | exact x31_ (by decide) | omega), mu_ne (by first | assumption | decide | exact xs_ (by decide) | exact xc_ (by decide) | exact x31_ (by decide) | omega), mu_ne (by first | assumption | decide | exact xs_ (by decide) | exact xc_ (by decide) | exact x31_ (by decide) | omega), mu_self]
        exact if_pos (by first | assumption | decide | exact xs_ (by decide) | exact xc_ (by decide) | exact x31_ (by decide) | omega)
      by_cases t2 : t = 2
      · subst t2
        rw [mu_ne (by first | assumption | decide | exact xs_ (by decide) | exact xc_ (by decide) | exact x31_ (by decide) | omega), mu_ne (by first | assumption | decide | exact xs_ (by decide) | exact xc_ (by decide) | exact x31_ (by decide) | omega), mu_ne (by first | assumption | decide | exact xs_ (by decide) | exact xc_ (by decide) | exact x31_ (by decide) | omega), mu_ne (by first | assumption | decide | exact xs_ (by decide) | exact xc_ (by decide) | exact x31_ (by decide) | omega), mu_self]
        exact if_pos (by first | assumption | decide | exact xs_ (by decide) | exact xc_ (by decide) | exact x31_ (by decide) | omega)
      by_cases t3 : t = 3
      · subst t3
        rw [mu_ne (by first | assumption | decide | exact xs_ (by decide) | exact xc_ (by decide) | exact x31_ (by decide) | omega), mu_ne (by first | assumption | decide | exact xs_ (by decide) | exact xc_ (by decide) | exact x31_ (by decide) | omega), mu_ne (by first | assumption | decide | exact xs_ (by decide) | exact xc_ (by decide) | exact x31_ (by decide) | omega), mu_self]
        exact if_pos (by first | assumption | decide | exact xs_ (by decide) | exact xc_ (by decide) | exact x31_ (by decide) | omega)
      by_cases t4 : t = 4
      · subst t4
        rw [mu_ne (by first | assumption | decide | exact xs_ (by decide) | exact xc_ (by decide) | exact x31_ (by decide) | omega), mu_ne (by first | assumption | decide | exact xs_ (by decide) | exact xc_ (by decide) | exact x31_ (by decide) | omega), mu_self]
        exact if_pos (by first | assumption | decide | exact xs_ (by decide) | exact xc_ (by decide) | exact x31_ (by decide) | omega)
      by_cases t5 : t = 5
      · subst t5
        rw [mu_ne (by first | assumption | decide | exact xs_ (by decide) | exact xc_ (by decide) | exact x31_ (by decide) | omega), mu_self]
        exact if_pos (by first | assumption | decide | exact xs_ (by decide) | exact xc_ (by decide) | exact x31_ (by decide) | omega)
      by_cases t6 : t = 6
      · subst t6
        rw [mu_self]
        exact if_pos (by first | assumption | decide | exact xs_ (by decide) | exact xc_ (by decide) | exact x31_ (by decide) | omega)
      rw [mu_ne (by first | assumption | decide | exact xs_ (by decide) | exact xc_ (by decide) | exact x31_ (by decide) | omega), mu_ne (by first | assumption | decide | exact xs_ (by decide) | exact xc_ (by decide) | exact x31_ (by decide) | omega), mu_ne (by first | assumption | decide | exact xs_ (by decide) | exact xc_ (by decide) | exact x31_ (by decide) | omega), mu_ne (by first | assumption | decide | exact xs_ (by decide) | exact xc_ (by decide) | exact x31_ (by decide) | omega), mu_ne (by first | assumption | decide | exact xs_ (by decide) | exact xc_ (by decide) | exact x31_ (by decide) | omega), mu_ne (by first | assumption | decide | exact xs_ (by decide) | exact xc_ (by decide) | exact x31_ (by decide) | omega), mu_ne (by first | assumption | decide | exact xs_ (by decide) | exact xc_ (by decide) | exact x31_ (by decide) | omega), mu_ne (by first | assumption | decide | exact xs_ (by decide) | exact xc_ (by decide) | exact x31_ (by decide) | omega), mu_ne (by first | assumption | decide | exact xs_ (by decide) | exact xc_ (by decide) | exact x31_ (by decide) | omega), mu_ne (by first | assumption | decide | exact xs_ (by decide) | exact xc_ (by decide) | exact x31_ (by decide) | omega), mu_ne (by first | assumption | decide | exact xs_ (by decide) | exact xc_ (by decide) | exact x31_ (by decide) | omega), mu_ne (by first | assumption | decide | exact xs_ (by decide) | exact xc_ (by decide) | exact x31_ (by decide) | omega), mu_ne (by first | assumption | decide | exact xs_ (by decide) | exact xc_ (by decide) | exact x31_ (by decide) | omega), mu_ne (by first | assumption | decide | exact xs_ (by decide) | exact xc_ (by decide) | exact x31_ (by decide) | omega), mu_ne (by first | assumption | decide | exact xs_ (by decide) | exact xc_ (by decide) | exact x31_ (by decide) | omega), mu_ne (by first | assumption | decide | exact xs_ (by decide) | exact xc_ (by decide) | exact x31_ (by decide) | omega), mu_ne (by first | assumption | decide | exact xs_ (by decide) | exact xc_ (by decide) | exact x31_ (by decide) | omega), mu_ne (by first | assumption | decide | exact xs_ (by decide) | exact xc_ (by decide) | exact x31_ (by decide) | omega)]
      exact if_neg (by first | assumption | decide | exact xs_ (by decide) | exact xc_ (by decide) | exact x31_ (by decide) | omega)
    rw [if_neg c7, if_neg c11, mu_ne (by first | assumption | decide | exact xs_ (by decide) | exact xc_ (by decide) | exact x31_ (by decide) | omega), mu_ne (by first | assumption | decide | exact xs_ (by decide) | exact xc_ (by decide) | exact x31_ (by decide) | omega), mu_ne (by first | assumption | decide | exact xs_ (by decide) | exact xc_ (by decide) | exact x31_ (by decide) | omega), mu_ne (by first | assumption | decide | exact xs_ (by decide) | exact xc_ (by decide) | exact x31_ (by decide) | omega), mu_ne (by first | assumption | decide | exact xs_ (by decide) | exact xc_ (by decide) | exact x31_ (by decide) | omega), mu_ne (by first | assumption | decide | exact xs_ (by decide) | exact xc_ (by decide) | exact x31_ (by decide) | omega), mu_ne (by first | assumption | decide | exact xs_ (by decide) | exact xc_ (by decide) | exact x31_ (by decide) | omega), mu_ne (by first | assumption | decide | exact xs_ (by decide) | exact xc_ (by decide) | exact x31_ (by decide) | omega), mu_ne (by first | assumption | decide | exact xs_ (by decide) | exact xc_ (by decide) | exact x31_ (by decide) | omega), mu_ne (by first | assumption | decide | exact xs_ (by decide) | exact xc_ (by decide) | exact x31_ (by decide) | omega), mu_ne (by first | assumption | decide | exact xs_ (by decide) | exact xc_ (by decide) | exact x31_ (by decide) | omega), mu_ne (by first | assumption | decide | exact xs_ (by decide) | exact xc_ (by decide) | exact x31_ (by decide) | omega), mu_ne (by first | assumption | decide | exact xs_ (by decide) | exact xc_ (by decide) | exact x31_ (by decide) | omega), mu_ne (by first | assumption | decide | exact xs_ (by decide) | exact xc_ (by decide) | exact x31_ (by decide) | omega), mu_ne (by first | assumption | decide | exact xs_ (by decide) | exact xc_ (by decide) | exact x31_ (by decide) | omega), mu_ne (by first | assumption | decide | exact xs_ (by decide) | exact xc_ (by decide) | exact x31_ (by decide) | omega), mu_ne (by first | assumption | decide | exact xs_ (by decide) | exact xc_ (by decide) | exact x31_ (by decide) | omega), mu_ne (by first | assumption | decide | exact xs_ (by decide) | exact xc_ (by decide) | exact x31_ (by decide) | omega)]
  · unfold cpA
    rw [if_neg (fun q => hx q.symm), mu_ne (by first | assumption | decide | exact xs_ (by decide) | exact xc_ (by decide) | exact x31_ (by decide) | omega), mu_ne (by first | assumption | decide | exact xs_ (by decide) | exact xc_ (by decide) | exact x31_ (by decide) | omega), mu_ne (by first | assumption | decide | exact xs_ (by decide) | exact xc_ (by decide) | exact x31_ (by decide) | omega), mu_ne (by first | assumption | decide | exact xs_ (by decide) | exact xc_ (by decide) | exact x31_ (by decide) | omega), mu_ne (by first | assumption | decide | exact xs_ (by decide) | exact xc_ (by decide) | exact x31_ (by decide) | omega), mu_ne (by first | assumption | decide | exact xs_ (by decide) | exact xc_ (by decide) | exact x31_ (by decide) | omega), mu_ne (by first | assumption | decide | exact xs_ (by decide) | exact xc_ (by decide) | exact x31_ (by decide) | omega), mu_ne (by first | assumption | decide | exact xs_ (by decide) | exact xc_ (by decide) | exact x31_ (by decide) | omega), mu_ne (by first | assumption | decide | exact xs_ (by decide) | exact xc_ (by decide) | exact x31_ (by decide) | omega), mu_ne (by first | assumption | decide | exact xs_ (by decide) | exact xc_ (by decide) | exact x31_ (by decide) | omega), mu_ne (by first | assumption | decide | exact xs_ (by decide) | exact xc_ (by decide) | exact x31_ (by decide) | omega), mu_ne (by first | assumption | decide | exact xs_ (by decide) | exact xc_ (by decide) | exact x31_ (by decide) | omega), mu_ne (by first | assumption | decide | exact xs_ (by decide) | exact xc_ (by decide) | exact x31_ (by decide) | omega), mu_ne (by first | assumption | decide | exact xs_ (by decide) | exact xc_ (by decide) | exact x31_ (by decide) | omega), mu_ne (by first | assumption | decide | exact xs_ (by decide) | exact xc_ (by decide) | exact x31_ (by decide) | omega), mu_ne (by first | assumption | decide | exact xs_ (by decide) | exact xc_ (by decide) | exact x31_ (by decide) | omega), mu_ne (by first | assumption | decide | exact xs_ (by decide) | exact xc_ (by decide) | exact x31_ (by decide) | omega), mu_ne (by first | assumption | decide | exact xs_ (by decide) | exact xc_ (by decide) | exact x31_ (by decide) | omega)]
theorem y_openLanes {eb : Bool} {t : Int} {V : Mm} {d : Nat} {P : Option Vl → Mm → Prop} {σ : Mm}  {σ0 : Mm} (ht : 6 ≤ t ∧ t ≤ 7) (hR : RS t σ0 V σ)  (k : P (some (vI (cntO V))) σ) : WT (true, eb, true) (d + 2) 175 [vR 30 0] σ P := by
  refine WT_in fun K hK => ?_
  have hK : StpY (true, eb, true) cX6_openLanes RX6 (some .int) (WT (true, eb, true) (d + 1)) P K := hK
  have hM := hK.1
  have hC := hK.1.1
  show K 0 [some (vR 30 0), none, none] [] σ
  refine r_iconst hC dX6_openLanes_0 rfl ?_
  refine r_istore_n hC dX6_openLanes_1 rfl ?_
  refine r_iconst hC dX6_openLanes_2 rfl ?_
  refine r_istore_n hC dX6_openLanes_3 rfl ?_
  refine r_iload_n hC dX6_openLanes_4 rfl ?_
  refine r_iconst hC dX6_openLanes_5 rfl ?_
  refine r_icmp_ge (tgt := 24) hC dX6_openLanes_6 rfl (fun h1 => by omega) (fun h1 => ?_)
  refine r_iload_n hC dX6_openLanes_9 rfl ?_
  refine r_aload_n hC dX6_openLanes_10 rfl ?_
  refine r_iload_n hC dX6_openLanes_11 rfl ?_
  refine r_iconst hC dX6_openLanes_12 rfl ?_
  refine z_inv2 hM dX6_openLanes_13 vl_RX6_80 rfl rfl rfl (Nat.le_of_ble_eq_true rfl) (Nat.le_of_ble_eq_true rfl) ?_
  refine y_of (by first | assumption | decide | exact xs_ (by decide) | exact xc_ (by decide) | exact x31_ (by decide) | omega) (by first | assumption | decide | exact xs_ (by decide) | exact xc_ (by decide) | exact x31_ (by decide) | omega) (by first | assumption | decide | exact xs_ (by decide) | exact xc_ (by decide) | exact x31_ (by decide) | omega) (fun o2 => ?_)
  have e3 : σ 31 0 (22 * 0 + 0) = (V 7 0 1) := (hR.1.a7 (s := 1) (f := 0) (by first | assumption | decide | exact xs_ (by decide) | exact xc_ (by decide) | exact x31_ (by decide) | omega) (by first | assumption | decide | exact xs_ (by decide) | exact xc_ (by decide) | exact x31_ (by decide) | omega) (by first | assumption | decide | exact xs_ (by decide) | exact xc_ (by decide) | exact x31_ (by decide) | omega)).trans (rfl)
  rw [e3] at o2 ⊢
  clear e3
  have qo2 : 0 ≤ (V 7 0 1) ∧ (V 7 0 1) ≤ 1 := by have := o2.2 (by first | assumption | decide | exact xs_ (by decide) | exact xc_ (by decide) | exact x31_ (by decide) | omega); omega
  refine r_iaddE hC ((V 7 0 1)) dX6_openLanes_16 (by first | assumption | decide | exact xs_ (by decide) | exact xc_ (by decide) | exact x31_ (by decide) | omega) (by unfold inR; omega) ?_
  refine r_istore_n hC dX6_openLanes_17 rfl ?_
  show K _ [_, _, _] _ _
  refine r_iincE hC (1) dX6_openLanes_18 rfl rfl (by first | assumption | decide | exact xs_ (by decide) | exact xc_ (by decide) | exact x31_ (by decide) | omega) (by unfold inR; omega) ?_
  refine r_goto (tgt := 4) hC dX6_openLanes_21 rfl ?_
  refine r_iload_n hC dX6_openLanes_4 rfl ?_
  refine r_iconst hC dX6_openLanes_5 rfl ?_
  refine r_icmp_ge (tgt := 24) hC dX6_openLanes_6 rfl (fun h4 => by omega) (fun h4 => ?_)
  refine r_iload_n hC dX6_openLanes_9 rfl ?_
  refine r_aload_n hC dX6_openLanes_10 rfl ?_
  refine r_iload_n hC dX6_openLanes_11 rfl ?_
  refine r_iconst hC dX6_openLanes_12 rfl ?_
  refine z_inv2 hM dX6_openLanes_13 vl_RX6_80 rfl rfl rfl (Nat.le_of_ble_eq_true rfl) (Nat.le_of_ble_eq_true rfl) ?_
  refine y_of (by first | assumption | decide | exact xs_ (by decide) | exact xc_ (by decide) | exact x31_ (by decide) | omega) (by first | assumption | decide | exact xs_ (by decide) | exact xc_ (by decide) | exact x31_ (by decide) | omega) (by first | assumption | decide | exact xs_ (by decide) | exact xc_ (by decide) | exact x31_ (by decide) | omega) (fun o5 => ?_)
  have e6 : σ 31 0 (22 * 1 + 0) = (V 7 1 1) := (hR.1.a7 (s := 1) (f := 0) (by first | assumption | decide | exact xs_ (by decide) | exact xc_ (by decide) | exact x31_ (by decide) | omega) (by first | assumption | decide | exact xs_ (by decide) | exact xc_ (by decide) | exact x31_ (by decide) | omega) (by first | assumption | decide | exact xs_ (by decide) | exact xc_ (by decide) | exact x31_ (by decide) | omega)).trans (rfl)
  rw [e6] at o5 ⊢
  clear e6
  have qo5 : 0 ≤ (V 7 1 1) ∧ (V 7 1 1) ≤ 1 := by have := o5.2 (by first | assumption | decide | exact xs_ (by decide) | exact xc_ (by decide) | exact x31_ (by decide) | omega); omega
  refine r_iaddE hC (((V 7 0 1) + (V 7 1 1))) dX6_openLanes_16 (by first | assumption | decide | exact xs_ (by decide) | exact xc_ (by decide) | exact x31_ (by decide) | omega) (by unfold inR; omega) ?_
  refine r_istore_n hC dX6_openLanes_17 rfl ?_
  refine r_iincE hC (2) dX6_openLanes_18 rfl rfl (by first | assumption | decide | exact xs_ (by decide) | exact xc_ (by decide) | exact x31_ (by decide) | omega) (by unfold inR; omega) ?_
  show K _ [_, _, _] _ _
  refine r_goto (tgt := 4) hC dX6_openLanes_21 rfl ?_
  refine r_iload_n hC dX6_openLanes_4 rfl ?_
  refine r_iconst hC dX6_openLanes_5 rfl ?_
  refine r_icmp_ge (tgt := 24) hC dX6_openLanes_6 rfl (fun h7 => by omega) (fun h7 => ?_)
  refine r_iload_n hC dX6_openLanes_9 rfl ?_
  refine r_aload_n hC dX6_openLanes_10 rfl ?_
  refine r_iload_n hC dX6_openLanes_11 rfl ?_
  refine r_iconst hC dX6_openLanes_12 rfl ?_
  refine z_inv2 hM dX6_openLanes_13 vl_RX6_80 rfl rfl rfl (Nat.le_of_ble_eq_true rfl) (Nat.le_of_ble_eq_true rfl) ?_
  refine y_of (by first | assumption | decide | exact xs_ (by decide) | exact xc_ (by decide) | exact x31_ (by decide) | omega) (by first | assumption | decide | exact xs_ (by decide) | exact xc_ (by decide) | exact x31_ (by decide) | omega) (by first | assumption | decide | exact xs_ (by decide) | exact xc_ (by decide) | exact x31_ (by decide) | omega) (fun o8 => ?_)
  have e9 : σ 31 0 (22 * 2 + 0) = (V 7 2 1) := (hR.1.a7 (s := 1) (f := 0) (by first | assumption | decide | exact xs_ (by decide) | exact xc_ (by decide) | exact x31_ (by decide) | omega) (by first | assumption | decide | exact xs_ (by decide) | exact xc_ (by decide) | exact x31_ (by decide) | omega) (by first | assumption | decide | exact xs_ (by decide) | exact xc_ (by decide) | exact x31_ (by decide) | omega)).trans (rfl)
  rw [e9] at o8 ⊢
  clear e9
  have qo8 : 0 ≤ (V 7 2 1) ∧ (V 7 2 1) ≤ 1 := by have := o8.2 (by first | assumption | decide | exact xs_ (by decide) | exact xc_ (by decide) | exact x31_ (by decide) | omega); omega
  refine r_iaddE hC ((((V 7 0 1) + (V 7 1 1)) + (V 7 2 1))) dX6_openLanes_16 (by first | assumption | decide | exact xs_ (by decide) | exact xc_ (by decide) | exact x31_ (by decide) | omega) (by unfold inR; omega) ?_
  refine r_istore_n hC dX6_openLanes_17 rfl ?_
  refine r_iincE hC (3) dX6_openLanes_18 rfl rfl (by first | assumption | decide | exact xs_ (by decide) | exact xc_ (by decide) | exact x31_ (by decide) | omega) (by unfold inR; omega) ?_
  refine r_goto (tgt := 4) hC dX6_openLanes_21 rfl ?_
  refine r_iload_n hC dX6_openLanes_4 rfl ?_
  refine r_iconst hC dX6_openLanes_5 rfl ?_
  refine r_icmp_ge (tgt := 24) hC dX6_openLanes_6 rfl (fun h10 => by omega) (fun h10 => ?_)
  refine r_iload_n hC dX6_openLanes_9 rfl ?_
  refine r_aload_n hC dX6_openLanes_10 rfl ?_
  refine r_iload_n hC dX6_openLanes_11 rfl ?_
  refine r_iconst hC dX6_openLanes_12 rfl ?_
  refine z_inv2 hM dX6_openLanes_13 vl_RX6_80 rfl rfl rfl (Nat.le_of_ble_eq_true rfl) (Nat.le_of_ble_eq_true rfl) ?_
  refine y_of (by first | assumption | decide | exact xs_ (by decide) | exact xc_ (by decide) | exact x31_ (by decide) | omega) (by first | assumption | decide | exact xs_ (by decide) | exact xc_ (by decide) | exact x31_ (by decide) | omega) (by first | assumption | decide | exact xs_ (by decide) | exact xc_ (by decide) | exact x31_ (by decide) | omega) (fun o11 => ?_)
  have e12 : σ 31 0 (22 * 3 + 0) = (V 7 3 1) := (hR.1.a7 (s := 1) (f := 0) (by first | assumption | decide | exact xs_ (by decide) | exact xc_ (by decide) | exact x31_ (by decide) | omega) (by first | assumption | decide | exact xs_ (by decide) | exact xc_ (by decide) | exact x31_ (by decide) | omega) (by first | assumption | decide | exact xs_ (by decide) | exact xc_ (by decide) | exact x31_ (by decide) | omega)).trans (rfl)
  rw [e12] at o11 ⊢
  clear e12
  have qo11 : 0 ≤ (V 7 3 1) ∧ (V 7 3 1) ≤ 1 := by have := o11.2 (by first | assumption | decide | exact xs_ (by decide) | exact xc_ (by decide) | exact x31_ (by decide) | omega); omega
  refine r_iaddE hC (((((V 7 0 1) + (V 7 1 1)) + (V 7 2 1)) + (V 7 3 1))) dX6_openLanes_16 (by first | assumption | decide | exact xs_ (by decide) | exact xc_ (by decide) | exact x31_ (by decide) | omega) (by unfold inR; omega) ?_
  refine r_istore_n hC dX6_openLanes_17 rfl ?_
  show K _ [_, _, _] _ _
  refine r_iincE hC (4) dX6_openLanes_18 rfl rfl (by first | assumption | decide | exact xs_ (by decide) | exact xc_ (by decide) | exact x31_ (by decide) | omega) (by unfold inR; omega) ?_
  refine r_goto (tgt := 4) hC dX6_openLanes_21 rfl ?_
  refine r_iload_n hC dX6_openLanes_4 rfl ?_
  refine r_iconst hC dX6_openLanes_5 rfl ?_
  refine r_icmp_ge (tgt := 24) hC dX6_openLanes_6 rfl (fun h13 => ?_) (fun h13 => by omega)
  refine r_iload_n hC dX6_openLanes_24 rfl ?_
  refine y_iret hK rfl dX6_openLanes_25 ?_
  have e : cntO V = ((((V 7 0 1) + (V 7 1 1)) + (V 7 2 1)) + (V 7 3 1)) := by unfold cntO; omega
  rw [e] at k
  exact k
theorem y_open {eb : Bool} {t : Int} {V : Mm} {d : Nat} {P : Option Vl → Mm → Prop} {σ : Mm} {l o b z y : Int}  {σ0 : Mm} (ht : 6 ≤ t ∧ t ≤ 7) (hR : RS t σ0 V σ) (hG : GI V)  (k : ∀ ρ : Mm, RS t σ0 (onM V l o b z y) ρ → P (some (vI (onR V l o b z y))) ρ) : WT (true, eb, true) (d + 4) 174 [vR 30 0, vI l, vI o, vI b, vI z, vI y] σ P := by
  refine WT_in fun K hK => ?_
  have hK : StpY (true, eb, true) cX6_open RX6 (some .int) (WT (true, eb, true) (d + 3)) P K := hK
  have hM := hK.1
  have hC := hK.1.1
  show K 0 [some (vR 30 0), some (vI l), some (vI o), some (vI b), some (vI z), some (vI y), none] [] σ
  refine r_rngz hC (fun g0 => ?_)
  have r_l : -2147483648 ≤ l ∧ l ≤ 2147483647 := inR_le (g0 (vI l) (by simp))
  have r_o : -2147483648 ≤ o ∧ o ≤ 2147483647 := inR_le (g0 (vI o) (by simp))
  have r_b : -2147483648 ≤ b ∧ b ≤ 2147483647 := inR_le (g0 (vI b) (by simp))
  have r_z : -2147483648 ≤ z ∧ z ≤ 2147483647 := inR_le (g0 (vI z) (by simp))
  have r_y : -2147483648 ≤ y ∧ y ≤ 2147483647 := inR_le (g0 (vI y) (by simp))
  have J92 : ocC V l o b z y → K 92 [some (vR 30 0), some (vI l), some (vI o), some (vI b), some (vI z), some (vI y), none] [] σ := by
    intro hoc
    obtain ⟨hl_, ho_, hy_, hb_, h9_⟩ := id hoc
    have kxx : KX t l V σ := (hR.2.1).kx l
    refine r_iconst hC dX6_open_92 rfl ?_
    refine r_istore hC dX6_open_93 rfl ?_
    refine r_iload hC dX6_open_95 rfl ?_
    refine r_bipush hC dX6_open_97 rfl ?_
    refine r_icmp_ge (tgt := 116) hC dX6_open_99 rfl (fun h1 => by omega) (fun h1 => ?_)
    refine r_aload_n hC dX6_open_102 rfl ?_
    refine r_iload_n hC dX6_open_103 rfl ?_
    refine r_iload hC dX6_open_104 rfl ?_
    refine r_iconst hC dX6_open_106 rfl ?_
    refine z_inv3 hM dX6_open_107 vl_RX6_173 rfl rfl rfl (Nat.le_of_ble_eq_true rfl) (Nat.le_of_ble_eq_true rfl) ?_
    refine y_set (by first | assumption | decide | exact xs_ (by decide) | exact xc_ (by decide) | exact x31_ (by decide) | omega) (by first | assumption | decide | exact xs_ (by decide) | exact xc_ (by decide) | exact x31_ (by decide) | omega) ⟨fun h => by omega, fun h => by omega⟩ ?_
    obtain ⟨ρ2, e_ρ2⟩ : ∃ zz_, zz_ = mu σ 31 0 ((22 * l) + 0) 0 := ⟨_, rfl⟩
    rw [← e_ρ2]
    have Sρ2 : SB t σ0 (mu V 7 l 1 0) ρ2 := by rw [e_ρ2, show ((22 * l) + 0) = 22 * l + 0 from by omega]; exact hR.1.p7 (by first | assumption | decide | exact xs_ (by decide) | exact xc_ (by decide) | exact x31_ (by decide) | omega) (by first | assumption | decide | exact xs_ (by decide) | exact xc_ (by decide) | exact x31_ (by decide) | omega) (by first | assumption | decide | exact xs_ (by decide) | exact xc_ (by decide) | exact x31_ (by decide) | omega)
    have Xρ2 : KX t l (mu V 7 l 1 0) ρ2 := (kxx).e (fun m a b c => by rw [e_ρ2]; exact ⟨mu_ne (by first | assumption | decide | exact xs_ (by decide) | exact xc_ (by decide) | exact x31_ (by decide) | omega), mu_ne (by first | assumption | decide | exact xs_ (by decide) | exact xc_ (by decide) | exact x31_ (by decide) | omega)⟩) (fun m c => mu_ne (by first | assumption | decide | exact xs_ (by decide) | exact xc_ (by decide) | exact x31_ (by decide) | omega))
    have Fρ2 : FB (mu V 7 l 1 0) ρ2 := by rw [e_ρ2]; exact (hR.2.2).e (fun l a b => mu_ne (by first | assumption | decide | exact xs_ (by decide) | exact xc_ (by decide) | exact x31_ (by decide) | omega)) |>.v (fun l y a b c => mu_ne (by first | assumption | decide | exact xs_ (by decide) | exact xc_ (by decide) | exact x31_ (by decide) | omega))
    clear e_ρ2
    refine r_iincE hC (1) dX6_open_110 rfl rfl (by first | assumption | decide | exact xs_ (by decide) | exact xc_ (by decide) | exact x31_ (by decide) | omega) (by unfold inR; omega) ?_
    refine r_goto (tgt := 95) hC dX6_open_113 rfl ?_
    refine r_iload hC dX6_open_95 rfl ?_
    refine r_bipush hC dX6_open_97 rfl ?_
    refine r_icmp_ge (tgt := 116) hC dX6_open_99 rfl (fun h3 => by omega) (fun h3 => ?_)
    refine r_aload_n hC dX6_open_102 rfl ?_
    refine r_iload_n hC dX6_open_103 rfl ?_
    refine r_iload hC dX6_open_104 rfl ?_
    refine r_iconst hC dX6_open_106 rfl ?_
    refine z_inv3 hM dX6_open_107 vl_RX6_173 rfl rfl rfl (Nat.le_of_ble_eq_true rfl) (Nat.le_of_ble_eq_true rfl) ?_
    refine y_set (by first | assumption | decide | exact xs_ (by decide) | exact xc_ (by decide) | exact x31_ (by decide) | omega) (by first | assumption | decide | exact xs_ (by decide) | exact xc_ (by decide) | exact x31_ (by decide) | omega) ⟨fun h => by omega, fun h => by omega⟩ ?_
    obtain ⟨ρ4, e_ρ4⟩ : ∃ zz_, zz_ = mu ρ2 31 0 ((22 * l) + 1) 0 := ⟨_, rfl⟩
    rw [← e_ρ4]
    have Sρ4 : SB t σ0 (mu (mu V 7 l 1 0) 7 l 2 0) ρ4 := by rw [e_ρ4, show ((22 * l) + 1) = 22 * l + 1 from by omega]; exact Sρ2.p7 (by first | assumption | decide | exact xs_ (by decide) | exact xc_ (by decide) | exact x31_ (by decide) | omega) (by first | assumption | decide | exact xs_ (by decide) | exact xc_ (by decide) | exact x31_ (by decide) | omega) (by first | assumption | decide | exact xs_ (by decide) | exact xc_ (by decide) | exact x31_ (by decide) | omega)
    clear Sρ2
    have Xρ4 : KX t l (mu (mu V 7 l 1 0) 7 l 2 0) ρ4 := (Xρ2).e (fun m a b c => by rw [e_ρ4]; exact ⟨mu_ne (by first | assumption | decide | exact xs_ (by decide) | exact xc_ (by decide) | exact x31_ (by decide) | omega), mu_ne (by first | assumption | decide | exact xs_ (by decide) | exact xc_ (by decide) | exact x31_ (by decide) | omega)⟩) (fun m c => mu_ne (by first | assumption | decide | exact xs_ (by decide) | exact xc_ (by decide) | exact x31_ (by decide) | omega))
    clear Xρ2
    have Fρ4 : FB (mu (mu V 7 l 1 0) 7 l 2 0) ρ4 := by rw [e_ρ4]; exact (Fρ2).e (fun l a b => mu_ne (by first | assumption | decide | exact xs_ (by decide) | exact xc_ (by decide) | exact x31_ (by decide) | omega)) |>.v (fun l y a b c => mu_ne (by first | assumption | decide | exact xs_ (by decide) | exact xc_ (by decide) | exact x31_ (by decide) | omega))
    clear Fρ2 e_ρ4
    refine r_iincE hC (2) dX6_open_110 rfl rfl (by first | assumption | decide | exact xs_ (by decide) | exact xc_ (by decide) | exact x31_ (by decide) | omega) (by unfold inR; omega) ?_
    show K _ [_, _, _, _, _, _, _] _ _
    refine r_goto (tgt := 95) hC dX6_open_113 rfl ?_
    refine r_iload hC dX6_open_95 rfl ?_
    refine r_bipush hC dX6_open_97 rfl ?_
    refine r_icmp_ge (tgt := 116) hC dX6_open_99 rfl (fun h5 => by omega) (fun h5 => ?_)
    refine r_aload_n hC dX6_open_102 rfl ?_
    refine r_iload_n hC dX6_open_103 rfl ?_
    refine r_iload hC dX6_open_104 rfl ?_
    refine r_iconst hC dX6_open_106 rfl ?_
    refine z_inv3 hM dX6_open_107 vl_RX6_173 rfl rfl rfl (Nat.le_of_ble_eq_true rfl) (Nat.le_of_ble_eq_true rfl) ?_
    refine y_set (by first | assumption | decide | exact xs_ (by decide) | exact xc_ (by decide) | exact x31_ (by decide) | omega) (by first | assumption | decide | exact xs_ (by decide) | exact xc_ (by decide) | exact x31_ (by decide) | omega) ⟨fun h => by omega, fun h => by omega⟩ ?_
    obtain ⟨ρ6, e_ρ6⟩ : ∃ zz_, zz_ = mu ρ4 31 0 ((22 * l) + 2) 0 := ⟨_, rfl⟩
    rw [← e_ρ6]
    have Sρ6 : SB t σ0 (mu (mu (mu V 7 l 1 0) 7 l 2 0) 7 l 3 0) ρ6 := by rw [e_ρ6, show ((22 * l) + 2) = 22 * l + 2 from by omega]; exact Sρ4.p7 (by first | assumption | decide | exact xs_ (by decide) | exact xc_ (by decide) | exact x31_ (by decide) | omega) (by first | assumption | decide | exact xs_ (by decide) | exact xc_ (by decide) | exact x31_ (by decide) | omega) (by first | assumption | decide | exact xs_ (by decide) | exact xc_ (by decide) | exact x31_ (by decide) | omega)
    clear Sρ4
    have Xρ6 : KX t l (mu (mu (mu V 7 l 1 0) 7 l 2 0) 7 l 3 0) ρ6 := (Xρ4).e (fun m a b c => by rw [e_ρ6]; exact ⟨mu_ne (by first | assumption | decide | exact xs_ (by decide) | exact xc_ (by decide) | exact x31_ (by decide) | omega), mu_ne (by first | assumption | decide | exact xs_ (by decide) | exact xc_ (by decide) | exact x31_ (by decide) | omega)⟩) (fun m c => mu_ne (by first | assumption | decide | exact xs_ (by decide) | exact xc_ (by decide) | exact x31_ (by decide) | omega))
    clear Xρ4
    have Fρ6 : FB (mu (mu (mu V 7 l 1 0) 7 l 2 0) 7 l 3 0) ρ6 := by rw [e_ρ6]; exact (Fρ4).e (fun l a b => mu_ne (by first | assumption | decide | exact xs_ (by decide) | exact xc_ (by decide) | exact x31_ (by decide) | omega)) |>.v (fun l y a b c => mu_ne (by first | assumption | decide | exact xs_ (by decide) | exact xc_ (by decide) | exact x31_ (by decide) | omega))
    clear Fρ4 e_ρ6
    refine r_iincE hC (3) dX6_open_110 rfl rfl (by first | assumption | decide | exact xs_ (by decide) | exact xc_ (by decide) | exact x31_ (by decide) | omega) (by unfold inR; omega) ?_
    refine r_goto (tgt := 95) hC dX6_open_113 rfl ?_
    refine r_iload hC dX6_open_95 rfl ?_
    refine r_bipush hC dX6_open_97 rfl ?_
    refine r_icmp_ge (tgt := 116) hC dX6_open_99 rfl (fun h7 => by omega) (fun h7 => ?_)
    refine r_aload_n hC dX6_open_102 rfl ?_
    refine r_iload_n hC dX6_open_103 rfl ?_
    refine r_iload hC dX6_open_104 rfl ?_
    refine r_iconst hC dX6_open_106 rfl ?_
    refine z_inv3 hM dX6_open_107 vl_RX6_173 rfl rfl rfl (Nat.le_of_ble_eq_true rfl) (Nat.le_of_ble_eq_true rfl) ?_
    refine y_set (by first | assumption | decide | exact xs_ (by decide) | exact xc_ (by decide) | exact x31_ (by decide) | omega) (by first | assumption | decide | exact xs_ (by decide) | exact xc_ (by decide) | exact x31_ (by decide) | omega) ⟨fun h => by omega, fun h => by omega⟩ ?_
    obtain ⟨ρ8, e_ρ8⟩ : ∃ zz_, zz_ = mu ρ6 31 0 ((22 * l) + 3) 0 := ⟨_, rfl⟩
    rw [← e_ρ8]
    have Sρ8 : SB t σ0 (mu (mu (mu (mu V 7 l 1 0) 7 l 2 0) 7 l 3 0) 7 l 4 0) ρ8 := by rw [e_ρ8, show ((22 * l) + 3) = 22 * l + 3 from by omega]; exact Sρ6.p7 (by first | assumption | decide | exact xs_ (by decide) | exact xc_ (by decide) | exact x31_ (by decide) | omega) (by first | assumption | decide | exact xs_ (by decide) | exact xc_ (by decide) | exact x31_ (by decide) | omega) (by first | assumption | decide | exact xs_ (by decide) | exact xc_ (by decide) | exact x31_ (by decide) | omega)
    clear Sρ6
    have Xρ8 : KX t l (mu (mu (mu (mu V 7 l 1 0) 7 l 2 0) 7 l 3 0) 7 l 4 0) ρ8 := (Xρ6).e (fun m a b c => by rw [e_ρ8]; exact ⟨mu_ne (by first | assumption | decide | exact xs_ (by decide) | exact xc_ (by decide) | exact x31_ (by decide) | omega), mu_ne (by first | assumption | decide | exact xs_ (by decide) | exact xc_ (by decide) | exact x31_ (by decide) | omega)⟩) (fun m c => mu_ne (by first | assumption | decide | exact xs_ (by decide) | exact xc_ (by decide) | exact x31_ (by decide) | omega))
    clear Xρ6
    have Fρ8 : FB (mu (mu (mu (mu V 7 l 1 0) 7 l 2 0) 7 l 3 0) 7 l 4 0) ρ8 := by rw [e_ρ8]; exact (Fρ6).e (fun l a b => mu_ne (by first | assumption | decide | exact xs_ (by decide) | exact xc_ (by decide) | exact x31_ (by decide) | omega)) |>.v (fun l y a b c => mu_ne (by first | assumption | decide | exact xs_ (by decide) | exact xc_ (by decide) | exact x31_ (by decide) | omega))
    clear Fρ6 e_ρ8
    refine r_iincE hC (4) dX6_open_110 rfl rfl (by first | assumption | decide | exact xs_ (by decide) | exact xc_ (by decide) | exact x31_ (by decide) | omega) (by unfold inR; omega) ?_
    refine r_goto (tgt := 95) hC dX6_open_113 rfl ?_
    refine r_iload hC dX6_open_95 rfl ?_
    refine r_bipush hC dX6_open_97 rfl ?_
    refine r_icmp_ge (tgt := 116) hC dX6_open_99 rfl (fun h9 => by omega) (fun h9 => ?_)
    refine r_aload_n hC dX6_open_102 rfl ?_
    refine r_iload_n hC dX6_open_103 rfl ?_
    refine r_iload hC dX6_open_104 rfl ?_
    refine r_iconst hC dX6_open_106 rfl ?_
    refine z_inv3 hM dX6_open_107 vl_RX6_173 rfl rfl rfl (Nat.le_of_ble_eq_true rfl) (Nat.le_of_ble_eq_true rfl) ?_
    refine y_set (by first | assumption | decide | exact xs_ (by decide) | exact xc_ (by decide) | exact x31_ (by decide) | omega) (by first | assumption | decide | exact xs_ (by decide) | exact xc_ (by decide) | exact x31_ (by decide) | omega) ⟨fun h => by omega, fun h => by omega⟩ ?_
    obtain ⟨ρ10, e_ρ10⟩ : ∃ zz_, zz_ = mu ρ8 31 0 ((22 * l) + 4) 0 := ⟨_, rfl⟩
    rw [← e_ρ10]
    have Sρ10 : SB t σ0 (mu (mu (mu (mu (mu V 7 l 1 0) 7 l 2 0) 7 l 3 0) 7 l 4 0) 7 l 5 0) ρ10 := by rw [e_ρ10, show ((22 * l) + 4) = 22 * l + 4 from by omega]; exact Sρ8.p7 (by first | assumption | decide | exact xs_ (by decide) | exact xc_ (by decide) | exact x31_ (by decide) | omega) (by first | assumption | decide | exact xs_ (by decide) | exact xc_ (by decide) | exact x31_ (by decide) | omega) (by first | assumption | decide | exact xs_ (by decide) | exact xc_ (by decide) | exact x31_ (by decide) | omega)
    clear Sρ8
    have Xρ10 : KX t l (mu (mu (mu (mu (mu V 7 l 1 0) 7 l 2 0) 7 l 3 0) 7 l 4 0) 7 l 5 0) ρ10 := (Xρ8).e (fun m a b c => by rw [e_ρ10]; exact ⟨mu_ne (by first | assumption | decide | exact xs_ (by decide) | exact xc_ (by decide) | exact x31_ (by decide) | omega), mu_ne (by first | assumption | decide | exact xs_ (by decide) | exact xc_ (by decide) | exact x31_ (by decide) | omega)⟩) (fun m c => mu_ne (by first | assumption | decide | exact xs_ (by decide) | exact xc_ (by decide) | exact x31_ (by decide) | omega))
    clear Xρ8
    have Fρ10 : FB (mu (mu (mu (mu (mu V 7 l 1 0) 7 l 2 0) 7 l 3 0) 7 l 4 0) 7 l 5 0) ρ10 := by rw [e_ρ10]; exact (Fρ8).e (fun l a b => mu_ne (by first | assumption | decide | exact xs_ (by decide) | exact xc_ (by decide) | exact x31_ (by decide) | omega)) |>.v (fun l y a b c => mu_ne (by first | assumption | decide | exact xs_ (by decide) | exact xc_ (by decide) | exact x31_ (by decide) | omega))
    clear Fρ8 e_ρ10
    refine r_iincE hC (5) dX6_open_110 rfl rfl (by first | assumption | decide | exact xs_ (by decide) | exact xc_ (by decide) | exact x31_ (by decide) | omega) (by unfold inR; omega) ?_
    show K _ [_, _, _, _, _, _, _] _ _
    refine r_goto (tgt := 95) hC dX6_open_113 rfl ?_
    refine r_iload hC dX6_open_95 rfl ?_
    refine r_bipush hC dX6_open_97 rfl ?_
    refine r_icmp_ge (tgt := 116) hC dX6_open_99 rfl (fun h11 => by omega) (fun h11 => ?_)
    refine r_aload_n hC dX6_open_102 rfl ?_
    refine r_iload_n hC dX6_open_103 rfl ?_
    refine r_iload hC dX6_open_104 rfl ?_
    refine r_iconst hC dX6_open_106 rfl ?_
    refine z_inv3 hM dX6_open_107 vl_RX6_173 rfl rfl rfl (Nat.le_of_ble_eq_true rfl) (Nat.le_of_ble_eq_true rfl) ?_
    refine y_set (by first | assumption | decide | exact xs_ (by decide) | exact xc_ (by decide) | exact x31_ (by decide) | omega) (by first | assumption | decide | exact xs_ (by decide) | exact xc_ (by decide) | exact x31_ (by decide) | omega) ⟨fun h => by omega, fun h => by omega⟩ ?_
    obtain ⟨ρ12, e_ρ12⟩ : ∃ zz_, zz_ = mu ρ10 31 0 ((22 * l) + 5) 0 := ⟨_, rfl⟩
    rw [← e_ρ12]
    have Sρ12 : SB t σ0 (mu (mu (mu (mu (mu (mu V 7 l 1 0) 7 l 2 0) 7 l 3 0) 7 l 4 0) 7 l 5 0) 7 l 6 0) ρ12 := by rw [e_ρ12, show ((22 * l) + 5) = 22 * l + 5 from by omega]; exact Sρ10.p7 (by first | assumption | decide | exact xs_ (by decide) | exact xc_ (by decide) | exact x31_ (by decide) | omega) (by first | assumption | decide | exact xs_ (by decide) | exact xc_ (by decide) | exact x31_ (by decide) | omega) (by first | assumption | decide | exact xs_ (by decide) | exact xc_ (by decide) | exact x31_ (by decide) | omega)
    clear Sρ10
    have Xρ12 : KX t l (mu (mu (mu (mu (mu (mu V 7 l 1 0) 7 l 2 0) 7 l 3 0) 7 l 4 0) 7 l 5 0) 7 l 6 0) ρ12 := (Xρ10).e (fun m a b c => by rw [e_ρ12]; exact ⟨mu_ne (by first | assumption | decide | exact xs_ (by decide) | exact xc_ (by decide) | exact x31_ (by decide) | omega), mu_ne (by first | assumption | decide | exact xs_ (by decide) | exact xc_ (by decide) | exact x31_ (by decide) | omega)⟩) (fun m c => mu_ne (by first | assumption | decide | exact xs_ (by decide) | exact xc_ (by decide) | exact x31_ (by decide) | omega))
    clear Xρ10
    have Fρ12 : FB (mu (mu (mu (mu (mu (mu V 7 l 1 0) 7 l 2 0) 7 l 3 0) 7 l 4 0) 7 l 5 0) 7 l 6 0) ρ12 := by rw [e_ρ12]; exact (Fρ10).e (fun l a b => mu_ne (by first | assumption | decide | exact xs_ (by decide) | exact xc_ (by decide) | exact x31_ (by decide) | omega)) |>.v (fun l y a b c => mu_ne (by first | assumption | decide | exact xs_ (by decide) | exact xc_ (by decide) | exact x31_ (by decide) | omega))
    clear Fρ10 e_ρ12
    refine r_iincE hC (6) dX6_open_110 rfl rfl (by first | assumption | decide | exact xs_ (by decide) | exact xc_ (by decide) | exact x31_ (by decide) | omega) (by unfold inR; omega) ?_
    refine r_goto (tgt := 95) hC dX6_open_113 rfl ?_
    refine r_iload hC dX6_open_95 rfl ?_
    refine r_bipush hC dX6_open_97 rfl ?_
    refine r_icmp_ge (tgt := 116) hC dX6_open_99 rfl (fun h13 => by omega) (fun h13 => ?_)
    refine r_aload_n hC dX6_open_102 rfl ?_
    refine r_iload_n hC dX6_open_103 rfl ?_
    refine r_iload hC dX6_open_104 rfl ?_
    refine r_iconst hC dX6_open_106 rfl ?_
    refine z_inv3 hM dX6_open_107 vl_RX6_173 rfl rfl rfl (Nat.le_of_ble_eq_true rfl) (Nat.le_of_ble_eq_true rfl) ?_
    refine y_set (by first | assumption | decide | exact xs_ (by decide) | exact xc_ (by decide) | exact x31_ (by decide) | omega) (by first | assumption | decide | exact xs_ (by decide) | exact xc_ (by decide) | exact x31_ (by decide) | omega) ⟨fun h => by omega, fun h => by omega⟩ ?_
    obtain ⟨ρ14, e_ρ14⟩ : ∃ zz_, zz_ = mu ρ12 31 0 ((22 * l) + 6) 0 := ⟨_, rfl⟩
    rw [← e_ρ14]
    have Sρ14 : SB t σ0 (mu (mu (mu (mu (mu (mu (mu V 7 l 1 0) 7 l 2 0) 7 l 3 0) 7 l 4 0) 7 l 5 0) 7 l 6 0) 7 l 10 0) ρ14 := by rw [e_ρ14, show ((22 * l) + 6) = 22 * l + 6 from by omega]; exact Sρ12.p7 (by first | assumption | decide | exact xs_ (by decide) | exact xc_ (by decide) | exact x31_ (by decide) | omega) (by first | assumption | decide | exact xs_ (by decide) | exact xc_ (by decide) | exact x31_ (by decide) | omega) (by first | assumption | decide | exact xs_ (by decide) | exact xc_ (by decide) | exact x31_ (by decide) | omega)
    clear Sρ12
    have Xρ14 : KX t l (mu (mu (mu (mu (mu (mu (mu V 7 l 1 0) 7 l 2 0) 7 l 3 0) 7 l 4 0) 7 l 5 0) 7 l 6 0) 7 l 10 0) ρ14 := (Xρ12).e (fun m a b c => by rw [e_ρ14]; exact ⟨mu_ne (by first | assumption | decide | exact xs_ (by decide) | exact xc_ (by decide) | exact x31_ (by decide) | omega), mu_ne (by first | assumption | decide | exact xs_ (by decide) | exact xc_ (by decide) | exact x31_ (by decide) | omega)⟩) (fun m c => mu_ne (by first | assumption | decide | exact xs_ (by decide) | exact xc_ (by decide) | exact x31_ (by decide) | omega))
    clear Xρ12
    have Fρ14 : FB (mu (mu (mu (mu (mu (mu (mu V 7 l 1 0) 7 l 2 0) 7 l 3 0) 7 l 4 0) 7 l 5 0) 7 l 6 0) 7 l 10 0) ρ14 := by rw [e_ρ14]; exact (Fρ12).e (fun l a b => mu_ne (by first | assumption | decide | exact xs_ (by decide) | exact xc_ (by decide) | exact x31_ (by decide) | omega)) |>.v (fun l y a b c => mu_ne (by first | assumption | decide | exact xs_ (by decide) | exact xc_ (by decide) | exact x31_ (by decide) | omega))
    clear Fρ12 e_ρ14
    refine r_iincE hC (7) dX6_open_110 rfl rfl (by first | assumption | decide | exact xs_ (by decide) | exact xc_ (by decide) | exact x31_ (by decide) | omega) (by unfold inR; omega) ?_
    refine r_goto (tgt := 95) hC dX6_open_113 rfl ?_
    refine r_iload hC dX6_open_95 rfl ?_
    refine r_bipush hC dX6_open_97 rfl ?_
    refine r_icmp_ge (tgt := 116) hC dX6_open_99 rfl (fun h15 => by omega) (fun h15 => ?_)
    refine r_aload_n hC dX6_open_102 rfl ?_
    refine r_iload_n hC dX6_open_103 rfl ?_
    refine r_iload hC dX6_open_104 rfl ?_
    refine r_iconst hC dX6_open_106 rfl ?_
    refine z_inv3 hM dX6_open_107 vl_RX6_173 rfl rfl rfl (Nat.le_of_ble_eq_true rfl) (Nat.le_of_ble_eq_true rfl) ?_
    refine y_set (by first | assumption | decide | exact xs_ (by decide) | exact xc_ (by decide) | exact x31_ (by decide) | omega) (by first | assumption | decide | exact xs_ (by decide) | exact xc_ (by decide) | exact x31_ (by decide) | omega) ⟨fun h => by omega, fun h => by omega⟩ ?_
    obtain ⟨ρ16, e_ρ16⟩ : ∃ zz_, zz_ = mu ρ14 31 0 ((22 * l) + 7) 0 := ⟨_, rfl⟩
    rw [← e_ρ16]
    have Sρ16 : SB t σ0 (mu (mu (mu (mu (mu (mu (mu V 7 l 1 0) 7 l 2 0) 7 l 3 0) 7 l 4 0) 7 l 5 0) 7 l 6 0) 7 l 10 0) ρ16 := by rw [e_ρ16, show ((22 * l) + 7) = 22 * l + 7 from by omega]; exact Sρ14.px (by first | assumption | decide | exact xs_ (by decide) | exact xc_ (by decide) | exact x31_ (by decide) | omega)
    clear Sρ14
    have Xρ16 : KX t l (mu (mu (mu (mu (mu (mu (mu V 7 l 1 0) 7 l 2 0) 7 l 3 0) 7 l 4 0) 7 l 5 0) 7 l 6 0) 7 l 10 0) ρ16 := (Xρ14).e (fun m a b c => by rw [e_ρ16]; exact ⟨mu_ne (by first | assumption | decide | exact xs_ (by decide) | exact xc_ (by decide) | exact x31_ (by decide) | omega), mu_ne (by first | assumption | decide | exact xs_ (by decide) | exact xc_ (by decide) | exact x31_ (by decide) | omega)⟩) (fun m c => rfl)
    clear Xρ14
    have Fρ16 : FB (mu (mu (mu (mu (mu (mu (mu V 7 l 1 0) 7 l 2 0) 7 l 3 0) 7 l 4 0) 7 l 5 0) 7 l 6 0) 7 l 10 0) ρ16 := by rw [e_ρ16]; exact (Fρ14).e (fun l a b => mu_ne (by first | assumption | decide | exact xs_ (by decide) | exact xc_ (by decide) | exact x31_ (by decide) | omega))
    clear Fρ14 e_ρ16
    refine r_iincE hC (8) dX6_open_110 rfl rfl (by first | assumption | decide | exact xs_ (by decide) | exact xc_ (by decide) | exact x31_ (by decide) | omega) (by unfold inR; omega) ?_
    show K _ [_, _, _, _, _, _, _] _ _
    refine r_goto (tgt := 95) hC dX6_open_113 rfl ?_
    refine r_iload hC dX6_open_95 rfl ?_
    refine r_bipush hC dX6_open_97 rfl ?_
    refine r_icmp_ge (tgt := 116) hC dX6_open_99 rfl (fun h17 => by omega) (fun h17 => ?_)
    refine r_aload_n hC dX6_open_102 rfl ?_
    refine r_iload_n hC dX6_open_103 rfl ?_
    refine r_iload hC dX6_open_104 rfl ?_
    refine r_iconst hC dX6_open_106 rfl ?_
    refine z_inv3 hM dX6_open_107 vl_RX6_173 rfl rfl rfl (Nat.le_of_ble_eq_true rfl) (Nat.le_of_ble_eq_true rfl) ?_
    refine y_set (by first | assumption | decide | exact xs_ (by decide) | exact xc_ (by decide) | exact x31_ (by decide) | omega) (by first | assumption | decide | exact xs_ (by decide) | exact xc_ (by decide) | exact x31_ (by decide) | omega) ⟨fun h => by omega, fun h => by omega⟩ ?_
    obtain ⟨ρ18, e_ρ18⟩ : ∃ zz_, zz_ = mu ρ16 31 0 ((22 * l) + 8) 0 := ⟨_, rfl⟩
    rw [← e_ρ18]
    have Sρ18 : SB t σ0 (mu (mu (mu (mu (mu (mu (mu (mu V 7 l 1 0) 7 l 2 0) 7 l 3 0) 7 l 4 0) 7 l 5 0) 7 l 6 0) 7 l 10 0) 7 l 12 0) ρ18 := by rw [e_ρ18, show ((22 * l) + 8) = 22 * l + 8 from by omega]; exact Sρ16.p7 (by first | assumption | decide | exact xs_ (by decide) | exact xc_ (by decide) | exact x31_ (by decide) | omega) (by first | assumption | decide | exact xs_ (by decide) | exact xc_ (by decide) | exact x31_ (by decide) | omega) (by first | assumption | decide | exact xs_ (by decide) | exact xc_ (by decide) | exact x31_ (by decide) | omega)
    clear Sρ16
    have Xρ18 : KX t l (mu (mu (mu (mu (mu (mu (mu (mu V 7 l 1 0) 7 l 2 0) 7 l 3 0) 7 l 4 0) 7 l 5 0) 7 l 6 0) 7 l 10 0) 7 l 12 0) ρ18 := (Xρ16).e (fun m a b c => by rw [e_ρ18]; exact ⟨mu_ne (by first | assumption | decide | exact xs_ (by decide) | exact xc_ (by decide) | exact x31_ (by decide) | omega), mu_ne (by first | assumption | decide | exact xs_ (by decide) | exact xc_ (by decide) | exact x31_ (by decide) | omega)⟩) (fun m c => mu_ne (by first | assumption | decide | exact xs_ (by decide) | exact xc_ (by decide) | exact x31_ (by decide) | omega))
    clear Xρ16
    have Fρ18 : FB (mu (mu (mu (mu (mu (mu (mu (mu V 7 l 1 0) 7 l 2 0) 7 l 3 0) 7 l 4 0) 7 l 5 0) 7 l 6 0) 7 l 10 0) 7 l 12 0) ρ18 := by rw [e_ρ18]; exact (Fρ16).e (fun l a b => mu_ne (by first | assumption | decide | exact xs_ (by decide) | exact xc_ (by decide) | exact x31_ (by decide) | omega)) |>.v (fun l y a b c => mu_ne (by first | assumption | decide | exact xs_ (by decide) | exact xc_ (by decide) | exact x31_ (by decide) | omega))
    clear Fρ16 e_ρ18
    refine r_iincE hC (9) dX6_open_110 rfl rfl (by first | assumption | decide | exact xs_ (by decide) | exact xc_ (by decide) | exact x31_ (by decide) | omega) (by unfold inR; omega) ?_
    refine r_goto (tgt := 95) hC dX6_open_113 rfl ?_
    refine r_iload hC dX6_open_95 rfl ?_
    refine r_bipush hC dX6_open_97 rfl ?_
    refine r_icmp_ge (tgt := 116) hC dX6_open_99 rfl (fun h19 => by omega) (fun h19 => ?_)
    refine r_aload_n hC dX6_open_102 rfl ?_
    refine r_iload_n hC dX6_open_103 rfl ?_
    refine r_iload hC dX6_open_104 rfl ?_
    refine r_iconst hC dX6_open_106 rfl ?_
    refine z_inv3 hM dX6_open_107 vl_RX6_173 rfl rfl rfl (Nat.le_of_ble_eq_true rfl) (Nat.le_of_ble_eq_true rfl) ?_
    refine y_set (by first | assumption | decide | exact xs_ (by decide) | exact xc_ (by decide) | exact x31_ (by decide) | omega) (by first | assumption | decide | exact xs_ (by decide) | exact xc_ (by decide) | exact x31_ (by decide) | omega) ⟨fun h => by omega, fun h => by omega⟩ ?_
    obtain ⟨ρ20, e_ρ20⟩ : ∃ zz_, zz_ = mu ρ18 31 0 ((22 * l) + 9) 0 := ⟨_, rfl⟩
    rw [← e_ρ20]
    have Sρ20 : SB t σ0 (mu (mu (mu (mu (mu (mu (mu (mu (mu V 7 l 1 0) 7 l 2 0) 7 l 3 0) 7 l 4 0) 7 l 5 0) 7 l 6 0) 7 l 10 0) 7 l 12 0) 7 l 13 0) ρ20 := by rw [e_ρ20, show ((22 * l) + 9) = 22 * l + 9 from by omega]; exact Sρ18.p7 (by first | assumption | decide | exact xs_ (by decide) | exact xc_ (by decide) | exact x31_ (by decide) | omega) (by first | assumption | decide | exact xs_ (by decide) | exact xc_ (by decide) | exact x31_ (by decide) | omega) (by first | assumption | decide | exact xs_ (by decide) | exact xc_ (by decide) | exact x31_ (by decide) | omega)
    clear Sρ18
    have Xρ20 : KX t l (mu (mu (mu (mu (mu (mu (mu (mu (mu V 7 l 1 0) 7 l 2 0) 7 l 3 0) 7 l 4 0) 7 l 5 0) 7 l 6 0) 7 l 10 0) 7 l 12 0) 7 l 13 0) ρ20 := (Xρ18).e (fun m a b c => by rw [e_ρ20]; exact ⟨mu_ne (by first | assumption | decide | exact xs_ (by decide) | exact xc_ (by decide) | exact x31_ (by decide) | omega), mu_ne (by first | assumption | decide | exact xs_ (by decide) | exact xc_ (by decide) | exact x31_ (by decide) | omega)⟩) (fun m c => mu_ne (by first | assumption | decide | exact xs_ (by decide) | exact xc_ (by decide) | exact x31_ (by decide) | omega))
    clear Xρ18
    have Fρ20 : FB (mu (mu (mu (mu (mu (mu (mu (mu (mu V 7 l 1 0) 7 l 2 0) 7 l 3 0) 7 l 4 0) 7 l 5 0) 7 l 6 0) 7 l 10 0) 7 l 12 0) 7 l 13 0) ρ20 := by rw [e_ρ20]; exact (Fρ18).e (fun l a b => mu_ne (by first | assumption | decide | exact xs_ (by decide) | exact xc_ (by decide) | exact x31_ (by decide) | omega)) |>.v (fun l y a b c => mu_ne (by first | assumption | decide | exact xs_ (by decide) | exact xc_ (by decide) | exact x31_ (by decide) | omega))
    clear Fρ18 e_ρ20
    refine r_iincE hC (10) dX6_open_110 rfl rfl (by first | assumption | decide | exact xs_ (by decide) | exact xc_ (by decide) | exact x31_ (by decide) | omega) (by unfold inR; omega) ?_
    refine r_goto (tgt := 95) hC dX6_open_113 rfl ?_
    refine r_iload hC dX6_open_95 rfl ?_
    refine r_bipush hC dX6_open_97 rfl ?_
    refine r_icmp_ge (tgt := 116) hC dX6_open_99 rfl (fun h21 => by omega) (fun h21 => ?_)
    refine r_aload_n hC dX6_open_102 rfl ?_
    refine r_iload_n hC dX6_open_103 rfl ?_
    refine r_iload hC dX6_open_104 rfl ?_
    refine r_iconst hC dX6_open_106 rfl ?_
    refine z_inv3 hM dX6_open_107 vl_RX6_173 rfl rfl rfl (Nat.le_of_ble_eq_true rfl) (Nat.le_of_ble_eq_true rfl) ?_
    refine y_set (by first | assumption | decide | exact xs_ (by decide) | exact xc_ (by decide) | exact x31_ (by decide) | omega) (by first | assumption | decide | exact xs_ (by decide) | exact xc_ (by decide) | exact x31_ (by decide) | omega) ⟨fun h => by omega, fun h => by omega⟩ ?_
    obtain ⟨ρ22, e_ρ22⟩ : ∃ zz_, zz_ = mu ρ20 31 0 ((22 * l) + 10) 0 := ⟨_, rfl⟩
    rw [← e_ρ22]
    have Sρ22 : SB t σ0 (mu (mu (mu (mu (mu (mu (mu (mu (mu (mu V 7 l 1 0) 7 l 2 0) 7 l 3 0) 7 l 4 0) 7 l 5 0) 7 l 6 0) 7 l 10 0) 7 l 12 0) 7 l 13 0) 7 l 14 0) ρ22 := by rw [e_ρ22, show ((22 * l) + 10) = 22 * l + 10 from by omega]; exact Sρ20.p7 (by first | assumption | decide | exact xs_ (by decide) | exact xc_ (by decide) | exact x31_ (by decide) | omega) (by first | assumption | decide | exact xs_ (by decide) | exact xc_ (by decide) | exact x31_ (by decide) | omega) (by first | assumption | decide | exact xs_ (by decide) | exact xc_ (by decide) | exact x31_ (by decide) | omega)
    clear Sρ20
    have Xρ22 : KX t l (mu (mu (mu (mu (mu (mu (mu (mu (mu (mu V 7 l 1 0) 7 l 2 0) 7 l 3 0) 7 l 4 0) 7 l 5 0) 7 l 6 0) 7 l 10 0) 7 l 12 0) 7 l 13 0) 7 l 14 0) ρ22 := (Xρ20).e (fun m a b c => by rw [e_ρ22]; exact ⟨mu_ne (by first | assumption | decide | exact xs_ (by decide) | exact xc_ (by decide) | exact x31_ (by decide) | omega), mu_ne (by first | assumption | decide | exact xs_ (by decide) | exact xc_ (by decide) | exact x31_ (by decide) | omega)⟩) (fun m c => mu_ne (by first | assumption | decide | exact xs_ (by decide) | exact xc_ (by decide) | exact x31_ (by decide) | omega))
    clear Xρ20
    have Fρ22 : FB (mu (mu (mu (mu (mu (mu (mu (mu (mu (mu V 7 l 1 0) 7 l 2 0) 7 l 3 0) 7 l 4 0) 7 l 5 0) 7 l 6 0) 7 l 10 0) 7 l 12 0) 7 l 13 0) 7 l 14 0) ρ22 := by rw [e_ρ22]; exact (Fρ20).e (fun l a b => mu_ne (by first | assumption | decide | exact xs_ (by decide) | exact xc_ (by decide) | exact x31_ (by decide) | omega)) |>.v (fun l y a b c => mu_ne (by first | assumption | decide | exact xs_ (by decide) | exact xc_ (by decide) | exact x31_ (by decide) | omega))
    clear Fρ20 e_ρ22
    refine r_iincE hC (11) dX6_open_110 rfl rfl (by first | assumption | decide | exact xs_ (by decide) | exact xc_ (by decide) | exact x31_ (by decide) | omega) (by unfold inR; omega) ?_
    show K _ [_, _, _, _, _, _, _] _ _
    refine r_goto (tgt := 95) hC dX6_open_113 rfl ?_
    refine r_iload hC dX6_open_95 rfl ?_
    refine r_bipush hC dX6_open_97 rfl ?_
    refine r_icmp_ge (tgt := 116) hC dX6_open_99 rfl (fun h23 => by omega) (fun h23 => ?_)
    refine r_aload_n hC dX6_open_102 rfl ?_
    refine r_iload_n hC dX6_open_103 rfl ?_
    refine r_iload hC dX6_open_104 rfl ?_
    refine r_iconst hC dX6_open_106 rfl ?_
    refine z_inv3 hM dX6_open_107 vl_RX6_173 rfl rfl rfl (Nat.le_of_ble_eq_true rfl) (Nat.le_of_ble_eq_true rfl) ?_
    refine y_set (by first | assumption | decide | exact xs_ (by decide) | exact xc_ (by decide) | exact x31_ (by decide) | omega) (by first | assumption | decide | exact xs_ (by decide) | exact xc_ (by decide) | exact x31_ (by decide) | omega) ⟨fun h => by omega, fun h => by omega⟩ ?_
    obtain ⟨ρ24, e_ρ24⟩ : ∃ zz_, zz_ = mu ρ22 31 0 ((22 * l) + 11) 0 := ⟨_, rfl⟩
    rw [← e_ρ24]
    have Sρ24 : SB t σ0 (mu (mu (mu (mu (mu (mu (mu (mu (mu (mu (mu V 7 l 1 0) 7 l 2 0) 7 l 3 0) 7 l 4 0) 7 l 5 0) 7 l 6 0) 7 l 10 0) 7 l 12 0) 7 l 13 0) 7 l 14 0) 7 l 15 0) ρ24 := by rw [e_ρ24, show ((22 * l) + 11) = 22 * l + 11 from by omega]; exact Sρ22.p7 (by first | assumption | decide | exact xs_ (by decide) | exact xc_ (by decide) | exact x31_ (by decide) | omega) (by first | assumption | decide | exact xs_ (by decide) | exact xc_ (by decide) | exact x31_ (by decide) | omega) (by first | assumption | decide | exact xs_ (by decide) | exact xc_ (by decide) | exact x31_ (by decide) | omega)
    clear Sρ22
    have Xρ24 : KX t l (mu (mu (mu (mu (mu (mu (mu (mu (mu (mu (mu V 7 l 1 0) 7 l 2 0) 7 l 3 0) 7 l 4 0) 7 l 5 0) 7 l 6 0) 7 l 10 0) 7 l 12 0) 7 l 13 0) 7 l 14 0) 7 l 15 0) ρ24 := (Xρ22).e (fun m a b c => by rw [e_ρ24]; exact ⟨mu_ne (by first | assumption | decide | exact xs_ (by decide) | exact xc_ (by decide) | exact x31_ (by decide) | omega), mu_ne (by first | assumption | decide | exact xs_ (by decide) | exact xc_ (by decide) | exact x31_ (by decide) | omega)⟩) (fun m c => mu_ne (by first | assumption | decide | exact xs_ (by decide) | exact xc_ (by decide) | exact x31_ (by decide) | omega))
    clear Xρ22
    have Fρ24 : FB (mu (mu (mu (mu (mu (mu (mu (mu (mu (mu (mu V 7 l 1 0) 7 l 2 0) 7 l 3 0) 7 l 4 0) 7 l 5 0) 7 l 6 0) 7 l 10 0) 7 l 12 0) 7 l 13 0) 7 l 14 0) 7 l 15 0) ρ24 := by rw [e_ρ24]; exact (Fρ22).e (fun l a b => mu_ne (by first | assumption | decide | exact xs_ (by decide) | exact xc_ (by decide) | exact x31_ (by decide) | omega)) |>.v (fun l y a b c => mu_ne (by first | assumption | decide | exact xs_ (by decide) | exact xc_ (by decide) | exact x31_ (by decide) | omega))
    clear Fρ22 e_ρ24
    refine r_iincE hC (12) dX6_open_110 rfl rfl (by first | assumption | decide | exact xs_ (by decide) | exact xc_ (by decide) | exact x31_ (by decide) | omega) (by unfold inR; omega) ?_
    refine r_goto (tgt := 95) hC dX6_open_113 rfl ?_
    refine r_iload hC dX6_open_95 rfl ?_
    refine r_bipush hC dX6_open_97 rfl ?_
    refine r_icmp_ge (tgt := 116) hC dX6_open_99 rfl (fun h25 => by omega) (fun h25 => ?_)
    refine r_aload_n hC dX6_open_102 rfl ?_
    refine r_iload_n hC dX6_open_103 rfl ?_
    refine r_iload hC dX6_open_104 rfl ?_
    refine r_iconst hC dX6_open_106 rfl ?_
    refine z_inv3 hM dX6_open_107 vl_RX6_173 rfl rfl rfl (Nat.le_of_ble_eq_true rfl) (Nat.le_of_ble_eq_true rfl) ?_
    refine y_set (by first | assumption | decide | exact xs_ (by decide) | exact xc_ (by decide) | exact x31_ (by decide) | omega) (by first | assumption | decide | exact xs_ (by decide) | exact xc_ (by decide) | exact x31_ (by decide) | omega) ⟨fun h => by omega, fun h => by omega⟩ ?_
    obtain ⟨ρ26, e_ρ26⟩ : ∃ zz_, zz_ = mu ρ24 31 0 ((22 * l) + 12) 0 := ⟨_, rfl⟩
    rw [← e_ρ26]
    have Sρ26 : SB t σ0 (mu (mu (mu (mu (mu (mu (mu (mu (mu (mu (mu (mu V 7 l 1 0) 7 l 2 0) 7 l 3 0) 7 l 4 0) 7 l 5 0) 7 l 6 0) 7 l 10 0) 7 l 12 0) 7 l 13 0) 7 l 14 0) 7 l 15 0) 11 l 0 0) ρ26 := by rw [e_ρ26, show ((22 * l) + 12) = 22 * l + 12 from by omega]; exact Sρ24.p11 (by first | assumption | decide | exact xs_ (by decide) | exact xc_ (by decide) | exact x31_ (by decide) | omega) (by first | assumption | decide | exact xs_ (by decide) | exact xc_ (by decide) | exact x31_ (by decide) | omega) (by first | assumption | decide | exact xs_ (by decide) | exact xc_ (by decide) | exact x31_ (by decide) | omega)
    clear Sρ24
    have Xρ26 : KX t l (mu (mu (mu (mu (mu (mu (mu (mu (mu (mu (mu (mu V 7 l 1 0) 7 l 2 0) 7 l 3 0) 7 l 4 0) 7 l 5 0) 7 l 6 0) 7 l 10 0) 7 l 12 0) 7 l 13 0) 7 l 14 0) 7 l 15 0) 11 l 0 0) ρ26 := (Xρ24).e (fun m a b c => by rw [e_ρ26]; exact ⟨mu_ne (by first | assumption | decide | exact xs_ (by decide) | exact xc_ (by decide) | exact x31_ (by decide) | omega), mu_ne (by first | assumption | decide | exact xs_ (by decide) | exact xc_ (by decide) | exact x31_ (by decide) | omega)⟩) (fun m c => mu_ne (by first | assumption | decide | exact xs_ (by decide) | exact xc_ (by decide) | exact x31_ (by decide) | omega))
    clear Xρ24
    have Fρ26 : FB (mu (mu (mu (mu (mu (mu (mu (mu (mu (mu (mu (mu V 7 l 1 0) 7 l 2 0) 7 l 3 0) 7 l 4 0) 7 l 5 0) 7 l 6 0) 7 l 10 0) 7 l 12 0) 7 l 13 0) 7 l 14 0) 7 l 15 0) 11 l 0 0) ρ26 := by rw [e_ρ26]; exact (Fρ24).e (fun l a b => mu_ne (by first | assumption | decide | exact xs_ (by decide) | exact xc_ (by decide) | exact x31_ (by decide) | omega)) |>.v (fun l y a b c => mu_ne (by first | assumption | decide | exact xs_ (by decide) | exact xc_ (by decide) | exact x31_ (by decide) | omega))
    clear Fρ24 e_ρ26
    refine r_iincE hC (13) dX6_open_110 rfl rfl (by first | assumption | decide | exact xs_ (by decide) | exact xc_ (by decide) | exact x31_ (by decide) | omega) (by unfold inR; omega) ?_
    refine r_goto (tgt := 95) hC dX6_open_113 rfl ?_
    refine r_iload hC dX6_open_95 rfl ?_
    refine r_bipush hC dX6_open_97 rfl ?_
    refine r_icmp_ge (tgt := 116) hC dX6_open_99 rfl (fun h27 => by omega) (fun h27 => ?_)
    refine r_aload_n hC dX6_open_102 rfl ?_
    refine r_iload_n hC dX6_open_103 rfl ?_
    refine r_iload hC dX6_open_104 rfl ?_
    refine r_iconst hC dX6_open_106 rfl ?_
    refine z_inv3 hM dX6_open_107 vl_RX6_173 rfl rfl rfl (Nat.le_of_ble_eq_true rfl) (Nat.le_of_ble_eq_true rfl) ?_
    refine y_set (by first | assumption | decide | exact xs_ (by decide) | exact xc_ (by decide) | exact x31_ (by decide) | omega) (by first | assumption | decide | exact xs_ (by decide) | exact xc_ (by decide) | exact x31_ (by decide) | omega) ⟨fun h => by omega, fun h => by omega⟩ ?_
    obtain ⟨ρ28, e_ρ28⟩ : ∃ zz_, zz_ = mu ρ26 31 0 ((22 * l) + 13) 0 := ⟨_, rfl⟩
    rw [← e_ρ28]
    have Sρ28 : SB t σ0 (mu (mu (mu (mu (mu (mu (mu (mu (mu (mu (mu (mu (mu V 7 l 1 0) 7 l 2 0) 7 l 3 0) 7 l 4 0) 7 l 5 0) 7 l 6 0) 7 l 10 0) 7 l 12 0) 7 l 13 0) 7 l 14 0) 7 l 15 0) 11 l 0 0) 11 l 1 0) ρ28 := by rw [e_ρ28, show ((22 * l) + 13) = 22 * l + 13 from by omega]; exact Sρ26.p11 (by first | assumption | decide | exact xs_ (by decide) | exact xc_ (by decide) | exact x31_ (by decide) | omega) (by first | assumption | decide | exact xs_ (by decide) | exact xc_ (by decide) | exact x31_ (by decide) | omega) (by first | assumption | decide | exact xs_ (by decide) | exact xc_ (by decide) | exact x31_ (by decide) | omega)
    clear Sρ26
    have Xρ28 : KX t l (mu (mu (mu (mu (mu (mu (mu (mu (mu (mu (mu (mu (mu V 7 l 1 0) 7 l 2 0) 7 l 3 0) 7 l 4 0) 7 l 5 0) 7 l 6 0) 7 l 10 0) 7 l 12 0) 7 l 13 0) 7 l 14 0) 7 l 15 0) 11 l 0 0) 11 l 1 0) ρ28 := (Xρ26).e (fun m a b c => by rw [e_ρ28]; exact ⟨mu_ne (by first | assumption | decide | exact xs_ (by decide) | exact xc_ (by decide) | exact x31_ (by decide) | omega), mu_ne (by first | assumption | decide | exact xs_ (by decide) | exact xc_ (by decide) | exact x31_ (by decide) | omega)⟩) (fun m c => mu_ne (by first | assumption | decide | exact xs_ (by decide) | exact xc_ (by decide) | exact x31_ (by decide) | omega))
    clear Xρ26
    have Fρ28 : FB (mu (mu (mu (mu (mu (mu (mu (mu (mu (mu (mu (mu (mu V 7 l 1 0) 7 l 2 0) 7 l 3 0) 7 l 4 0) 7 l 5 0) 7 l 6 0) 7 l 10 0) 7 l 12 0) 7 l 13 0) 7 l 14 0) 7 l 15 0) 11 l 0 0) 11 l 1 0) ρ28 := by rw [e_ρ28]; exact (Fρ26).e (fun l a b => mu_ne (by first | assumption | decide | exact xs_ (by decide) | exact xc_ (by decide) | exact x31_ (by decide) | omega)) |>.v (fun l y a b c => mu_ne (by first | assumption | decide | exact xs_ (by decide) | exact xc_ (by decide) | exact x31_ (by decide) | omega))
    clear Fρ26 e_ρ28
    refine r_iincE hC (14) dX6_open_110 rfl rfl (by first | assumption | decide | exact xs_ (by decide) | exact xc_ (by decide) | exact x31_ (by decide) | omega) (by unfold inR; omega) ?_
    show K _ [_, _, _, _, _, _, _] _ _
    refine r_goto (tgt := 95) hC dX6_open_113 rfl ?_
    refine r_iload hC dX6_open_95 rfl ?_
    refine r_bipush hC dX6_open_97 rfl ?_
    refine r_icmp_ge (tgt := 116) hC dX6_open_99 rfl (fun h29 => by omega) (fun h29 => ?_)
    refine r_aload_n hC dX6_open_102 rfl ?_
    refine r_iload_n hC dX6_open_103 rfl ?_
    refine r_iload hC dX6_open_104 rfl ?_
    refine r_iconst hC dX6_open_106 rfl ?_
    refine z_inv3 hM dX6_open_107 vl_RX6_173 rfl rfl rfl (Nat.le_of_ble_eq_true rfl) (Nat.le_of_ble_eq_true rfl) ?_
    refine y_set (by first | assumption | decide | exact xs_ (by decide) | exact xc_ (by decide) | exact x31_ (by decide) | omega) (by first | assumption | decide | exact xs_ (by decide) | exact xc_ (by decide) | exact x31_ (by decide) | omega) ⟨fun h => by omega, fun h => by omega⟩ ?_
    obtain ⟨ρ30, e_ρ30⟩ : ∃ zz_, zz_ = mu ρ28 31 0 ((22 * l) + 14) 0 := ⟨_, rfl⟩
    rw [← e_ρ30]
    have Sρ30 : SB t σ0 (mu (mu (mu (mu (mu (mu (mu (mu (mu (mu (mu (mu (mu (mu V 7 l 1 0) 7 l 2 0) 7 l 3 0) 7 l 4 0) 7 l 5 0) 7 l 6 0) 7 l 10 0) 7 l 12 0) 7 l 13 0) 7 l 14 0) 7 l 15 0) 11 l 0 0) 11 l 1 0) 11 l 2 0) ρ30 := by rw [e_ρ30, show ((22 * l) + 14) = 22 * l + 14 from by omega]; exact Sρ28.p11 (by first | assumption | decide | exact xs_ (by decide) | exact xc_ (by decide) | exact x31_ (by decide) | omega) (by first | assumption | decide | exact xs_ (by decide) | exact xc_ (by decide) | exact x31_ (by decide) | omega) (by first | assumption | decide | exact xs_ (by decide) | exact xc_ (by decide) | exact x31_ (by decide) | omega)
    clear Sρ28
    have Xρ30 : KX t l (mu (mu (mu (mu (mu (mu (mu (mu (mu (mu (mu (mu (mu (mu V 7 l 1 0) 7 l 2 0) 7 l 3 0) 7 l 4 0) 7 l 5 0) 7 l 6 0) 7 l 10 0) 7 l 12 0) 7 l 13 0) 7 l 14 0) 7 l 15 0) 11 l 0 0) 11 l 1 0) 11 l 2 0) ρ30 := (Xρ28).e (fun m a b c => by rw [e_ρ30]; exact ⟨mu_ne (by first | assumption | decide | exact xs_ (by decide) | exact xc_ (by decide) | exact x31_ (by decide) | omega), mu_ne (by first | assumption | decide | exact xs_ (by decide) | exact xc_ (by decide) | exact x31_ (by decide) | omega)⟩) (fun m c => mu_ne (by first | assumption | decide | exact xs_ (by decide) | exact xc_ (by decide) | exact x31_ (by decide) | omega))
    clear Xρ28
    have Fρ30 : FB (mu (mu (mu (mu (mu (mu (mu (mu (mu (mu (mu (mu (mu (mu V 7 l 1 0) 7 l 2 0) 7 l 3 0) 7 l 4 0) 7 l 5 0) 7 l 6 0) 7 l 10 0) 7 l 12 0) 7 l 13 0) 7 l 14 0) 7 l 15 0) 11 l 0 0) 11 l 1 0) 11 l 2 0) ρ30 := by rw [e_ρ30]; exact (Fρ28).e (fun l a b => mu_ne (by first | assumption | decide | exact xs_ (by decide) | exact xc_ (by decide) | exact x31_ (by decide) | omega)) |>.v (fun l y a b c => mu_ne (by first | assumption | decide | exact xs_ (by decide) | exact xc_ (by decide) | exact x31_ (by decide) | omega))
    clear Fρ28 e_ρ30
    refine r_iincE hC (15) dX6_open_110 rfl rfl (by first | assumption | decide | exact xs_ (by decide) | exact xc_ (by decide) | exact x31_ (by decide) | omega) (by unfold inR; omega) ?_
    refine r_goto (tgt := 95) hC dX6_open_113 rfl ?_
    refine r_iload hC dX6_open_95 rfl ?_
    refine r_bipush hC dX6_open_97 rfl ?_
    refine r_icmp_ge (tgt := 116) hC dX6_open_99 rfl (fun h31 => by omega) (fun h31 => ?_)
    refine r_aload_n hC dX6_open_102 rfl ?_
    refine r_iload_n hC dX6_open_103 rfl ?_
    refine r_iload hC dX6_open_104 rfl ?_
    refine r_iconst hC dX6_open_106 rfl ?_
    refine z_inv3 hM dX6_open_107 vl_RX6_173 rfl rfl rfl (Nat.le_of_ble_eq_true rfl) (Nat.le_of_ble_eq_true rfl) ?_
    refine y_set (by first | assumption | decide | exact xs_ (by decide) | exact xc_ (by decide) | exact x31_ (by decide) | omega) (by first | assumption | decide | exact xs_ (by decide) | exact xc_ (by decide) | exact x31_ (by decide) | omega) ⟨fun h => by omega, fun h => by omega⟩ ?_
    obtain ⟨ρ32, e_ρ32⟩ : ∃ zz_, zz_ = mu ρ30 31 0 ((22 * l) + 15) 0 := ⟨_, rfl⟩
    rw [← e_ρ32]
    have Sρ32 : SB t σ0 (mu (mu (mu (mu (mu (mu (mu (mu (mu (mu (mu (mu (mu (mu (mu V 7 l 1 0) 7 l 2 0) 7 l 3 0) 7 l 4 0) 7 l 5 0) 7 l 6 0) 7 l 10 0) 7 l 12 0) 7 l 13 0) 7 l 14 0) 7 l 15 0) 11 l 0 0) 11 l 1 0) 11 l 2 0) 11 l 3 0) ρ32 := by rw [e_ρ32, show ((22 * l) + 15) = 22 * l + 15 from by omega]; exact Sρ30.p11 (by first | assumption | decide | exact xs_ (by decide) | exact xc_ (by decide) | exact x31_ (by decide) | omega) (by first | assumption | decide | exact xs_ (by decide) | exact xc_ (by decide) | exact x31_ (by decide) | omega) (by first | assumption | decide | exact xs_ (by decide) | exact xc_ (by decide) | exact x31_ (by decide) | omega)
    clear Sρ30
    have Xρ32 : KX t l (mu (mu (mu (mu (mu (mu (mu (mu (mu (mu (mu (mu (mu (mu (mu V 7 l 1 0) 7 l 2 0) 7 l 3 0) 7 l 4 0) 7 l 5 0) 7 l 6 0) 7 l 10 0) 7 l 12 0) 7 l 13 0) 7 l 14 0) 7 l 15 0) 11 l 0 0) 11 l 1 0) 11 l 2 0) 11 l 3 0) ρ32 := (Xρ30).e (fun m a b c => by rw [e_ρ32]; exact ⟨mu_ne (by first | assumption | decide | exact xs_ (by decide) | exact xc_ (by decide) | exact x31_ (by decide) | omega), mu_ne (by first | assumption | decide | exact xs_ (by decide) | exact xc_ (by decide) | exact x31_ (by decide) | omega)⟩) (fun m c => mu_ne (by first | assumption | decide | exact xs_ (by decide) | exact xc_ (by decide) | exact x31_ (by decide) | omega))
    clear Xρ30
    have Fρ32 : FB (mu (mu (mu (mu (mu (mu (mu (mu (mu (mu (mu (mu (mu (mu (mu V 7 l 1 0) 7 l 2 0) 7 l 3 0) 7 l 4 0) 7 l 5 0) 7 l 6 0) 7 l 10 0) 7 l 12 0) 7 l 13 0) 7 l 14 0) 7 l 15 0) 11 l 0 0) 11 l 1 0) 11 l 2 0) 11 l 3 0) ρ32 := by rw [e_ρ32]; exact (Fρ30).e (fun l a b => mu_ne (by first | assumption | decide | exact xs_ (by decide) | exact xc_ (by decide) | exact x31_ (by decide) | omega)) |>.v (fun l y a b c => mu_ne (by first | assumption | decide | exact xs_ (by decide) | exact xc_ (by decide) | exact x31_ (by decide) | omega))
    clear Fρ30 e_ρ32
    refine r_iincE hC (16) dX6_open_110 rfl rfl (by first | assumption | decide | exact xs_ (by decide) | exact xc_ (by decide) | exact x31_ (by decide) | omega) (by unfold inR; omega) ?_
    refine r_goto (tgt := 95) hC dX6_open_113 rfl ?_
    refine r_iload hC dX6_open_95 rfl ?_
    refine r_bipush hC dX6_open_97 rfl ?_
    refine r_icmp_ge (tgt := 116) hC dX6_open_99 rfl (fun h33 => by omega) (fun h33 => ?_)
    refine r_aload_n hC dX6_open_102 rfl ?_
    refine r_iload_n hC dX6_open_103 rfl ?_
    refine r_iload hC dX6_open_104 rfl ?_
    refine r_iconst hC dX6_open_106 rfl ?_
    refine z_inv3 hM dX6_open_107 vl_RX6_173 rfl rfl rfl (Nat.le_of_ble_eq_true rfl) (Nat.le_of_ble_eq_true rfl) ?_
    refine y_set (by first | assumption | decide | exact xs_ (by decide) | exact xc_ (by decide) | exact x31_ (by decide) | omega) (by first | assumption | decide | exact xs_ (by decide) | exact xc_ (by decide) | exact x31_ (by decide) | omega) ⟨fun h => by omega, fun h => by omega⟩ ?_
    obtain ⟨ρ34, e_ρ34⟩ : ∃ zz_, zz_ = mu ρ32 31 0 ((22 * l) + 16) 0 := ⟨_, rfl⟩
    rw [← e_ρ34]
    have Sρ34 : SB t σ0 (mu (mu (mu (mu (mu (mu (mu (mu (mu (mu (mu (mu (mu (mu (mu V 7 l 1 0) 7 l 2 0) 7 l 3 0) 7 l 4 0) 7 l 5 0) 7 l 6 0) 7 l 10 0) 7 l 12 0) 7 l 13 0) 7 l 14 0) 7 l 15 0) 11 l 0 0) 11 l 1 0) 11 l 2 0) 11 l 3 0) ρ34 := by rw [e_ρ34, show ((22 * l) + 16) = 22 * l + 16 from by omega]; exact Sρ32.px (by first | assumption | decide | exact xs_ (by decide) | exact xc_ (by decide) | exact x31_ (by decide) | omega)
    clear Sρ32
    have r16_ρ34 : ρ34 31 0 (22 * l + 16) = 0 := by rw [e_ρ34, show ((22 * l) + 16) = 22 * l + 16 from by omega]; exact mu_self _ _ _ _ _
    have Xρ34 : KX t l (mu (mu (mu (mu (mu (mu (mu (mu (mu (mu (mu (mu (mu (mu (mu V 7 l 1 0) 7 l 2 0) 7 l 3 0) 7 l 4 0) 7 l 5 0) 7 l 6 0) 7 l 10 0) 7 l 12 0) 7 l 13 0) 7 l 14 0) 7 l 15 0) 11 l 0 0) 11 l 1 0) 11 l 2 0) 11 l 3 0) ρ34 := (Xρ32).e (fun m a b c => by rw [e_ρ34]; exact ⟨mu_ne (by first | assumption | decide | exact xs_ (by decide) | exact xc_ (by decide) | exact x31_ (by decide) | omega), mu_ne (by first | assumption | decide | exact xs_ (by decide) | exact xc_ (by decide) | exact x31_ (by decide) | omega)⟩) (fun m c => rfl)
    clear Xρ32
    have Fρ34 : FB (mu (mu (mu (mu (mu (mu (mu (mu (mu (mu (mu (mu (mu (mu (mu V 7 l 1 0) 7 l 2 0) 7 l 3 0) 7 l 4 0) 7 l 5 0) 7 l 6 0) 7 l 10 0) 7 l 12 0) 7 l 13 0) 7 l 14 0) 7 l 15 0) 11 l 0 0) 11 l 1 0) 11 l 2 0) 11 l 3 0) ρ34 := by rw [e_ρ34]; exact (Fρ32).e (fun l a b => mu_ne (by first | assumption | decide | exact xs_ (by decide) | exact xc_ (by decide) | exact x31_ (by decide) | omega))
    clear Fρ32 e_ρ34
    refine r_iincE hC (17) dX6_open_110 rfl rfl (by first | assumption | decide | exact xs_ (by decide) | exact xc_ (by decide) | exact x31_ (by decide) | omega) (by unfold inR; omega) ?_
    show K _ [_, _, _, _, _, _, _] _ _
    refine r_goto (tgt := 95) hC dX6_open_113 rfl ?_
    refine r_iload hC dX6_open_95 rfl ?_
    refine r_bipush hC dX6_open_97 rfl ?_
    refine r_icmp_ge (tgt := 116) hC dX6_open_99 rfl (fun h35 => by omega) (fun h35 => ?_)
    refine r_aload_n hC dX6_open_102 rfl ?_
    refine r_iload_n hC dX6_open_103 rfl ?_
    refine r_iload hC dX6_open_104 rfl ?_
    refine r_iconst hC dX6_open_106 rfl ?_
    refine z_inv3 hM dX6_open_107 vl_RX6_173 rfl rfl rfl (Nat.le_of_ble_eq_true rfl) (Nat.le_of_ble_eq_true rfl) ?_
    refine y_set (by first | assumption | decide | exact xs_ (by decide) | exact xc_ (by decide) | exact x31_ (by decide) | omega) (by first | assumption | decide | exact xs_ (by decide) | exact xc_ (by decide) | exact x31_ (by decide) | omega) ⟨fun h => by omega, fun h => by omega⟩ ?_
    obtain ⟨ρ36, e_ρ36⟩ : ∃ zz_, zz_ = mu ρ34 31 0 ((22 * l) + 17) 0 := ⟨_, rfl⟩
    rw [← e_ρ36]
    have Sρ36 : SB t σ0 (mu (mu (mu (mu (mu (mu (mu (mu (mu (mu (mu (mu (mu (mu (mu V 7 l 1 0) 7 l 2 0) 7 l 3 0) 7 l 4 0) 7 l 5 0) 7 l 6 0) 7 l 10 0) 7 l 12 0) 7 l 13 0) 7 l 14 0) 7 l 15 0) 11 l 0 0) 11 l 1 0) 11 l 2 0) 11 l 3 0) ρ36 := by rw [e_ρ36, show ((22 * l) + 17) = 22 * l + 17 from by omega]; exact Sρ34.px (by first | assumption | decide | exact xs_ (by decide) | exact xc_ (by decide) | exact x31_ (by decide) | omega)
    clear Sρ34
    have r16a_ρ36 : ρ36 31 0 (22 * l + 16) = 0 := by rw [e_ρ36]; exact (mu_ne (by first | assumption | decide | exact xs_ (by decide) | exact xc_ (by decide) | exact x31_ (by decide) | omega)).trans r16_ρ34
    have r17_ρ36 : ρ36 31 0 (22 * l + 17) = 0 := by rw [e_ρ36, show ((22 * l) + 17) = 22 * l + 17 from by omega]; exact mu_self _ _ _ _ _
    have Xρ36 : KX t l (mu (mu (mu (mu (mu (mu (mu (mu (mu (mu (mu (mu (mu (mu (mu V 7 l 1 0) 7 l 2 0) 7 l 3 0) 7 l 4 0) 7 l 5 0) 7 l 6 0) 7 l 10 0) 7 l 12 0) 7 l 13 0) 7 l 14 0) 7 l 15 0) 11 l 0 0) 11 l 1 0) 11 l 2 0) 11 l 3 0) ρ36 := (Xρ34).e (fun m a b c => by rw [e_ρ36]; exact ⟨mu_ne (by first | assumption | decide | exact xs_ (by decide) | exact xc_ (by decide) | exact x31_ (by decide) | omega), mu_ne (by first | assumption | decide | exact xs_ (by decide) | exact xc_ (by decide) | exact x31_ (by decide) | omega)⟩) (fun m c => rfl)
    clear Xρ34
    have Fρ36 : FB (mu (mu (mu (mu (mu (mu (mu (mu (mu (mu (mu (mu (mu (mu (mu V 7 l 1 0) 7 l 2 0) 7 l 3 0) 7 l 4 0) 7 l 5 0) 7 l 6 0) 7 l 10 0) 7 l 12 0) 7 l 13 0) 7 l 14 0) 7 l 15 0) 11 l 0 0) 11 l 1 0) 11 l 2 0) 11 l 3 0) ρ36 := by rw [e_ρ36]; exact (Fρ34).e (fun l a b => mu_ne (by first | assumption | decide | exact xs_ (by decide) | exact xc_ (by decide) | exact x31_ (by decide) | omega))
    clear Fρ34 e_ρ36
    refine r_iincE hC (18) dX6_open_110 rfl rfl (by first | assumption | decide | exact xs_ (by decide) | exact xc_ (by decide) | exact x31_ (by decide) | omega) (by unfold inR; omega) ?_
    refine r_goto (tgt := 95) hC dX6_open_113 rfl ?_
    refine r_iload hC dX6_open_95 rfl ?_
    refine r_bipush hC dX6_open_97 rfl ?_
    refine r_icmp_ge (tgt := 116) hC dX6_open_99 rfl (fun h37 => by omega) (fun h37 => ?_)
    refine r_aload_n hC dX6_open_102 rfl ?_
    refine r_iload_n hC dX6_open_103 rfl ?_
    refine r_iload hC dX6_open_104 rfl ?_
    refine r_iconst hC dX6_open_106 rfl ?_
    refine z_inv3 hM dX6_open_107 vl_RX6_173 rfl rfl rfl (Nat.le_of_ble_eq_true rfl) (Nat.le_of_ble_eq_true rfl) ?_
    refine y_set (by first | assumption | decide | exact xs_ (by decide) | exact xc_ (by decide) | exact x31_ (by decide) | omega) (by first | assumption | decide | exact xs_ (by decide) | exact xc_ (by decide) | exact x31_ (by decide) | omega) ⟨fun h => by omega, fun h => by omega⟩ ?_
    obtain ⟨ρ38, e_ρ38⟩ : ∃ zz_, zz_ = mu ρ36 31 0 ((22 * l) + 18) 0 := ⟨_, rfl⟩
    rw [← e_ρ38]
    have Sρ38 : SB t σ0 (mu (mu (mu (mu (mu (mu (mu (mu (mu (mu (mu (mu (mu (mu (mu (mu V 7 l 1 0) 7 l 2 0) 7 l 3 0) 7 l 4 0) 7 l 5 0) 7 l 6 0) 7 l 10 0) 7 l 12 0) 7 l 13 0) 7 l 14 0) 7 l 15 0) 11 l 0 0) 11 l 1 0) 11 l 2 0) 11 l 3 0) 11 l 4 0) ρ38 := by rw [e_ρ38, show ((22 * l) + 18) = 22 * l + 18 from by omega]; exact Sρ36.p11 (by first | assumption | decide | exact xs_ (by decide) | exact xc_ (by decide) | exact x31_ (by decide) | omega) (by first | assumption | decide | exact xs_ (by decide) | exact xc_ (by decide) | exact x31_ (by decide) | omega) (by first | assumption | decide | exact xs_ (by decide) | exact xc_ (by decide) | exact x31_ (by decide) | omega)
    clear Sρ36
    have r16a_ρ38 : ρ38 31 0 (22 * l + 16) = 0 := by rw [e_ρ38]; exact (mu_ne (by first | assumption | decide | exact xs_ (by decide) | exact xc_ (by decide) | exact x31_ (by decide) | omega)).trans r16a_ρ36
    clear r16a_ρ36
    have r17b_ρ38 : ρ38 31 0 (22 * l + 17) = 0 := by rw [e_ρ38]; exact (mu_ne (by first | assumption | decide | exact xs_ (by decide) | exact xc_ (by decide) | exact x31_ (by decide) | omega)).trans r17_ρ36
    have Xρ38 : KX t l (mu (mu (mu (mu (mu (mu (mu (mu (mu (mu (mu (mu (mu (mu (mu (mu V 7 l 1 0) 7 l 2 0) 7 l 3 0) 7 l 4 0) 7 l 5 0) 7 l 6 0) 7 l 10 0) 7 l 12 0) 7 l 13 0) 7 l 14 0) 7 l 15 0) 11 l 0 0) 11 l 1 0) 11 l 2 0) 11 l 3 0) 11 l 4 0) ρ38 := (Xρ36).e (fun m a b c => by rw [e_ρ38]; exact ⟨mu_ne (by first | assumption | decide | exact xs_ (by decide) | exact xc_ (by decide) | exact x31_ (by decide) | omega), mu_ne (by first | assumption | decide | exact xs_ (by decide) | exact xc_ (by decide) | exact x31_ (by decide) | omega)⟩) (fun m c => mu_ne (by first | assumption | decide | exact xs_ (by decide) | exact xc_ (by decide) | exact x31_ (by decide) | omega))
    clear Xρ36
    have Fρ38 : FB (mu (mu (mu (mu (mu (mu (mu (mu (mu (mu (mu (mu (mu (mu (mu (mu V 7 l 1 0) 7 l 2 0) 7 l 3 0) 7 l 4 0) 7 l 5 0) 7 l 6 0) 7 l 10 0) 7 l 12 0) 7 l 13 0) 7 l 14 0) 7 l 15 0) 11 l 0 0) 11 l 1 0) 11 l 2 0) 11 l 3 0) 11 l 4 0) ρ38 := by rw [e_ρ38]; exact (Fρ36).e (fun l a b => mu_ne (by first | assumption | decide | exact xs_ (by decide) | exact xc_ (by decide) | exact x31_ (by decide) | omega)) |>.v (fun l y a b c => mu_ne (by first | assumption | decide | exact xs_ (by decide) | exact xc_ (by decide) | exact x31_ (by decide) | omega))
    clear Fρ36 e_ρ38
    refine r_iincE hC (19) dX6_open_110 rfl rfl (by first | assumption | decide | exact xs_ (by decide) | exact xc_ (by decide) | exact x31_ (by decide) | omega) (by unfold inR; omega) ?_
    refine r_goto (tgt := 95) hC dX6_open_113 rfl ?_
    refine r_iload hC dX6_open_95 rfl ?_
    refine r_bipush hC dX6_open_97 rfl ?_
    refine r_icmp_ge (tgt := 116) hC dX6_open_99 rfl (fun h39 => by omega) (fun h39 => ?_)
    refine r_aload_n hC dX6_open_102 rfl ?_
    refine r_iload_n hC dX6_open_103 rfl ?_
    refine r_iload hC dX6_open_104 rfl ?_
    refine r_iconst hC dX6_open_106 rfl ?_
    refine z_inv3 hM dX6_open_107 vl_RX6_173 rfl rfl rfl (Nat.le_of_ble_eq_true rfl) (Nat.le_of_ble_eq_true rfl) ?_
    refine y_set (by first | assumption | decide | exact xs_ (by decide) | exact xc_ (by decide) | exact x31_ (by decide) | omega) (by first | assumption | decide | exact xs_ (by decide) | exact xc_ (by decide) | exact x31_ (by decide) | omega) ⟨fun h => by omega, fun h => by omega⟩ ?_
    obtain ⟨ρ40, e_ρ40⟩ : ∃ zz_, zz_ = mu ρ38 31 0 ((22 * l) + 19) 0 := ⟨_, rfl⟩
    rw [← e_ρ40]
    have Sρ40 : SB t σ0 (mu (mu (mu (mu (mu (mu (mu (mu (mu (mu (mu (mu (mu (mu (mu (mu (mu V 7 l 1 0) 7 l 2 0) 7 l 3 0) 7 l 4 0) 7 l 5 0) 7 l 6 0) 7 l 10 0) 7 l 12 0) 7 l 13 0) 7 l 14 0) 7 l 15 0) 11 l 0 0) 11 l 1 0) 11 l 2 0) 11 l 3 0) 11 l 4 0) 11 l 5 0) ρ40 := by rw [e_ρ40, show ((22 * l) + 19) = 22 * l + 19 from by omega]; exact Sρ38.p11 (by first | assumption | decide | exact xs_ (by decide) | exact xc_ (by decide) | exact x31_ (by decide) | omega) (by first | assumption | decide | exact xs_ (by decide) | exact xc_ (by decide) | exact x31_ (by decide) | omega) (by first | assumption | decide | exact xs_ (by decide) | exact xc_ (by decide) | exact x31_ (by decide) | omega)
    clear Sρ38
    have r16a_ρ40 : ρ40 31 0 (22 * l + 16) = 0 := by rw [e_ρ40]; exact (mu_ne (by first | assumption | decide | exact xs_ (by decide) | exact xc_ (by decide) | exact x31_ (by decide) | omega)).trans r16a_ρ38
    clear r16a_ρ38
    have r17b_ρ40 : ρ40 31 0 (22 * l + 17) = 0 := by rw [e_ρ40]; exact (mu_ne (by first | assumption | decide | exact xs_ (by decide) | exact xc_ (by decide) | exact x31_ (by decide) | omega)).trans r17b_ρ38
    clear r17b_ρ38
    have Xρ40 : KX t l (mu (mu (mu (mu (mu (mu (mu (mu (mu (mu (mu (mu (mu (mu (mu (mu (mu V 7 l 1 0) 7 l 2 0) 7 l 3 0) 7 l 4 0) 7 l 5 0) 7 l 6 0) 7 l 10 0) 7 l 12 0) 7 l 13 0) 7 l 14 0) 7 l 15 0) 11 l 0 0) 11 l 1 0) 11 l 2 0) 11 l 3 0) 11 l 4 0) 11 l 5 0) ρ40 := (Xρ38).e (fun m a b c => by rw [e_ρ40]; exact ⟨mu_ne (by first | assumption | decide | exact xs_ (by decide) | exact xc_ (by decide) | exact x31_ (by decide) | omega), mu_ne (by first | assumption | decide | exact xs_ (by decide) | exact xc_ (by decide) | exact x31_ (by decide) | omega)⟩) (fun m c => mu_ne (by first | assumption | decide | exact xs_ (by decide) | exact xc_ (by decide) | exact x31_ (by decide) | omega))
    clear Xρ38
    have Fρ40 : FB (mu (mu (mu (mu (mu (mu (mu (mu (mu (mu (mu (mu (mu (mu (mu (mu (mu V 7 l 1 0) 7 l 2 0) 7 l 3 0) 7 l 4 0) 7 l 5 0) 7 l 6 0) 7 l 10 0) 7 l 12 0) 7 l 13 0) 7 l 14 0) 7 l 15 0) 11 l 0 0) 11 l 1 0) 11 l 2 0) 11 l 3 0) 11 l 4 0) 11 l 5 0) ρ40 := by rw [e_ρ40]; exact (Fρ38).e (fun l a b => mu_ne (by first | assumption | decide | exact xs_ (by decide) | exact xc_ (by decide) | exact x31_ (by decide) | omega)) |>.v (fun l y a b c => mu_ne (by first | assumption | decide | exact xs_ (by decide) | exact xc_ (by decide) | exact x31_ (by decide) | omega))
    clear Fρ38 e_ρ40
    refine r_iincE hC (20) dX6_open_110 rfl rfl (by first | assumption | decide | exact xs_ (by decide) | exact xc_ (by decide) | exact x31_ (by decide) | omega) (by unfold inR; omega) ?_
    show K _ [_, _, _, _, _, _, _] _ _
    refine r_goto (tgt := 95) hC dX6_open_113 rfl ?_
    refine r_iload hC dX6_open_95 rfl ?_
    refine r_bipush hC dX6_open_97 rfl ?_
    refine r_icmp_ge (tgt := 116) hC dX6_open_99 rfl (fun h41 => by omega) (fun h41 => ?_)
    refine r_aload_n hC dX6_open_102 rfl ?_
    refine r_iload_n hC dX6_open_103 rfl ?_
    refine r_iload hC dX6_open_104 rfl ?_
    refine r_iconst hC dX6_open_106 rfl ?_
    refine z_inv3 hM dX6_open_107 vl_RX6_173 rfl rfl rfl (Nat.le_of_ble_eq_true rfl) (Nat.le_of_ble_eq_true rfl) ?_
    refine y_set (by first | assumption | decide | exact xs_ (by decide) | exact xc_ (by decide) | exact x31_ (by decide) | omega) (by first | assumption | decide | exact xs_ (by decide) | exact xc_ (by decide) | exact x31_ (by decide) | omega) ⟨fun h => by omega, fun h => by omega⟩ ?_
    obtain ⟨ρ42, e_ρ42⟩ : ∃ zz_, zz_ = mu ρ40 31 0 ((22 * l) + 20) 0 := ⟨_, rfl⟩
    rw [← e_ρ42]
    have Sρ42 : SB t σ0 (mu (mu (mu (mu (mu (mu (mu (mu (mu (mu (mu (mu (mu (mu (mu (mu (mu (mu V 7 l 1 0) 7 l 2 0) 7 l 3 0) 7 l 4 0) 7 l 5 0) 7 l 6 0) 7 l 10 0) 7 l 12 0) 7 l 13 0) 7 l 14 0) 7 l 15 0) 11 l 0 0) 11 l 1 0) 11 l 2 0) 11 l 3 0) 11 l 4 0) 11 l 5 0) 11 l 6 0) ρ42 := by rw [e_ρ42, show ((22 * l) + 20) = 22 * l + 20 from by omega]; exact Sρ40.p11 (by first | assumption | decide | exact xs_ (by decide) | exact xc_ (by decide) | exact x31_ (by decide) | omega) (by first | assumption | decide | exact xs_ (by decide) | exact xc_ (by decide) | exact x31_ (by decide) | omega) (by first | assumption | decide | exact xs_ (by decide) | exact xc_ (by decide) | exact x31_ (by decide) | omega)
    clear Sρ40
    have r16a_ρ42 : ρ42 31 0 (22 * l + 16) = 0 := by rw [e_ρ42]; exact (mu_ne (by first | assumption | decide | exact xs_ (by decide) | exact xc_ (by decide) | exact x31_ (by decide) | omega)).trans r16a_ρ40
    clear r16a_ρ40
    have r17b_ρ42 : ρ42 31 0 (22 * l + 17) = 0 := by rw [e_ρ42]; exact (mu_ne (by first | assumption | decide | exact xs_ (by decide) | exact xc_ (by decide) | exact x31_ (by decide) | omega)).trans r17b_ρ40
    clear r17b_ρ40
    have Xρ42 : KX t l (mu (mu (mu (mu (mu (mu (mu (mu (mu (mu (mu (mu (mu (mu (mu (mu (mu (mu V 7 l 1 0) 7 l 2 0) 7 l 3 0) 7 l 4 0) 7 l 5 0) 7 l 6 0) 7 l 10 0) 7 l 12 0) 7 l 13 0) 7 l 14 0) 7 l 15 0) 11 l 0 0) 11 l 1 0) 11 l 2 0) 11 l 3 0) 11 l 4 0) 11 l 5 0) 11 l 6 0) ρ42 := (Xρ40).e (fun m a b c => by rw [e_ρ42]; exact ⟨mu_ne (by first | assumption | decide | exact xs_ (by decide) | exact xc_ (by decide) | exact x31_ (by decide) | omega), mu_ne (by first | assumption | decide | exact xs_ (by decide) | exact xc_ (by decide) | exact x31_ (by decide) | omega)⟩) (fun m c => mu_ne (by first | assumption | decide | exact xs_ (by decide) | exact xc_ (by decide) | exact x31_ (by decide) | omega))
    clear Xρ40
    have Fρ42 : FB (mu (mu (mu (mu (mu (mu (mu (mu (mu (mu (mu (mu (mu (mu (mu (mu (mu (mu V 7 l 1 0) 7 l 2 0) 7 l 3 0) 7 l 4 0) 7 l 5 0) 7 l 6 0) 7 l 10 0) 7 l 12 0) 7 l 13 0) 7 l 14 0) 7 l 15 0) 11 l 0 0) 11 l 1 0) 11 l 2 0) 11 l 3 0) 11 l 4 0) 11 l 5 0) 11 l 6 0) ρ42 := by rw [e_ρ42]; exact (Fρ40).e (fun l a b => mu_ne (by first | assumption | decide | exact xs_ (by decide) | exact xc_ (by decide) | exact x31_ (by decide) | omega)) |>.v (fun l y a b c => mu_ne (by first | assumption | decide | exact xs_ (by decide) | exact xc_ (by decide) | exact x31_ (by decide) | omega))
    clear Fρ40 e_ρ42
    refine r_iincE hC (21) dX6_open_110 rfl rfl (by first | assumption | decide | exact xs_ (by decide) | exact xc_ (by decide) | exact x31_ (by decide) | omega) (by unfold inR; omega) ?_
    refine r_goto (tgt := 95) hC dX6_open_113 rfl ?_
    refine r_iload hC dX6_open_95 rfl ?_
    refine r_bipush hC dX6_open_97 rfl ?_
    refine r_icmp_ge (tgt := 116) hC dX6_open_99 rfl (fun h43 => by omega) (fun h43 => ?_)
    refine r_aload_n hC dX6_open_102 rfl ?_
    refine r_iload_n hC dX6_open_103 rfl ?_
    refine r_iload hC dX6_open_104 rfl ?_
    refine r_iconst hC dX6_open_106 rfl ?_
    refine z_inv3 hM dX6_open_107 vl_RX6_173 rfl rfl rfl (Nat.le_of_ble_eq_true rfl) (Nat.le_of_ble_eq_true rfl) ?_
    refine y_set (by first | assumption | decide | exact xs_ (by decide) | exact xc_ (by decide) | exact x31_ (by decide) | omega) (by first | assumption | decide | exact xs_ (by decide) | exact xc_ (by decide) | exact x31_ (by decide) | omega) ⟨fun h => by omega, fun h => by omega⟩ ?_
    obtain ⟨ρ44, e_ρ44⟩ : ∃ zz_, zz_ = mu ρ42 31 0 ((22 * l) + 21) 0 := ⟨_, rfl⟩
    rw [← e_ρ44]
    have Sρ44 : SB t σ0 (mu (mu (mu (mu (mu (mu (mu (mu (mu (mu (mu (mu (mu (mu (mu (mu (mu (mu V 7 l 1 0) 7 l 2 0) 7 l 3 0) 7 l 4 0) 7 l 5 0) 7 l 6 0) 7 l 10 0) 7 l 12 0) 7 l 13 0) 7 l 14 0) 7 l 15 0) 11 l 0 0) 11 l 1 0) 11 l 2 0) 11 l 3 0) 11 l 4 0) 11 l 5 0) 11 l 6 0) ρ44 := by rw [e_ρ44, show ((22 * l) + 21) = 22 * l + 21 from by omega]; exact Sρ42.px (by first | assumption | decide | exact xs_ (by decide) | exact xc_ (by decide) | exact x31_ (by decide) | omega)
    clear Sρ42
    have r16a_ρ44 : ρ44 31 0 (22 * l + 16) = 0 := by rw [e_ρ44]; exact (mu_ne (by first | assumption | decide | exact xs_ (by decide) | exact xc_ (by decide) | exact x31_ (by decide) | omega)).trans r16a_ρ42
    clear r16a_ρ42
    have r17b_ρ44 : ρ44 31 0 (22 * l + 17) = 0 := by rw [e_ρ44]; exact (mu_ne (by first | assumption | decide | exact xs_ (by decide) | exact xc_ (by decide) | exact x31_ (by decide) | omega)).trans r17b_ρ42
    clear r17b_ρ42
    have r21_ρ44 : ρ44 31 0 (22 * l + 21) = 0 := by rw [e_ρ44, show ((22 * l) + 21) = 22 * l + 21 from by omega]; exact mu_self _ _ _ _ _
    have Xρ44 : KX t l (mu (mu (mu (mu (mu (mu (mu (mu (mu (mu (mu (mu (mu (mu (mu (mu (mu (mu V 7 l 1 0) 7 l 2 0) 7 l 3 0) 7 l 4 0) 7 l 5 0) 7 l 6 0) 7 l 10 0) 7 l 12 0) 7 l 13 0) 7 l 14 0) 7 l 15 0) 11 l 0 0) 11 l 1 0) 11 l 2 0) 11 l 3 0) 11 l 4 0) 11 l 5 0) 11 l 6 0) ρ44 := (Xρ42).e (fun m a b c => by rw [e_ρ44]; exact ⟨mu_ne (by first | assumption | decide | exact xs_ (by decide) | exact xc_ (by decide) | exact x31_ (by decide) | omega), mu_ne (by first | assumption | decide | exact xs_ (by decide) | exact xc_ (by decide) | exact x31_ (by decide) | omega)⟩) (fun m c => rfl)
    clear Xρ42
    have Fρ44 : FB (mu (mu (mu (mu (mu (mu (mu (mu (mu (mu (mu (mu (mu (mu (mu (mu (mu (mu V 7 l 1 0) 7 l 2 0) 7 l 3 0) 7 l 4 0) 7 l 5 0) 7 l 6 0) 7 l 10 0) 7 l 12 0) 7 l 13 0) 7 l 14 0) 7 l 15 0) 11 l 0 0) 11 l 1 0) 11 l 2 0) 11 l 3 0) 11 l 4 0) 11 l 5 0) 11 l 6 0) ρ44 := by rw [e_ρ44]; exact (Fρ42).e (fun l a b => mu_ne (by first | assumption | decide | exact xs_ (by decide) | exact xc_ (by decide) | exact x31_ (by decide) | omega))
    clear Fρ42 e_ρ44
    refine r_iincE hC (22) dX6_open_110 rfl rfl (by first | assumption | decide | exact xs_ (by decide) | exact xc_ (by decide) | exact x31_ (by decide) | omega) (by unfold inR; omega) ?_
    refine r_goto (tgt := 95) hC dX6_open_113 rfl ?_
    refine r_iload hC dX6_open_95 rfl ?_
    refine r_bipush hC dX6_open_97 rfl ?_
    refine r_icmp_ge (tgt := 116) hC dX6_open_99 rfl (fun h45 => ?_) (fun h45 => by omega)
    refine r_aload_n hC dX6_open_116 rfl ?_
    refine r_iload_n hC dX6_open_117 rfl ?_
    refine r_iconst hC dX6_open_118 rfl ?_
    refine r_iconst hC dX6_open_119 rfl ?_
    refine z_inv3 hM dX6_open_120 vl_RX6_173 rfl rfl rfl (Nat.le_of_ble_eq_true rfl) (Nat.le_of_ble_eq_true rfl) ?_
    refine y_set (by first | assumption | decide | exact xs_ (by decide) | exact xc_ (by decide) | exact x31_ (by decide) | omega) (by first | assumption | decide | exact xs_ (by decide) | exact xc_ (by decide) | exact x31_ (by decide) | omega) ⟨fun h => by omega, fun h => by omega⟩ ?_
    obtain ⟨ρ46, e_ρ46⟩ : ∃ zz_, zz_ = mu ρ44 31 0 ((22 * l) + 0) 1 := ⟨_, rfl⟩
    rw [← e_ρ46]
    have Sρ46 : SB t σ0 (mu (mu (mu (mu (mu (mu (mu (mu (mu (mu (mu (mu (mu (mu (mu (mu (mu (mu (mu V 7 l 1 0) 7 l 2 0) 7 l 3 0) 7 l 4 0) 7 l 5 0) 7 l 6 0) 7 l 10 0) 7 l 12 0) 7 l 13 0) 7 l 14 0) 7 l 15 0) 11 l 0 0) 11 l 1 0) 11 l 2 0) 11 l 3 0) 11 l 4 0) 11 l 5 0) 11 l 6 0) 7 l 1 1) ρ46 := by rw [e_ρ46, show ((22 * l) + 0) = 22 * l + 0 from by omega]; exact Sρ44.p7 (by first | assumption | decide | exact xs_ (by decide) | exact xc_ (by decide) | exact x31_ (by decide) | omega) (by first | assumption | decide | exact xs_ (by decide) | exact xc_ (by decide) | exact x31_ (by decide) | omega) (by first | assumption | decide | exact xs_ (by decide) | exact xc_ (by decide) | exact x31_ (by decide) | omega)
    clear Sρ44
    have r16a_ρ46 : ρ46 31 0 (22 * l + 16) = 0 := by rw [e_ρ46]; exact (mu_ne (by first | assumption | decide | exact xs_ (by decide) | exact xc_ (by decide) | exact x31_ (by decide) | omega)).trans r16a_ρ44
    clear r16a_ρ44
    have r17b_ρ46 : ρ46 31 0 (22 * l + 17) = 0 := by rw [e_ρ46]; exact (mu_ne (by first | assumption | decide | exact xs_ (by decide) | exact xc_ (by decide) | exact x31_ (by decide) | omega)).trans r17b_ρ44
    clear r17b_ρ44
    have r21c_ρ46 : ρ46 31 0 (22 * l + 21) = 0 := by rw [e_ρ46]; exact (mu_ne (by first | assumption | decide | exact xs_ (by decide) | exact xc_ (by decide) | exact x31_ (by decide) | omega)).trans r21_ρ44
    have Xρ46 : KX t l (mu (mu (mu (mu (mu (mu (mu (mu (mu (mu (mu (mu (mu (mu (mu (mu (mu (mu (mu V 7 l 1 0) 7 l 2 0) 7 l 3 0) 7 l 4 0) 7 l 5 0) 7 l 6 0) 7 l 10 0) 7 l 12 0) 7 l 13 0) 7 l 14 0) 7 l 15 0) 11 l 0 0) 11 l 1 0) 11 l 2 0) 11 l 3 0) 11 l 4 0) 11 l 5 0) 11 l 6 0) 7 l 1 1) ρ46 := (Xρ44).e (fun m a b c => by rw [e_ρ46]; exact ⟨mu_ne (by first | assumption | decide | exact xs_ (by decide) | exact xc_ (by decide) | exact x31_ (by decide) | omega), mu_ne (by first | assumption | decide | exact xs_ (by decide) | exact xc_ (by decide) | exact x31_ (by decide) | omega)⟩) (fun m c => mu_ne (by first | assumption | decide | exact xs_ (by decide) | exact xc_ (by decide) | exact x31_ (by decide) | omega))
    clear Xρ44
    have Fρ46 : FB (mu (mu (mu (mu (mu (mu (mu (mu (mu (mu (mu (mu (mu (mu (mu (mu (mu (mu (mu V 7 l 1 0) 7 l 2 0) 7 l 3 0) 7 l 4 0) 7 l 5 0) 7 l 6 0) 7 l 10 0) 7 l 12 0) 7 l 13 0) 7 l 14 0) 7 l 15 0) 11 l 0 0) 11 l 1 0) 11 l 2 0) 11 l 3 0) 11 l 4 0) 11 l 5 0) 11 l 6 0) 7 l 1 1) ρ46 := by rw [e_ρ46]; exact (Fρ44).e (fun l a b => mu_ne (by first | assumption | decide | exact xs_ (by decide) | exact xc_ (by decide) | exact x31_ (by decide) | omega)) |>.v (fun l y a b c => mu_ne (by first | assumption | decide | exact xs_ (by decide) | exact xc_ (by decide) | exact x31_ (by decide) | omega))
    clear Fρ44 e_ρ46
    refine r_aload_n hC dX6_open_123 rfl ?_
    refine r_iload_n hC dX6_open_124 rfl ?_
    refine r_iconst hC dX6_open_125 rfl ?_
    refine r_iload_n hC dX6_open_126 rfl ?_
    refine z_inv3 hM dX6_open_127 vl_RX6_173 rfl rfl rfl (Nat.le_of_ble_eq_true rfl) (Nat.le_of_ble_eq_true rfl) ?_
    refine y_set (by first | assumption | decide | exact xs_ (by decide) | exact xc_ (by decide) | exact x31_ (by decide) | omega) (by first | assumption | decide | exact xs_ (by decide) | exact xc_ (by decide) | exact x31_ (by decide) | omega) ⟨fun h => by omega, fun h => by omega⟩ ?_
    obtain ⟨ρ47, e_ρ47⟩ : ∃ zz_, zz_ = mu ρ46 31 0 ((22 * l) + 1) o := ⟨_, rfl⟩
    rw [← e_ρ47]
    have Sρ47 : SB t σ0 (mu (mu (mu (mu (mu (mu (mu (mu (mu (mu (mu (mu (mu (mu (mu (mu (mu (mu (mu (mu V 7 l 1 0) 7 l 2 0) 7 l 3 0) 7 l 4 0) 7 l 5 0) 7 l 6 0) 7 l 10 0) 7 l 12 0) 7 l 13 0) 7 l 14 0) 7 l 15 0) 11 l 0 0) 11 l 1 0) 11 l 2 0) 11 l 3 0) 11 l 4 0) 11 l 5 0) 11 l 6 0) 7 l 1 1) 7 l 2 o) ρ47 := by rw [e_ρ47, show ((22 * l) + 1) = 22 * l + 1 from by omega]; exact Sρ46.p7 (by first | assumption | decide | exact xs_ (by decide) | exact xc_ (by decide) | exact x31_ (by decide) | omega) (by first | assumption | decide | exact xs_ (by decide) | exact xc_ (by decide) | exact x31_ (by decide) | omega) (by first | assumption | decide | exact xs_ (by decide) | exact xc_ (by decide) | exact x31_ (by decide) | omega)
    clear Sρ46
    have r16a_ρ47 : ρ47 31 0 (22 * l + 16) = 0 := by rw [e_ρ47]; exact (mu_ne (by first | assumption | decide | exact xs_ (by decide) | exact xc_ (by decide) | exact x31_ (by decide) | omega)).trans r16a_ρ46
    clear r16a_ρ46
    have r17b_ρ47 : ρ47 31 0 (22 * l + 17) = 0 := by rw [e_ρ47]; exact (mu_ne (by first | assumption | decide | exact xs_ (by decide) | exact xc_ (by decide) | exact x31_ (by decide) | omega)).trans r17b_ρ46
    clear r17b_ρ46
    have r21c_ρ47 : ρ47 31 0 (22 * l + 21) = 0 := by rw [e_ρ47]; exact (mu_ne (by first | assumption | decide | exact xs_ (by decide) | exact xc_ (by decide) | exact x31_ (by decide) | omega)).trans r21c_ρ46
    have Xρ47 : KX t l (mu (mu (mu (mu (mu (mu (mu (mu (mu (mu (mu (mu (mu (mu (mu (mu (mu (mu (mu (mu V 7 l 1 0) 7 l 2 0) 7 l 3 0) 7 l 4 0) 7 l 5 0) 7 l 6 0) 7 l 10 0) 7 l 12 0) 7 l 13 0) 7 l 14 0) 7 l 15 0) 11 l 0 0) 11 l 1 0) 11 l 2 0) 11 l 3 0) 11 l 4 0) 11 l 5 0) 11 l 6 0) 7 l 1 1) 7 l 2 o) ρ47 := (Xρ46).e (fun m a b c => by rw [e_ρ47]; exact ⟨mu_ne (by first | assumption | decide | exact xs_ (by decide) | exact xc_ (by decide) | exact x31_ (by decide) | omega), mu_ne (by first | assumption | decide | exact xs_ (by decide) | exact xc_ (by decide) | exact x31_ (by decide) | omega)⟩) (fun m c => mu_ne (by first | assumption | decide | exact xs_ (by decide) | exact xc_ (by decide) | exact x31_ (by decide) | omega))
    clear Xρ46
    have Fρ47 : FB (mu (mu (mu (mu (mu (mu (mu (mu (mu (mu (mu (mu (mu (mu (mu (mu (mu (mu (mu (mu V 7 l 1 0) 7 l 2 0) 7 l 3 0) 7 l 4 0) 7 l 5 0) 7 l 6 0) 7 l 10 0) 7 l 12 0) 7 l 13 0) 7 l 14 0) 7 l 15 0) 11 l 0 0) 11 l 1 0) 11 l 2 0) 11 l 3 0) 11 l 4 0) 11 l 5 0) 11 l 6 0) 7 l 1 1) 7 l 2 o) ρ47 := by rw [e_ρ47]; exact (Fρ46).e (fun l a b => mu_ne (by first | assumption | decide | exact xs_ (by decide) | exact xc_ (by decide) | exact x31_ (by decide) | omega)) |>.v (fun l y a b c => mu_ne (by first | assumption | decide | exact xs_ (by decide) | exact xc_ (by decide) | exact x31_ (by decide) | omega))
    clear Fρ46 e_ρ47
    refine r_aload_n hC dX6_open_130 rfl ?_
    refine r_iload_n hC dX6_open_131 rfl ?_
    refine r_iconst hC dX6_open_132 rfl ?_
    refine r_iload_n hC dX6_open_133 rfl ?_
    refine z_inv3 hM dX6_open_134 vl_RX6_173 rfl rfl rfl (Nat.le_of_ble_eq_true rfl) (Nat.le_of_ble_eq_true rfl) ?_
    refine y_set (by first | assumption | decide | exact xs_ (by decide) | exact xc_ (by decide) | exact x31_ (by decide) | omega) (by first | assumption | decide | exact xs_ (by decide) | exact xc_ (by decide) | exact x31_ (by decide) | omega) ⟨fun h => by omega, fun h => by omega⟩ ?_
    obtain ⟨ρ48, e_ρ48⟩ : ∃ zz_, zz_ = mu ρ47 31 0 ((22 * l) + 2) b := ⟨_, rfl⟩
    rw [← e_ρ48]
    have Sρ48 : SB t σ0 (mu (mu (mu (mu (mu (mu (mu (mu (mu (mu (mu (mu (mu (mu (mu (mu (mu (mu (mu (mu (mu V 7 l 1 0) 7 l 2 0) 7 l 3 0) 7 l 4 0) 7 l 5 0) 7 l 6 0) 7 l 10 0) 7 l 12 0) 7 l 13 0) 7 l 14 0) 7 l 15 0) 11 l 0 0) 11 l 1 0) 11 l 2 0) 11 l 3 0) 11 l 4 0) 11 l 5 0) 11 l 6 0) 7 l 1 1) 7 l 2 o) 7 l 3 b) ρ48 := by rw [e_ρ48, show ((22 * l) + 2) = 22 * l + 2 from by omega]; exact Sρ47.p7 (by first | assumption | decide | exact xs_ (by decide) | exact xc_ (by decide) | exact x31_ (by decide) | omega) (by first | assumption | decide | exact xs_ (by decide) | exact xc_ (by decide) | exact x31_ (by decide) | omega) (by first | assumption | decide | exact xs_ (by decide) | exact xc_ (by decide) | exact x31_ (by decide) | omega)
    clear Sρ47
    have r16a_ρ48 : ρ48 31 0 (22 * l + 16) = 0 := by rw [e_ρ48]; exact (mu_ne (by first | assumption | decide | exact xs_ (by decide) | exact xc_ (by decide) | exact x31_ (by decide) | omega)).trans r16a_ρ47
    clear r16a_ρ47
    have r17b_ρ48 : ρ48 31 0 (22 * l + 17) = 0 := by rw [e_ρ48]; exact (mu_ne (by first | assumption | decide | exact xs_ (by decide) | exact xc_ (by decide) | exact x31_ (by decide) | omega)).trans r17b_ρ47
    clear r17b_ρ47
    have r21c_ρ48 : ρ48 31 0 (22 * l + 21) = 0 := by rw [e_ρ48]; exact (mu_ne (by first | assumption | decide | exact xs_ (by decide) | exact xc_ (by decide) | exact x31_ (by decide) | omega)).trans r21c_ρ47
    have Xρ48 : KX t l (mu (mu (mu (mu (mu (mu (mu (mu (mu (mu (mu (mu (mu (mu (mu (mu (mu (mu (mu (mu (mu V 7 l 1 0) 7 l 2 0) 7 l 3 0) 7 l 4 0) 7 l 5 0) 7 l 6 0) 7 l 10 0) 7 l 12 0) 7 l 13 0) 7 l 14 0) 7 l 15 0) 11 l 0 0) 11 l 1 0) 11 l 2 0) 11 l 3 0) 11 l 4 0) 11 l 5 0) 11 l 6 0) 7 l 1 1) 7 l 2 o) 7 l 3 b) ρ48 := (Xρ47).e (fun m a b c => by rw [e_ρ48]; exact ⟨mu_ne (by first | assumption | decide | exact xs_ (by decide) | exact xc_ (by decide) | exact x31_ (by decide) | omega), mu_ne (by first | assumption | decide | exact xs_ (by decide) | exact xc_ (by decide) | exact x31_ (by decide) | omega)⟩) (fun m c => mu_ne (by first | assumption | decide | exact xs_ (by decide) | exact xc_ (by decide) | exact x31_ (by decide) | omega))
    clear Xρ47
    have Fρ48 : FB (mu (mu (mu (mu (mu (mu (mu (mu (mu (mu (mu (mu (mu (mu (mu (mu (mu (mu (mu (mu (mu V 7 l 1 0) 7 l 2 0) 7 l 3 0) 7 l 4 0) 7 l 5 0) 7 l 6 0) 7 l 10 0) 7 l 12 0) 7 l 13 0) 7 l 14 0) 7 l 15 0) 11 l 0 0) 11 l 1 0) 11 l 2 0) 11 l 3 0) 11 l 4 0) 11 l 5 0) 11 l 6 0) 7 l 1 1) 7 l 2 o) 7 l 3 b) ρ48 := by rw [e_ρ48]; exact (Fρ47).e (fun l a b => mu_ne (by first | assumption | decide | exact xs_ (by decide) | exact xc_ (by decide) | exact x31_ (by decide) | omega)) |>.v (fun l y a b c => mu_ne (by first | assumption | decide | exact xs_ (by decide) | exact xc_ (by decide) | exact x31_ (by decide) | omega))
    clear Fρ47 e_ρ48
    refine r_aload_n hC dX6_open_137 rfl ?_
    refine r_iload_n hC dX6_open_138 rfl ?_
    refine r_iconst hC dX6_open_139 rfl ?_
    refine r_iload_n hC dX6_open_140 rfl ?_
    refine r_if_ne (tgt := 148) hC dX6_open_141 rfl (fun h49 => ?_) (fun h49 => ?_)
    · refine r_iload hC dX6_open_148 rfl ?_
      refine z_inv3 hM dX6_open_150 vl_RX6_173 rfl rfl rfl (Nat.le_of_ble_eq_true rfl) (Nat.le_of_ble_eq_true rfl) ?_
      refine y_set (by first | assumption | decide | exact xs_ (by decide) | exact xc_ (by decide) | exact x31_ (by decide) | omega) (by first | assumption | decide | exact xs_ (by decide) | exact xc_ (by decide) | exact x31_ (by decide) | omega) ⟨fun h => by omega, fun h => by omega⟩ ?_
      obtain ⟨ρ50, e_ρ50⟩ : ∃ zz_, zz_ = mu ρ48 31 0 ((22 * l) + 3) z := ⟨_, rfl⟩
      rw [← e_ρ50]
      have Sρ50 : SB t σ0 (mu (mu (mu (mu (mu (mu (mu (mu (mu (mu (mu (mu (mu (mu (mu (mu (mu (mu (mu (mu (mu (mu V 7 l 1 0) 7 l 2 0) 7 l 3 0) 7 l 4 0) 7 l 5 0) 7 l 6 0) 7 l 10 0) 7 l 12 0) 7 l 13 0) 7 l 14 0) 7 l 15 0) 11 l 0 0) 11 l 1 0) 11 l 2 0) 11 l 3 0) 11 l 4 0) 11 l 5 0) 11 l 6 0) 7 l 1 1) 7 l 2 o) 7 l 3 b) 7 l 4 z) ρ50 := by rw [e_ρ50, show ((22 * l) + 3) = 22 * l + 3 from by omega]; exact Sρ48.p7 (by first | assumption | decide | exact xs_ (by decide) | exact xc_ (by decide) | exact x31_ (by decide) | omega) (by first | assumption | decide | exact xs_ (by decide) | exact xc_ (by decide) | exact x31_ (by decide) | omega) (by first | assumption | decide | exact xs_ (by decide) | exact xc_ (by decide) | exact x31_ (by decide) | omega)
      have r16a_ρ50 : ρ50 31 0 (22 * l + 16) = 0 := by rw [e_ρ50]; exact (mu_ne (by first | assumption | decide | exact xs_ (by decide) | exact xc_ (by decide) | exact x31_ (by decide) | omega)).trans r16a_ρ48
      have r17b_ρ50 : ρ50 31 0 (22 * l + 17) = 0 := by rw [e_ρ50]; exact (mu_ne (by first | assumption | decide | exact xs_ (by decide) | exact xc_ (by decide) | exact x31_ (by decide) | omega)).trans r17b_ρ48
      have r21c_ρ50 : ρ50 31 0 (22 * l + 21) = 0 := by rw [e_ρ50]; exact (mu_ne (by first | assumption | decide | exact xs_ (by decide) | exact xc_ (by decide) | exact x31_ (by decide) | omega)).trans r21c_ρ48
      have Xρ50 : KX t l (mu (mu (mu (mu (mu (mu (mu (mu (mu (mu (mu (mu (mu (mu (mu (mu (mu (mu (mu (mu (mu (mu V 7 l 1 0) 7 l 2 0) 7 l 3 0) 7 l 4 0) 7 l 5 0) 7 l 6 0) 7 l 10 0) 7 l 12 0) 7 l 13 0) 7 l 14 0) 7 l 15 0) 11 l 0 0) 11 l 1 0) 11 l 2 0) 11 l 3 0) 11 l 4 0) 11 l 5 0) 11 l 6 0) 7 l 1 1) 7 l 2 o) 7 l 3 b) 7 l 4 z) ρ50 := (Xρ48).e (fun m a b c => by rw [e_ρ50]; exact ⟨mu_ne (by first | assumption | decide | exact xs_ (by decide) | exact xc_ (by decide) | exact x31_ (by decide) | omega), mu_ne (by first | assumption | decide | exact xs_ (by decide) | exact xc_ (by decide) | exact x31_ (by decide) | omega)⟩) (fun m c => mu_ne (by first | assumption | decide | exact xs_ (by decide) | exact xc_ (by decide) | exact x31_ (by decide) | omega))
      have Fρ50 : FB (mu (mu (mu (mu (mu (mu (mu (mu (mu (mu (mu (mu (mu (mu (mu (mu (mu (mu (mu (mu (mu (mu V 7 l 1 0) 7 l 2 0) 7 l 3 0) 7 l 4 0) 7 l 5 0) 7 l 6 0) 7 l 10 0) 7 l 12 0) 7 l 13 0) 7 l 14 0) 7 l 15 0) 11 l 0 0) 11 l 1 0) 11 l 2 0) 11 l 3 0) 11 l 4 0) 11 l 5 0) 11 l 6 0) 7 l 1 1) 7 l 2 o) 7 l 3 b) 7 l 4 z) ρ50 := by rw [e_ρ50]; exact (Fρ48).e (fun l a b => mu_ne (by first | assumption | decide | exact xs_ (by decide) | exact xc_ (by decide) | exact x31_ (by decide) | omega)) |>.v (fun l y a b c => mu_ne (by first | assumption | decide | exact xs_ (by decide) | exact xc_ (by decide) | exact x31_ (by decide) | omega))
      clear e_ρ50
      refine r_aload_n hC dX6_open_153 rfl ?_
      refine r_iload_n hC dX6_open_154 rfl ?_
      refine r_iconst hC dX6_open_155 rfl ?_
      refine r_iload hC dX6_open_156 rfl ?_
      refine z_inv3 hM dX6_open_158 vl_RX6_173 rfl rfl rfl (Nat.le_of_ble_eq_true rfl) (Nat.le_of_ble_eq_true rfl) ?_
      refine y_set (by first | assumption | decide | exact xs_ (by decide) | exact xc_ (by decide) | exact x31_ (by decide) | omega) (by first | assumption | decide | exact xs_ (by decide) | exact xc_ (by decide) | exact x31_ (by decide) | omega) ⟨fun h => by omega, fun h => by omega⟩ ?_
      obtain ⟨ρ51, e_ρ51⟩ : ∃ zz_, zz_ = mu ρ50 31 0 ((22 * l) + 4) y := ⟨_, rfl⟩
      rw [← e_ρ51]
      have Sρ51 : SB t σ0 (mu (mu (mu (mu (mu (mu (mu (mu (mu (mu (mu (mu (mu (mu (mu (mu (mu (mu (mu (mu (mu (mu (mu V 7 l 1 0) 7 l 2 0) 7 l 3 0) 7 l 4 0) 7 l 5 0) 7 l 6 0) 7 l 10 0) 7 l 12 0) 7 l 13 0) 7 l 14 0) 7 l 15 0) 11 l 0 0) 11 l 1 0) 11 l 2 0) 11 l 3 0) 11 l 4 0) 11 l 5 0) 11 l 6 0) 7 l 1 1) 7 l 2 o) 7 l 3 b) 7 l 4 z) 7 l 5 y) ρ51 := by rw [e_ρ51, show ((22 * l) + 4) = 22 * l + 4 from by omega]; exact Sρ50.p7 (by first | assumption | decide | exact xs_ (by decide) | exact xc_ (by decide) | exact x31_ (by decide) | omega) (by first | assumption | decide | exact xs_ (by decide) | exact xc_ (by decide) | exact x31_ (by decide) | omega) (by first | assumption | decide | exact xs_ (by decide) | exact xc_ (by decide) | exact x31_ (by decide) | omega)
      clear Sρ50
      have r16a_ρ51 : ρ51 31 0 (22 * l + 16) = 0 := by rw [e_ρ51]; exact (mu_ne (by first | assumption | decide | exact xs_ (by decide) | exact xc_ (by decide) | exact x31_ (by decide) | omega)).trans r16a_ρ50
      clear r16a_ρ50
      have r17b_ρ51 : ρ51 31 0 (22 * l + 17) = 0 := by rw [e_ρ51]; exact (mu_ne (by first | assumption | decide | exact xs_ (by decide) | exact xc_ (by decide) | exact x31_ (by decide) | omega)).trans r17b_ρ50
      clear r17b_ρ50
      have r21c_ρ51 : ρ51 31 0 (22 * l + 21) = 0 := by rw [e_ρ51]; exact (mu_ne (by first | assumption | decide | exact xs_ (by decide) | exact xc_ (by decide) | exact x31_ (by decide) | omega)).trans r21c_ρ50
      have Xρ51 : KX t l (mu (mu (mu (mu (mu (mu (mu (mu (mu (mu (mu (mu (mu (mu (mu (mu (mu (mu (mu (mu (mu (mu (mu V 7 l 1 0) 7 l 2 0) 7 l 3 0) 7 l 4 0) 7 l 5 0) 7 l 6 0) 7 l 10 0) 7 l 12 0) 7 l 13 0) 7 l 14 0) 7 l 15 0) 11 l 0 0) 11 l 1 0) 11 l 2 0) 11 l 3 0) 11 l 4 0) 11 l 5 0) 11 l 6 0) 7 l 1 1) 7 l 2 o) 7 l 3 b) 7 l 4 z) 7 l 5 y) ρ51 := (Xρ50).e (fun m a b c => by rw [e_ρ51]; exact ⟨mu_ne (by first | assumption | decide | exact xs_ (by decide) | exact xc_ (by decide) | exact x31_ (by decide) | omega), mu_ne (by first | assumption | decide | exact xs_ (by decide) | exact xc_ (by decide) | exact x31_ (by decide) | omega)⟩) (fun m c => mu_ne (by first | assumption | decide | exact xs_ (by decide) | exact xc_ (by decide) | exact x31_ (by decide) | omega))
      clear Xρ50
      have Fρ51 : FB (mu (mu (mu (mu (mu (mu (mu (mu (mu (mu (mu (mu (mu (mu (mu (mu (mu (mu (mu (mu (mu (mu (mu V 7 l 1 0) 7 l 2 0) 7 l 3 0) 7 l 4 0) 7 l 5 0) 7 l 6 0) 7 l 10 0) 7 l 12 0) 7 l 13 0) 7 l 14 0) 7 l 15 0) 11 l 0 0) 11 l 1 0) 11 l 2 0) 11 l 3 0) 11 l 4 0) 11 l 5 0) 11 l 6 0) 7 l 1 1) 7 l 2 o) 7 l 3 b) 7 l 4 z) 7 l 5 y) ρ51 := by rw [e_ρ51]; exact (Fρ50).e (fun l a b => mu_ne (by first | assumption | decide | exact xs_ (by decide) | exact xc_ (by decide) | exact x31_ (by decide) | omega)) |>.v (fun l y a b c => mu_ne (by first | assumption | decide | exact xs_ (by decide) | exact xc_ (by decide) | exact x31_ (by decide) | omega))
      clear Fρ50 e_ρ51
      refine r_aload_n hC dX6_open_161 rfl ?_
      refine r_iload_n hC dX6_open_162 rfl ?_
      refine r_bipush hC dX6_open_163 rfl ?_
      refine r_iconst hC dX6_open_165 rfl ?_
      refine z_inv3 hM dX6_open_166 vl_RX6_173 rfl rfl rfl (Nat.le_of_ble_eq_true rfl) (Nat.le_of_ble_eq_true rfl) ?_
      refine y_set (by first | assumption | decide | exact xs_ (by decide) | exact xc_ (by decide) | exact x31_ (by decide) | omega) (by first | assumption | decide | exact xs_ (by decide) | exact xc_ (by decide) | exact x31_ (by decide) | omega) ⟨fun h => by omega, fun h => by omega⟩ ?_
      obtain ⟨ρ52, e_ρ52⟩ : ∃ zz_, zz_ = mu ρ51 31 0 ((22 * l) + 6) (-1) := ⟨_, rfl⟩
      rw [← e_ρ52]
      have Sρ52 : SB t σ0 (mu (mu (mu (mu (mu (mu (mu (mu (mu (mu (mu (mu (mu (mu (mu (mu (mu (mu (mu (mu (mu (mu (mu (mu V 7 l 1 0) 7 l 2 0) 7 l 3 0) 7 l 4 0) 7 l 5 0) 7 l 6 0) 7 l 10 0) 7 l 12 0) 7 l 13 0) 7 l 14 0) 7 l 15 0) 11 l 0 0) 11 l 1 0) 11 l 2 0) 11 l 3 0) 11 l 4 0) 11 l 5 0) 11 l 6 0) 7 l 1 1) 7 l 2 o) 7 l 3 b) 7 l 4 z) 7 l 5 y) 7 l 10 (-1)) ρ52 := by rw [e_ρ52, show ((22 * l) + 6) = 22 * l + 6 from by omega]; exact Sρ51.p7 (by first | assumption | decide | exact xs_ (by decide) | exact xc_ (by decide) | exact x31_ (by decide) | omega) (by first | assumption | decide | exact xs_ (by decide) | exact xc_ (by decide) | exact x31_ (by decide) | omega) (by first | assumption | decide | exact xs_ (by decide) | exact xc_ (by decide) | exact x31_ (by decide) | omega)
      clear Sρ51
      have r16a_ρ52 : ρ52 31 0 (22 * l + 16) = 0 := by rw [e_ρ52]; exact (mu_ne (by first | assumption | decide | exact xs_ (by decide) | exact xc_ (by decide) | exact x31_ (by decide) | omega)).trans r16a_ρ51
      clear r16a_ρ51
      have r17b_ρ52 : ρ52 31 0 (22 * l + 17) = 0 := by rw [e_ρ52]; exact (mu_ne (by first | assumption | decide | exact xs_ (by decide) | exact xc_ (by decide) | exact x31_ (by decide) | omega)).trans r17b_ρ51
      clear r17b_ρ51
      have r21c_ρ52 : ρ52 31 0 (22 * l + 21) = 0 := by rw [e_ρ52]; exact (mu_ne (by first | assumption | decide | exact xs_ (by decide) | exact xc_ (by decide) | exact x31_ (by decide) | omega)).trans r21c_ρ51
      have Xρ52 : KX t l (mu (mu (mu (mu (mu (mu (mu (mu (mu (mu (mu (mu (mu (mu (mu (mu (mu (mu (mu (mu (mu (mu (mu (mu V 7 l 1 0) 7 l 2 0) 7 l 3 0) 7 l 4 0) 7 l 5 0) 7 l 6 0) 7 l 10 0) 7 l 12 0) 7 l 13 0) 7 l 14 0) 7 l 15 0) 11 l 0 0) 11 l 1 0) 11 l 2 0) 11 l 3 0) 11 l 4 0) 11 l 5 0) 11 l 6 0) 7 l 1 1) 7 l 2 o) 7 l 3 b) 7 l 4 z) 7 l 5 y) 7 l 10 (-1)) ρ52 := (Xρ51).e (fun m a b c => by rw [e_ρ52]; exact ⟨mu_ne (by first | assumption | decide | exact xs_ (by decide) | exact xc_ (by decide) | exact x31_ (by decide) | omega), mu_ne (by first | assumption | decide | exact xs_ (by decide) | exact xc_ (by decide) | exact x31_ (by decide) | omega)⟩) (fun m c => mu_ne (by first | assumption | decide | exact xs_ (by decide) | exact xc_ (by decide) | exact x31_ (by decide) | omega))
      clear Xρ51
      have Fρ52 : FB (mu (mu (mu (mu (mu (mu (mu (mu (mu (mu (mu (mu (mu (mu (mu (mu (mu (mu (mu (mu (mu (mu (mu (mu V 7 l 1 0) 7 l 2 0) 7 l 3 0) 7 l 4 0) 7 l 5 0) 7 l 6 0) 7 l 10 0) 7 l 12 0) 7 l 13 0) 7 l 14 0) 7 l 15 0) 11 l 0 0) 11 l 1 0) 11 l 2 0) 11 l 3 0) 11 l 4 0) 11 l 5 0) 11 l 6 0) 7 l 1 1) 7 l 2 o) 7 l 3 b) 7 l 4 z) 7 l 5 y) 7 l 10 (-1)) ρ52 := by rw [e_ρ52]; exact (Fρ51).e (fun l a b => mu_ne (by first | assumption | decide | exact xs_ (by decide) | exact xc_ (by decide) | exact x31_ (by decide) | omega)) |>.v (fun l y a b c => mu_ne (by first | assumption | decide | exact xs_ (by decide) | exact xc_ (by decide) | exact x31_ (by decide) | omega))
      clear Fρ51 e_ρ52
      have hV : (mu (mu (mu (mu (mu (mu (mu (mu (mu (mu (mu (mu (mu (mu (mu (mu (mu (mu (mu (mu (mu (mu (mu (mu V 7 l 1 0) 7 l 2 0) 7 l 3 0) 7 l 4 0) 7 l 5 0) 7 l 6 0) 7 l 10 0) 7 l 12 0) 7 l 13 0) 7 l 14 0) 7 l 15 0) 11 l 0 0) 11 l 1 0) 11 l 2 0) 11 l 3 0) 11 l 4 0) 11 l 5 0) 11 l 6 0) 7 l 1 1) 7 l 2 o) 7 l 3 b) 7 l 4 z) 7 l 5 y) 7 l 10 (-1)) = (bgM V l o b z y) := bg24.symm
      have iS := Sρ52
      clear Sρ52
      have iX := Xρ52
      clear Xρ52
      have iF := Fρ52
      clear Fρ52
      rw [hV] at iS iX iF
      have iK : KF t (bgM V l o b z y) ρ52 := iX.kf (r16a_ρ52.trans (if_pos bg_11).symm) r17b_ρ52
      clear r16a_ρ52 r17b_ρ52
      refine r_aload_n hC dX6_open_169 rfl ?_
      refine r_iload_n hC dX6_open_170 rfl ?_
      refine z_inv1 hM dX6_open_171 vl_RX6_176 rfl rfl rfl (Nat.le_of_ble_eq_true rfl) (Nat.le_of_ble_eq_true rfl) ?_
      refine y_endWatches (V := (bgM V l o b z y)) (by first | assumption | decide | exact xs_ (by decide) | exact xc_ (by decide) | exact x31_ (by decide) | omega) ht ⟨iS, iK, iF⟩ (fun ρ53 Rρ53 => ?_)
      refine r_aload_n hC dX6_open_174 rfl ?_
      refine r_iload_n hC dX6_open_175 rfl ?_
      refine z_inv1 hM dX6_open_176 vl_RX6_179 rfl rfl rfl (Nat.le_of_ble_eq_true rfl) (Nat.le_of_ble_eq_true rfl) ?_
      refine y_endLinks (V := (etA (bgM V l o b z y) l 8)) (by first | assumption | decide | exact xs_ (by decide) | exact xc_ (by decide) | exact x31_ (by decide) | omega) ht ⟨Rρ53.1, Rρ53.2.1, Rρ53.2.2⟩ (fun ρ54 Rρ54 => ?_)
      refine r_aload_n hC dX6_open_179 rfl ?_
      refine z_inv0 hM dX6_open_180 vl_RX6_182 rfl rfl rfl (Nat.le_of_ble_eq_true rfl) (Nat.le_of_ble_eq_true rfl) ?_
      refine y_openLanes (V := (etB (etA (bgM V l o b z y) l 8) l 4)) ht ⟨Rρ54.1, Rρ54.2.1, Rρ54.2.2⟩ ?_
      refine y_iret hK rfl dX6_open_183 ?_
      have hM : onM V l o b z y = (etB (etA (bgM V l o b z y) l 8) l 4) := by
        first
        | exact (if_pos hoc).trans (by rw [if_pos (by first | assumption | decide | exact xs_ (by decide) | exact xc_ (by decide) | exact x31_ (by decide) | omega)]; first | done | rfl)
        | exact (if_pos hoc).trans (by rw [if_neg (by first | assumption | decide | exact xs_ (by decide) | exact xc_ (by decide) | exact x31_ (by decide) | omega)]; first | done | rfl)
      have hRr : onR V l o b z y = (cntO (etB (etA (bgM V l o b z y) l 8) l 4)) := by
        exact (if_pos hoc).trans (by rw [hM])
      rw [hM] at k
      rw [hRr] at k
      exact k _ ⟨Rρ54.1, Rρ54.2.1, Rρ54.2.2⟩
    · refine r_iconst hC dX6_open_144 rfl ?_
      refine r_goto (tgt := 150) hC dX6_open_145 rfl ?_
      refine z_inv3 hM dX6_open_150 vl_RX6_173 rfl rfl rfl (Nat.le_of_ble_eq_true rfl) (Nat.le_of_ble_eq_true rfl) ?_
      refine y_set (by first | assumption | decide | exact xs_ (by decide) | exact xc_ (by decide) | exact x31_ (by decide) | omega) (by first | assumption | decide | exact xs_ (by decide) | exact xc_ (by decide) | exact x31_ (by decide) | omega) ⟨fun h => by omega, fun h => by omega⟩ ?_
      obtain ⟨ρ55, e_ρ55⟩ : ∃ zz_, zz_ = mu ρ48 31 0 ((22 * l) + 3) 0 := ⟨_, rfl⟩
      rw [← e_ρ55]
      have Sρ55 : SB t σ0 (mu (mu (mu (mu (mu (mu (mu (mu (mu (mu (mu (mu (mu (mu (mu (mu (mu (mu (mu (mu (mu (mu V 7 l 1 0) 7 l 2 0) 7 l 3 0) 7 l 4 0) 7 l 5 0) 7 l 6 0) 7 l 10 0) 7 l 12 0) 7 l 13 0) 7 l 14 0) 7 l 15 0) 11 l 0 0) 11 l 1 0) 11 l 2 0) 11 l 3 0) 11 l 4 0) 11 l 5 0) 11 l 6 0) 7 l 1 1) 7 l 2 o) 7 l 3 b) 7 l 4 0) ρ55 := by rw [e_ρ55, show ((22 * l) + 3) = 22 * l + 3 from by omega]; exact Sρ48.p7 (by first | assumption | decide | exact xs_ (by decide) | exact xc_ (by decide) | exact x31_ (by decide) | omega) (by first | assumption | decide | exact xs_ (by decide) | exact xc_ (by decide) | exact x31_ (by decide) | omega) (by first | assumption | decide | exact xs_ (by decide) | exact xc_ (by decide) | exact x31_ (by decide) | omega)
      clear Sρ48
      have r16a_ρ55 : ρ55 31 0 (22 * l + 16) = 0 := by rw [e_ρ55]; exact (mu_ne (by first | assumption | decide | exact xs_ (by decide) | exact xc_ (by decide) | exact x31_ (by decide) | omega)).trans r16a_ρ48
      clear r16a_ρ48
      have r17b_ρ55 : ρ55 31 0 (22 * l + 17) = 0 := by rw [e_ρ55]; exact (mu_ne (by first | assumption | decide | exact xs_ (by decide) | exact xc_ (by decide) | exact x31_ (by decide) | omega)).trans r17b_ρ48
      clear r17b_ρ48
      have r21c_ρ55 : ρ55 31 0 (22 * l + 21) = 0 := by rw [e_ρ55]; exact (mu_ne (by first | assumption | decide | exact xs_ (by decide) | exact xc_ (by decide) | exact x31_ (by decide) | omega)).trans r21c_ρ48
      have Xρ55 : KX t l (mu (mu (mu (mu (mu (mu (mu (mu (mu (mu (mu (mu (mu (mu (mu (mu (mu (mu (mu (mu (mu (mu V 7 l 1 0) 7 l 2 0) 7 l 3 0) 7 l 4 0) 7 l 5 0) 7 l 6 0) 7 l 10 0) 7 l 12 0) 7 l 13 0) 7 l 14 0) 7 l 15 0) 11 l 0 0) 11 l 1 0) 11 l 2 0) 11 l 3 0) 11 l 4 0) 11 l 5 0) 11 l 6 0) 7 l 1 1) 7 l 2 o) 7 l 3 b) 7 l 4 0) ρ55 := (Xρ48).e (fun m a b c => by rw [e_ρ55]; exact ⟨mu_ne (by first | assumption | decide | exact xs_ (by decide) | exact xc_ (by decide) | exact x31_ (by decide) | omega), mu_ne (by first | assumption | decide | exact xs_ (by decide) | exact xc_ (by decide) | exact x31_ (by decide) | omega)⟩) (fun m c => mu_ne (by first | assumption | decide | exact xs_ (by decide) | exact xc_ (by decide) | exact x31_ (by decide) | omega))
      clear Xρ48
      have Fρ55 : FB (mu (mu (mu (mu (mu (mu (mu (mu (mu (mu (mu (mu (mu (mu (mu (mu (mu (mu (mu (mu (mu (mu V 7 l 1 0) 7 l 2 0) 7 l 3 0) 7 l 4 0) 7 l 5 0) 7 l 6 0) 7 l 10 0) 7 l 12 0) 7 l 13 0) 7 l 14 0) 7 l 15 0) 11 l 0 0) 11 l 1 0) 11 l 2 0) 11 l 3 0) 11 l 4 0) 11 l 5 0) 11 l 6 0) 7 l 1 1) 7 l 2 o) 7 l 3 b) 7 l 4 0) ρ55 := by rw [e_ρ55]; exact (Fρ48).e (fun l a b => mu_ne (by first | assumption | decide | exact xs_ (by decide) | exact xc_ (by decide) | exact x31_ (by decide) | omega)) |>.v (fun l y a b c => mu_ne (by first | assumption | decide | exact xs_ (by decide) | exact xc_ (by decide) | exact x31_ (by decide) | omega))
      clear Fρ48 e_ρ55
      refine r_aload_n hC dX6_open_153 rfl ?_
      refine r_iload_n hC dX6_open_154 rfl ?_
      refine r_iconst hC dX6_open_155 rfl ?_
      refine r_iload hC dX6_open_156 rfl ?_
      refine z_inv3 hM dX6_open_158 vl_RX6_173 rfl rfl rfl (Nat.le_of_ble_eq_true rfl) (Nat.le_of_ble_eq_true rfl) ?_
      refine y_set (by first | assumption | decide | exact xs_ (by decide) | exact xc_ (by decide) | exact x31_ (by decide) | omega) (by first | assumption | decide | exact xs_ (by decide) | exact xc_ (by decide) | exact x31_ (by decide) | omega) ⟨fun h => by omega, fun h => by omega⟩ ?_
      obtain ⟨ρ56, e_ρ56⟩ : ∃ zz_, zz_ = mu ρ55 31 0 ((22 * l) + 4) y := ⟨_, rfl⟩
      rw [← e_ρ56]
      have Sρ56 : SB t σ0 (mu (mu (mu (mu (mu (mu (mu (mu (mu (mu (mu (mu (mu (mu (mu (mu (mu (mu (mu (mu (mu (mu (mu V 7 l 1 0) 7 l 2 0) 7 l 3 0) 7 l 4 0) 7 l 5 0) 7 l 6 0) 7 l 10 0) 7 l 12 0) 7 l 13 0) 7 l 14 0) 7 l 15 0) 11 l 0 0) 11 l 1 0) 11 l 2 0) 11 l 3 0) 11 l 4 0) 11 l 5 0) 11 l 6 0) 7 l 1 1) 7 l 2 o) 7 l 3 b) 7 l 4 0) 7 l 5 y) ρ56 := by rw [e_ρ56, show ((22 * l) + 4) = 22 * l + 4 from by omega]; exact Sρ55.p7 (by first | assumption | decide | exact xs_ (by decide) | exact xc_ (by decide) | exact x31_ (by decide) | omega) (by first | assumption | decide | exact xs_ (by decide) | exact xc_ (by decide) | exact x31_ (by decide) | omega) (by first | assumption | decide | exact xs_ (by decide) | exact xc_ (by decide) | exact x31_ (by decide) | omega)
      clear Sρ55
      have r16a_ρ56 : ρ56 31 0 (22 * l + 16) = 0 := by rw [e_ρ56]; exact (mu_ne (by first | assumption | decide | exact xs_ (by decide) | exact xc_ (by decide) | exact x31_ (by decide) | omega)).trans r16a_ρ55
      clear r16a_ρ55
      have r17b_ρ56 : ρ56 31 0 (22 * l + 17) = 0 := by rw [e_ρ56]; exact (mu_ne (by first | assumption | decide | exact xs_ (by decide) | exact xc_ (by decide) | exact x31_ (by decide) | omega)).trans r17b_ρ55
      clear r17b_ρ55
      have r21c_ρ56 : ρ56 31 0 (22 * l + 21) = 0 := by rw [e_ρ56]; exact (mu_ne (by first | assumption | decide | exact xs_ (by decide) | exact xc_ (by decide) | exact x31_ (by decide) | omega)).trans r21c_ρ55
      have Xρ56 : KX t l (mu (mu (mu (mu (mu (mu (mu (mu (mu (mu (mu (mu (mu (mu (mu (mu (mu (mu (mu (mu (mu (mu (mu V 7 l 1 0) 7 l 2 0) 7 l 3 0) 7 l 4 0) 7 l 5 0) 7 l 6 0) 7 l 10 0) 7 l 12 0) 7 l 13 0) 7 l 14 0) 7 l 15 0) 11 l 0 0) 11 l 1 0) 11 l 2 0) 11 l 3 0) 11 l 4 0) 11 l 5 0) 11 l 6 0) 7 l 1 1) 7 l 2 o) 7 l 3 b) 7 l 4 0) 7 l 5 y) ρ56 := (Xρ55).e (fun m a b c => by rw [e_ρ56]; exact ⟨mu_ne (by first | assumption | decide | exact xs_ (by decide) | exact xc_ (by decide) | exact x31_ (by decide) | omega), mu_ne (by first | assumption | decide | exact xs_ (by decide) | exact xc_ (by decide) | exact x31_ (by decide) | omega)⟩) (fun m c => mu_ne (by first | assumption | decide | exact xs_ (by decide) | exact xc_ (by decide) | exact x31_ (by decide) | omega))
      clear Xρ55
      have Fρ56 : FB (mu (mu (mu (mu (mu (mu (mu (mu (mu (mu (mu (mu (mu (mu (mu (mu (mu (mu (mu (mu (mu (mu (mu V 7 l 1 0) 7 l 2 0) 7 l 3 0) 7 l 4 0) 7 l 5 0) 7 l 6 0) 7 l 10 0) 7 l 12 0) 7 l 13 0) 7 l 14 0) 7 l 15 0) 11 l 0 0) 11 l 1 0) 11 l 2 0) 11 l 3 0) 11 l 4 0) 11 l 5 0) 11 l 6 0) 7 l 1 1) 7 l 2 o) 7 l 3 b) 7 l 4 0) 7 l 5 y) ρ56 := by rw [e_ρ56]; exact (Fρ55).e (fun l a b => mu_ne (by first | assumption | decide | exact xs_ (by decide) | exact xc_ (by decide) | exact x31_ (by decide) | omega)) |>.v (fun l y a b c => mu_ne (by first | assumption | decide | exact xs_ (by decide) | exact xc_ (by decide) | exact x31_ (by decide) | omega))
      clear Fρ55 e_ρ56
      refine r_aload_n hC dX6_open_161 rfl ?_
      refine r_iload_n hC dX6_open_162 rfl ?_
      refine r_bipush hC dX6_open_163 rfl ?_
      refine r_iconst hC dX6_open_165 rfl ?_
      refine z_inv3 hM dX6_open_166 vl_RX6_173 rfl rfl rfl (Nat.le_of_ble_eq_true rfl) (Nat.le_of_ble_eq_true rfl) ?_
      refine y_set (by first | assumption | decide | exact xs_ (by decide) | exact xc_ (by decide) | exact x31_ (by decide) | omega) (by first | assumption | decide | exact xs_ (by decide) | exact xc_ (by decide) | exact x31_ (by decide) | omega) ⟨fun h => by omega, fun h => by omega⟩ ?_
      obtain ⟨ρ57, e_ρ57⟩ : ∃ zz_, zz_ = mu ρ56 31 0 ((22 * l) + 6) (-1) := ⟨_, rfl⟩
      rw [← e_ρ57]
      have Sρ57 : SB t σ0 (mu (mu (mu (mu (mu (mu (mu (mu (mu (mu (mu (mu (mu (mu (mu (mu (mu (mu (mu (mu (mu (mu (mu (mu V 7 l 1 0) 7 l 2 0) 7 l 3 0) 7 l 4 0) 7 l 5 0) 7 l 6 0) 7 l 10 0) 7 l 12 0) 7 l 13 0) 7 l 14 0) 7 l 15 0) 11 l 0 0) 11 l 1 0) 11 l 2 0) 11 l 3 0) 11 l 4 0) 11 l 5 0) 11 l 6 0) 7 l 1 1) 7 l 2 o) 7 l 3 b) 7 l 4 0) 7 l 5 y) 7 l 10 (-1)) ρ57 := by rw [e_ρ57, show ((22 * l) + 6) = 22 * l + 6 from by omega]; exact Sρ56.p7 (by first | assumption | decide | exact xs_ (by decide) | exact xc_ (by decide) | exact x31_ (by decide) | omega) (by first | assumption | decide | exact xs_ (by decide) | exact xc_ (by decide) | exact x31_ (by decide) | omega) (by first | assumption | decide | exact xs_ (by decide) | exact xc_ (by decide) | exact x31_ (by decide) | omega)
      clear Sρ56
      have r16a_ρ57 : ρ57 31 0 (22 * l + 16) = 0 := by rw [e_ρ57]; exact (mu_ne (by first | assumption | decide | exact xs_ (by decide) | exact xc_ (by decide) | exact x31_ (by decide) | omega)).trans r16a_ρ56
      clear r16a_ρ56
      have r17b_ρ57 : ρ57 31 0 (22 * l + 17) = 0 := by rw [e_ρ57]; exact (mu_ne (by first | assumption | decide | exact xs_ (by decide) | exact xc_ (by decide) | exact x31_ (by decide) | omega)).trans r17b_ρ56
      clear r17b_ρ56
      have r21c_ρ57 : ρ57 31 0 (22 * l + 21) = 0 := by rw [e_ρ57]; exact (mu_ne (by first | assumption | decide | exact xs_ (by decide) | exact xc_ (by decide) | exact x31_ (by decide) | omega)).trans r21c_ρ56
      have Xρ57 : KX t l (mu (mu (mu (mu (mu (mu (mu (mu (mu (mu (mu (mu (mu (mu (mu (mu (mu (mu (mu (mu (mu (mu (mu (mu V 7 l 1 0) 7 l 2 0) 7 l 3 0) 7 l 4 0) 7 l 5 0) 7 l 6 0) 7 l 10 0) 7 l 12 0) 7 l 13 0) 7 l 14 0) 7 l 15 0) 11 l 0 0) 11 l 1 0) 11 l 2 0) 11 l 3 0) 11 l 4 0) 11 l 5 0) 11 l 6 0) 7 l 1 1) 7 l 2 o) 7 l 3 b) 7 l 4 0) 7 l 5 y) 7 l 10 (-1)) ρ57 := (Xρ56).e (fun m a b c => by rw [e_ρ57]; exact ⟨mu_ne (by first | assumption | decide | exact xs_ (by decide) | exact xc_ (by decide) | exact x31_ (by decide) | omega), mu_ne (by first | assumption | decide | exact xs_ (by decide) | exact xc_ (by decide) | exact x31_ (by decide) | omega)⟩) (fun m c => mu_ne (by first | assumption | decide | exact xs_ (by decide) | exact xc_ (by decide) | exact x31_ (by decide) | omega))
      clear Xρ56
      have Fρ57 : FB (mu (mu (mu (mu (mu (mu (mu (mu (mu (mu (mu (mu (mu (mu (mu (mu (mu (mu (mu (mu (mu (mu (mu (mu V 7 l 1 0) 7 l 2 0) 7 l 3 0) 7 l 4 0) 7 l 5 0) 7 l 6 0) 7 l 10 0) 7 l 12 0) 7 l 13 0) 7 l 14 0) 7 l 15 0) 11 l 0 0) 11 l 1 0) 11 l 2 0) 11 l 3 0) 11 l 4 0) 11 l 5 0) 11 l 6 0) 7 l 1 1) 7 l 2 o) 7 l 3 b) 7 l 4 0) 7 l 5 y) 7 l 10 (-1)) ρ57 := by rw [e_ρ57]; exact (Fρ56).e (fun l a b => mu_ne (by first | assumption | decide | exact xs_ (by decide) | exact xc_ (by decide) | exact x31_ (by decide) | omega)) |>.v (fun l y a b c => mu_ne (by first | assumption | decide | exact xs_ (by decide) | exact xc_ (by decide) | exact x31_ (by decide) | omega))
      clear Fρ56 e_ρ57
      have hV : (mu (mu (mu (mu (mu (mu (mu (mu (mu (mu (mu (mu (mu (mu (mu (mu (mu (mu (mu (mu (mu (mu (mu (mu V 7 l 1 0) 7 l 2 0) 7 l 3 0) 7 l 4 0) 7 l 5 0) 7 l 6 0) 7 l 10 0) 7 l 12 0) 7 l 13 0) 7 l 14 0) 7 l 15 0) 11 l 0 0) 11 l 1 0) 11 l 2 0) 11 l 3 0) 11 l 4 0) 11 l 5 0) 11 l 6 0) 7 l 1 1) 7 l 2 o) 7 l 3 b) 7 l 4 0) 7 l 5 y) 7 l 10 (-1)) = (bgM V l o b 0 y) := bg24.symm
      have iS := Sρ57
      clear Sρ57
      have iX := Xρ57
      clear Xρ57
      have iF := Fρ57
      clear Fρ57
      rw [hV] at iS iX iF
      have iK : KF t (bgM V l o b 0 y) ρ57 := iX.kf (r16a_ρ57.trans (if_pos bg_11).symm) r17b_ρ57
      clear r16a_ρ57 r17b_ρ57
      refine r_aload_n hC dX6_open_169 rfl ?_
      refine r_iload_n hC dX6_open_170 rfl ?_
      refine z_inv1 hM dX6_open_171 vl_RX6_176 rfl rfl rfl (Nat.le_of_ble_eq_true rfl) (Nat.le_of_ble_eq_true rfl) ?_
      refine y_endWatches (V := (bgM V l o b 0 y)) (by first | assumption | decide | exact xs_ (by decide) | exact xc_ (by decide) | exact x31_ (by decide) | omega) ht ⟨iS, iK, iF⟩ (fun ρ58 Rρ58 => ?_)
      refine r_aload_n hC dX6_open_174 rfl ?_
      refine r_iload_n hC dX6_open_175 rfl ?_
      refine z_inv1 hM dX6_open_176 vl_RX6_179 rfl rfl rfl (Nat.le_of_ble_eq_true rfl) (Nat.le_of_ble_eq_true rfl) ?_
      refine y_endLinks (V := (etA (bgM V l o b 0 y) l 8)) (by first | assumption | decide | exact xs_ (by decide) | exact xc_ (by decide) | exact x31_ (by decide) | omega) ht ⟨Rρ58.1, Rρ58.2.1, Rρ58.2.2⟩ (fun ρ59 Rρ59 => ?_)
      refine r_aload_n hC dX6_open_179 rfl ?_
      refine z_inv0 hM dX6_open_180 vl_RX6_182 rfl rfl rfl (Nat.le_of_ble_eq_true rfl) (Nat.le_of_ble_eq_true rfl) ?_
      refine y_openLanes (V := (etB (etA (bgM V l o b 0 y) l 8) l 4)) ht ⟨Rρ59.1, Rρ59.2.1, Rρ59.2.2⟩ ?_
      refine y_iret hK rfl dX6_open_183 ?_
      have hM : onM V l o b z y = (etB (etA (bgM V l o b 0 y) l 8) l 4) := by
        first
        | exact (if_pos hoc).trans (by rw [if_pos (by first | assumption | decide | exact xs_ (by decide) | exact xc_ (by decide) | exact x31_ (by decide) | omega)]; first | done | rfl)
        | exact (if_pos hoc).trans (by rw [if_neg (by first | assumption | decide | exact xs_ (by decide) | exact xc_ (by decide) | exact x31_ (by decide) | omega)]; first | done | rfl)
      have hRr : onR V l o b z y = (cntO (etB (etA (bgM V l o b 0 y) l 8) l 4)) := by
        exact (if_pos hoc).trans (by rw [hM])
      rw [hM] at k
      rw [hRr] at k
      exact k _ ⟨Rρ59.1, Rρ59.2.1, Rρ59.2.2⟩
  refine r_iload_n hC dX6_open_0 rfl ?_
  refine r_iconst hC dX6_open_1 rfl ?_
  refine r_iconst hC dX6_open_2 rfl ?_
  refine z_ins3 hM dX6_open_3 tl_RX6_76 rfl (Nat.le_of_ble_eq_true rfl) (Nat.le_of_ble_eq_true rfl) ?_
  refine m_isIn (fun h61 => ?_) (fun h61 => ?_)
  · refine r_if_eq (tgt := 40) hC dX6_open_6 rfl (fun h62 => by omega) (fun h62 => ?_)
    refine r_iload_n hC dX6_open_9 rfl ?_
    refine r_iconst hC dX6_open_10 rfl ?_
    refine r_bipush hC dX6_open_11 rfl ?_
    refine z_ins3 hM dX6_open_13 tl_RX6_76 rfl (Nat.le_of_ble_eq_true rfl) (Nat.le_of_ble_eq_true rfl) ?_
    refine m_isIn (fun h64 => ?_) (fun h64 => ?_)
    · refine r_if_eq (tgt := 40) hC dX6_open_16 rfl (fun h65 => by omega) (fun h65 => ?_)
      refine r_iload_n hC dX6_open_19 rfl ?_
      refine r_iconst hC dX6_open_20 rfl ?_
      refine r_iconst hC dX6_open_21 rfl ?_
      refine z_ins3 hM dX6_open_22 tl_RX6_76 rfl (Nat.le_of_ble_eq_true rfl) (Nat.le_of_ble_eq_true rfl) ?_
      refine m_isIn (fun h67 => ?_) (fun h67 => ?_)
      · refine r_if_eq (tgt := 40) hC dX6_open_25 rfl (fun h68 => by omega) (fun h68 => ?_)
        refine r_iload hC dX6_open_28 rfl ?_
        refine r_iconst hC dX6_open_30 rfl ?_
        refine r_sipush hC dX6_open_31 rfl ?_
        refine z_ins3 hM dX6_open_34 tl_RX6_76 rfl (Nat.le_of_ble_eq_true rfl) (Nat.le_of_ble_eq_true rfl) ?_
        refine m_isIn (fun h70 => ?_) (fun h70 => ?_)
        · refine r_if_ne (tgt := 42) hC dX6_open_37 rfl (fun h71 => ?_) (fun h71 => by omega)
          refine r_iload_n hC dX6_open_42 rfl ?_
          refine r_iconst hC dX6_open_43 rfl ?_
          refine r_icmp_ne (tgt := 58) hC dX6_open_44 rfl (fun h72 => ?_) (fun h72 => ?_)
          · refine r_iload_n hC dX6_open_58 rfl ?_
            refine r_iconst hC dX6_open_59 rfl ?_
            refine r_icmp_ne (tgt := 77) hC dX6_open_60 rfl (fun h73 => ?_) (fun h73 => ?_)
            · refine r_iload_n hC dX6_open_77 rfl ?_
              refine r_bipush hC dX6_open_78 rfl ?_
              refine r_icmp_ne (tgt := 92) hC dX6_open_80 rfl (fun h74 => ?_) (fun h74 => ?_)
              · exact J92 ⟨by omega, by omega, by omega, by omega, fun q => by first | omega | exact hft.mpr (by first | assumption | decide | exact xs_ (by decide) | exact xc_ (by decide) | exact x31_ (by decide) | omega)⟩
              · refine r_aload_n hC dX6_open_83 rfl ?_
                refine z_inv0 hM dX6_open_84 vl_RX6_98 rfl rfl rfl (Nat.le_of_ble_eq_true rfl) (Nat.le_of_ble_eq_true rfl) ?_
                refine m_firstThreeX ?_
                have bf := fst_bd 35 σ
                have htb := (hG.2.1.lk hG.1 (l := 0) (by first | assumption | decide | exact xs_ (by decide) | exact xc_ (by decide) | exact x31_ (by decide) | omega) (by first | assumption | decide | exact xs_ (by decide) | exact xc_ (by decide) | exact x31_ (by decide) | omega)).2.2.2.1
                have hft : trpF 15 V 3 = 64 ↔ fstA 35 σ (64 : Int).toNat < 0 := ft_key (fun j a b => (hR.1.t15 a (by first | assumption | decide | exact xs_ (by decide) | exact xc_ (by decide) | exact x31_ (by decide) | omega)).symm) htb
                refine r_if_lt (tgt := 92) hC dX6_open_87 rfl (fun h75 => ?_) (fun h75 => ?_)
                · exact J92 ⟨by omega, by omega, by omega, by omega, fun q => by first | omega | exact hft.mpr (by first | assumption | decide | exact xs_ (by decide) | exact xc_ (by decide) | exact x31_ (by decide) | omega)⟩
                · refine r_iconst hC dX6_open_90 rfl ?_
                  refine y_iret hK rfl dX6_open_91 ?_
                  have hM : onM V l o b z y = V := by
                    exact if_neg (by first | omega | (rintro ⟨q1, q2, q3, q4, q5⟩; first | omega | (have := q5 (by first | assumption | decide | exact xs_ (by decide) | exact xc_ (by decide) | exact x31_ (by decide) | omega); omega)))
                  have hRr : onR V l o b z y = (-1) := by
                    exact if_neg (by first | omega | (rintro ⟨q1, q2, q3, q4, q5⟩; first | omega | (have := q5 (by first | assumption | decide | exact xs_ (by decide) | exact xc_ (by decide) | exact x31_ (by decide) | omega); omega)))
                  rw [hM] at k
                  rw [hRr] at k
                  exact k _ ⟨hR.1, hR.2.1, hR.2.2⟩
            · refine r_iload hC dX6_open_63 rfl ?_
              refine r_iconst hC dX6_open_65 rfl ?_
              refine r_sipush hC dX6_open_66 rfl ?_
              refine z_ins3 hM dX6_open_69 tl_RX6_76 rfl (Nat.le_of_ble_eq_true rfl) (Nat.le_of_ble_eq_true rfl) ?_
              refine m_isIn (fun h77 => ?_) (fun h77 => ?_)
              · refine r_if_ne (tgt := 77) hC dX6_open_72 rfl (fun h78 => ?_) (fun h78 => by omega)
                refine r_iload_n hC dX6_open_77 rfl ?_
                refine r_bipush hC dX6_open_78 rfl ?_
                refine r_icmp_ne (tgt := 92) hC dX6_open_80 rfl (fun h79 => ?_) (fun h79 => ?_)
                · exact J92 ⟨by omega, by omega, by omega, by omega, fun q => by first | omega | exact hft.mpr (by first | assumption | decide | exact xs_ (by decide) | exact xc_ (by decide) | exact x31_ (by decide) | omega)⟩
                · refine r_aload_n hC dX6_open_83 rfl ?_
                  refine z_inv0 hM dX6_open_84 vl_RX6_98 rfl rfl rfl (Nat.le_of_ble_eq_true rfl) (Nat.le_of_ble_eq_true rfl) ?_
                  refine m_firstThreeX ?_
                  have bf := fst_bd 35 σ
                  have htb := (hG.2.1.lk hG.1 (l := 0) (by first | assumption | decide | exact xs_ (by decide) | exact xc_ (by decide) | exact x31_ (by decide) | omega) (by first | assumption | decide | exact xs_ (by decide) | exact xc_ (by decide) | exact x31_ (by decide) | omega)).2.2.2.1
                  have hft : trpF 15 V 3 = 64 ↔ fstA 35 σ (64 : Int).toNat < 0 := ft_key (fun j a b => (hR.1.t15 a (by first | assumption | decide | exact xs_ (by decide) | exact xc_ (by decide) | exact x31_ (by decide) | omega)).symm) htb
                  refine r_if_lt (tgt := 92) hC dX6_open_87 rfl (fun h80 => ?_) (fun h80 => ?_)
                  · exact J92 ⟨by omega, by omega, by omega, by omega, fun q => by first | omega | exact hft.mpr (by first | assumption | decide | exact xs_ (by decide) | exact xc_ (by decide) | exact x31_ (by decide) | omega)⟩
                  · refine r_iconst hC dX6_open_90 rfl ?_
                    refine y_iret hK rfl dX6_open_91 ?_
                    have hM : onM V l o b z y = V := by
                      exact if_neg (by first | omega | (rintro ⟨q1, q2, q3, q4, q5⟩; first | omega | (have := q5 (by first | assumption | decide | exact xs_ (by decide) | exact xc_ (by decide) | exact x31_ (by decide) | omega); omega)))
                    have hRr : onR V l o b z y = (-1) := by
                      exact if_neg (by first | omega | (rintro ⟨q1, q2, q3, q4, q5⟩; first | omega | (have := q5 (by first | assumption | decide | exact xs_ (by decide) | exact xc_ (by decide) | exact x31_ (by decide) | omega); omega)))
                    rw [hM] at k
                    rw [hRr] at k
                    exact k _ ⟨hR.1, hR.2.1, hR.2.2⟩
              · refine r_if_ne (tgt := 77) hC dX6_open_72 rfl (fun h81 => by omega) (fun h81 => ?_)
                refine r_iconst hC dX6_open_75 rfl ?_
                refine y_iret hK rfl dX6_open_76 ?_
                have hM : onM V l o b z y = V := by
                  exact if_neg (by first | omega | (rintro ⟨q1, q2, q3, q4, q5⟩; first | omega | (have := q5 (by first | assumption | decide | exact xs_ (by decide) | exact xc_ (by decide) | exact x31_ (by decide) | omega); omega)))
                have hRr : onR V l o b z y = (-1) := by
                  exact if_neg (by first | omega | (rintro ⟨q1, q2, q3, q4, q5⟩; first | omega | (have := q5 (by first | assumption | decide | exact xs_ (by decide) | exact xc_ (by decide) | exact x31_ (by decide) | omega); omega)))
                rw [hM] at k
                rw [hRr] at k
                exact k _ ⟨hR.1, hR.2.1, hR.2.2⟩
          · refine r_iload hC dX6_open_47 rfl ?_
            refine r_iconst hC dX6_open_49 rfl ?_
            refine r_bipush hC dX6_open_50 rfl ?_
            refine z_ins3 hM dX6_open_52 tl_RX6_76 rfl (Nat.le_of_ble_eq_true rfl) (Nat.le_of_ble_eq_true rfl) ?_
            refine m_isIn (fun h83 => ?_) (fun h83 => ?_)
            · refine r_if_eq (tgt := 75) hC dX6_open_55 rfl (fun h84 => by omega) (fun h84 => ?_)
              refine r_iload_n hC dX6_open_58 rfl ?_
              refine r_iconst hC dX6_open_59 rfl ?_
              refine r_icmp_ne (tgt := 77) hC dX6_open_60 rfl (fun h85 => ?_) (fun h85 => by omega)
              refine r_iload_n hC dX6_open_77 rfl ?_
              refine r_bipush hC dX6_open_78 rfl ?_
              refine r_icmp_ne (tgt := 92) hC dX6_open_80 rfl (fun h86 => ?_) (fun h86 => ?_)
              · exact J92 ⟨by omega, by omega, by omega, by omega, fun q => by first | omega | exact hft.mpr (by first | assumption | decide | exact xs_ (by decide) | exact xc_ (by decide) | exact x31_ (by decide) | omega)⟩
              · refine r_aload_n hC dX6_open_83 rfl ?_
                refine z_inv0 hM dX6_open_84 vl_RX6_98 rfl rfl rfl (Nat.le_of_ble_eq_true rfl) (Nat.le_of_ble_eq_true rfl) ?_
                refine m_firstThreeX ?_
                have bf := fst_bd 35 σ
                have htb := (hG.2.1.lk hG.1 (l := 0) (by first | assumption | decide | exact xs_ (by decide) | exact xc_ (by decide) | exact x31_ (by decide) | omega) (by first | assumption | decide | exact xs_ (by decide) | exact xc_ (by decide) | exact x31_ (by decide) | omega)).2.2.2.1
                have hft : trpF 15 V 3 = 64 ↔ fstA 35 σ (64 : Int).toNat < 0 := ft_key (fun j a b => (hR.1.t15 a (by first | assumption | decide | exact xs_ (by decide) | exact xc_ (by decide) | exact x31_ (by decide) | omega)).symm) htb
                refine r_if_lt (tgt := 92) hC dX6_open_87 rfl (fun h87 => ?_) (fun h87 => ?_)
                · exact J92 ⟨by omega, by omega, by omega, by omega, fun q => by first | omega | exact hft.mpr (by first | assumption | decide | exact xs_ (by decide) | exact xc_ (by decide) | exact x31_ (by decide) | omega)⟩
                · refine r_iconst hC dX6_open_90 rfl ?_
                  refine y_iret hK rfl dX6_open_91 ?_
                  have hM : onM V l o b z y = V := by
                    exact if_neg (by first | omega | (rintro ⟨q1, q2, q3, q4, q5⟩; first | omega | (have := q5 (by first | assumption | decide | exact xs_ (by decide) | exact xc_ (by decide) | exact x31_ (by decide) | omega); omega)))
                  have hRr : onR V l o b z y = (-1) := by
                    exact if_neg (by first | omega | (rintro ⟨q1, q2, q3, q4, q5⟩; first | omega | (have := q5 (by first | assumption | decide | exact xs_ (by decide) | exact xc_ (by decide) | exact x31_ (by decide) | omega); omega)))
                  rw [hM] at k
                  rw [hRr] at k
                  exact k _ ⟨hR.1, hR.2.1, hR.2.2⟩
            · refine r_if_eq (tgt := 75) hC dX6_open_55 rfl (fun h88 => ?_) (fun h88 => by omega)
              refine r_iconst hC dX6_open_75 rfl ?_
              refine y_iret hK rfl dX6_open_76 ?_
              have hM : onM V l o b z y = V := by
                exact if_neg (by first | omega | (rintro ⟨q1, q2, q3, q4, q5⟩; first | omega | (have := q5 (by first | assumption | decide | exact xs_ (by decide) | exact xc_ (by decide) | exact x31_ (by decide) | omega); omega)))
              have hRr : onR V l o b z y = (-1) := by
                exact if_neg (by first | omega | (rintro ⟨q1, q2, q3, q4, q5⟩; first | omega | (have := q5 (by first | assumption | decide | exact xs_ (by decide) | exact xc_ (by decide) | exact x31_ (by decide) | omega); omega)))
              rw [hM] at k
              rw [hRr] at k
              exact k _ ⟨hR.1, hR.2.1, hR.2.2⟩
        · refine r_if_ne (tgt := 42) hC dX6_open_37 rfl (fun h89 => by omega) (fun h89 => ?_)
          refine r_iconst hC dX6_open_40 rfl ?_
          refine y_iret hK rfl dX6_open_41 ?_
          have hM : onM V l o b z y = V := by
            exact if_neg (by first | omega | (rintro ⟨q1, q2, q3, q4, q5⟩; first | omega | (have := q5 (by first | assumption | decide | exact xs_ (by decide) | exact xc_ (by decide) | exact x31_ (by decide) | omega); omega)))
          have hRr : onR V l o b z y = (-1) := by
            exact if_neg (by first | omega | (rintro ⟨q1, q2, q3, q4, q5⟩; first | omega | (have := q5 (by first | assumption | decide | exact xs_ (by decide) | exact xc_ (by decide) | exact x31_ (by decide) | omega); omega)))
          rw [hM] at k
          rw [hRr] at k
          exact k _ ⟨hR.1, hR.2.1, hR.2.2⟩
      · refine r_if_eq (tgt := 40) hC dX6_open_25 rfl (fun h90 => ?_) (fun h90 => by omega)
        refine r_iconst hC dX6_open_40 rfl ?_
        refine y_iret hK rfl dX6_open_41 ?_
        have hM : onM V l o b z y = V := by
          exact if_neg (by first | omega | (rintro ⟨q1, q2, q3, q4, q5⟩; first | omega | (have := q5 (by first | assumption | decide | exact xs_ (by decide) | exact xc_ (by decide) | exact x31_ (by decide) | omega); omega)))
        have hRr : onR V l o b z y = (-1) := by
          exact if_neg (by first | omega | (rintro ⟨q1, q2, q3, q4, q5⟩; first | omega | (have := q5 (by first | assumption | decide | exact xs_ (by decide) | exact xc_ (by decide) | exact x31_ (by decide) | omega); omega)))
        rw [hM] at k
        rw [hRr] at k
        exact k _ ⟨hR.1, hR.2.1, hR.2.2⟩
    · refine r_if_eq (tgt := 40) hC dX6_open_16 rfl (fun h91 => ?_) (fun h91 => by omega)
      refine r_iconst hC dX6_open_40 rfl ?_
      refine y_iret hK rfl dX6_open_41 ?_
      have hM : onM V l o b z y = V := by
        exact if_neg (by first | omega | (rintro ⟨q1, q2, q3, q4, q5⟩; first | omega | (have := q5 (by first | assumption | decide | exact xs_ (by decide) | exact xc_ (by decide) | exact x31_ (by decide) | omega); omega)))
      have hRr : onR V l o b z y = (-1) := by
        exact if_neg (by first | omega | (rintro ⟨q1, q2, q3, q4, q5⟩; first | omega | (have := q5 (by first | assumption | decide | exact xs_ (by decide) | exact xc_ (by decide) | exact x31_ (by decide) | omega); omega)))
      rw [hM] at k
      rw [hRr] at k
      exact k _ ⟨hR.1, hR.2.1, hR.2.2⟩
  · refine r_if_eq (tgt := 40) hC dX6_open_6 rfl (fun h92 => ?_) (fun h92 => by omega)
    refine r_iconst hC dX6_open_40 rfl ?_
    refine y_iret hK rfl dX6_open_41 ?_
    have hM : onM V l o b z y = V := by
      exact if_neg (by first | omega | (rintro ⟨q1, q2, q3, q4, q5⟩; first | omega | (have := q5 (by first | assumption | decide | exact xs_ (by decide) | exact xc_ (by decide) | exact x31_ (by decide) | omega); omega)))
    have hRr : onR V l o b z y = (-1) := by
      exact if_neg (by first | omega | (rintro ⟨q1, q2, q3, q4, q5⟩; first | omega | (have := q5 (by first | assumption | decide | exact xs_ (by decide) | exact xc_ (by decide) | exact x31_ (by decide) | omega); omega)))
    rw [hM] at k
    rw [hRr] at k
    exact k _ ⟨hR.1, hR.2.1, hR.2.2⟩
theorem y_ofU {e : Ev} {d : Nat} {P : Option Vl → Mm → Prop} {σ : Mm} {l f : Int} (b_l : 0 ≤ l ∧ l ≤ 7) (b_f : 0 ≤ f ∧ f ≤ 21)  (k : ∀ r : Int, P (some (vI r)) σ) : WT e (d + 1) 138 [vR 30 0, vI l, vI f] σ P := by
  refine WT_in fun K hK => ?_
  have hK : StpY e cX6_of RX6 (some .int) (WT e (d + 0)) P K := hK
  have hM := hK.1
  have hC := hK.1.1
  show K 0 [some (vR 30 0), some (vI l), some (vI f)] [] σ
  refine r_aload_n hC dX6_of_0 rfl ?_
  refine z_getR hM dX6_of_1 fl_RX6_7 rfl rfl (vld_of (n := 1) rfl (by first | assumption | decide | exact xs_ (by decide) | exact xc_ (by decide) | exact x31_ (by decide) | omega) (by first | assumption | decide | exact xs_ (by decide) | exact xc_ (by decide) | exact x31_ (by decide) | omega)) ?_
  refine r_bipush hC dX6_of_4 rfl ?_
  refine r_iload_n hC dX6_of_6 rfl ?_
  refine r_imulE hC ((22 * l)) dX6_of_7 (by first | assumption | decide | exact xs_ (by decide) | exact xc_ (by decide) | exact x31_ (by decide) | omega) (by unfold inR; omega) ?_
  refine r_iload_n hC dX6_of_8 rfl ?_
  refine r_iaddE hC (((22 * l) + f)) dX6_of_9 (by first | assumption | decide | exact xs_ (by decide) | exact xc_ (by decide) | exact x31_ (by decide) | omega) (by unfold inR; omega) ?_
  refine z_iald hM dX6_of_10 rfl (by first | assumption | decide | exact xs_ (by decide) | exact xc_ (by decide) | exact x31_ (by decide) | omega) (by first | assumption | decide | exact xs_ (by decide) | exact xc_ (by decide) | exact x31_ (by decide) | omega) (fun vg h_vg o_vg t_vg => ?_)
  refine y_iret hK rfl dX6_of_11 ?_
  exact k _
theorem y_copyLaneG {eb : Bool} {t : Int} {V : Mm} {d : Nat} {P : Option Vl → Mm → Prop} {σ : Mm} {l m : Int} (b_l : 0 ≤ l ∧ l ≤ 6) (b_m : 0 ≤ m ∧ m ≤ 7) {σ0 : Mm} (ht : 6 ≤ t ∧ t ≤ 7) (hS : SB t σ0 V σ) (hX : KX t m V σ) (hFB : FB V σ) (hmt : m ≤ t) (hlm : l ≠ m)  (k : ∀ (v : Int) (ρ : Mm), RS t σ0 (mu (cpM V l m) 7 m 0 v) ρ → P none ρ) : WT (true, eb, true) (d + 3) 253 [vR 30 0, vI l, vI m] σ P := by
  refine WT_in fun K hK => ?_
  have hK : StpY (true, eb, true) cX6_copyLane RX6 (none) (WT (true, eb, true) (d + 2)) P K := hK
  have hM := hK.1
  have hC := hK.1.1
  show K 0 [some (vR 30 0), some (vI l), some (vI m), none] [] σ
  have k16 : σ 31 0 (22 * l + 16) = (if V 11 l 3 = 0 then (0 : Int) else 1) := (hX l (by first | assumption | decide | exact xs_ (by decide) | exact xc_ (by decide) | exact x31_ (by decide) | omega) (by first | assumption | decide | exact xs_ (by decide) | exact xc_ (by decide) | exact x31_ (by decide) | omega) hlm).1
  have k17 : σ 31 0 (22 * l + 17) = 0 := (hX l (by first | assumption | decide | exact xs_ (by decide) | exact xc_ (by decide) | exact x31_ (by decide) | omega) (by first | assumption | decide | exact xs_ (by decide) | exact xc_ (by decide) | exact x31_ (by decide) | omega) hlm).2
  have kxx : KX t m V σ := hX
  have fxx : FX m V σ := hFB.fx m
  refine r_iconst hC dX6_copyLane_0 rfl ?_
  refine r_istore_n hC dX6_copyLane_1 rfl ?_
  refine r_iload_n hC dX6_copyLane_2 rfl ?_
  refine r_bipush hC dX6_copyLane_3 rfl ?_
  refine r_icmp_ge (tgt := 26) hC dX6_copyLane_5 rfl (fun h1 => by omega) (fun h1 => ?_)
  refine r_aload_n hC dX6_copyLane_8 rfl ?_
  refine r_iload_n hC dX6_copyLane_9 rfl ?_
  refine r_iload_n hC dX6_copyLane_10 rfl ?_
  refine r_aload_n hC dX6_copyLane_11 rfl ?_
  refine r_iload_n hC dX6_copyLane_12 rfl ?_
  refine r_iload_n hC dX6_copyLane_13 rfl ?_
  refine z_inv2 hM dX6_copyLane_14 vl_RX6_80 rfl rfl rfl (Nat.le_of_ble_eq_true rfl) (Nat.le_of_ble_eq_true rfl) ?_
  refine y_of (by first | assumption | decide | exact xs_ (by decide) | exact xc_ (by decide) | exact x31_ (by decide) | omega) (by first | assumption | decide | exact xs_ (by decide) | exact xc_ (by decide) | exact x31_ (by decide) | omega) (by first | assumption | decide | exact xs_ (by decide) | exact xc_ (by decide) | exact x31_ (by decide) | omega) (fun o2 => ?_)
  have e3 : σ 31 0 (22 * l + 0) = (V 7 l 1) := (hS.a7 (s := 1) (f := 0) (by first | assumption | decide | exact xs_ (by decide) | exact xc_ (by decide) | exact x31_ (by decide) | omega) (by first | assumption | decide | exact xs_ (by decide) | exact xc_ (by decide) | exact x31_ (by decide) | omega) (by first | assumption | decide | exact xs_ (by decide) | exact xc_ (by decide) | exact x31_ (by decide) | omega)).trans (rfl)
  rw [e3] at o2 ⊢
  clear e3
  have qo2 : 0 ≤ (V 7 l 1) ∧ (V 7 l 1) ≤ 1 := by have := o2.2 (by first | assumption | decide | exact xs_ (by decide) | exact xc_ (by decide) | exact x31_ (by decide) | omega); omega
  refine z_inv3 hM dX6_copyLane_17 vl_RX6_173 rfl rfl rfl (Nat.le_of_ble_eq_true rfl) (Nat.le_of_ble_eq_true rfl) ?_
  refine y_set (by first | assumption | decide | exact xs_ (by decide) | exact xc_ (by decide) | exact x31_ (by decide) | omega) (by first | assumption | decide | exact xs_ (by decide) | exact xc_ (by decide) | exact x31_ (by decide) | omega) ⟨fun h => by omega, fun h => by omega⟩ ?_
  obtain ⟨ρ4, e_ρ4⟩ : ∃ zz_, zz_ = mu σ 31 0 ((22 * m) + 0) (V 7 l 1) := ⟨_, rfl⟩
  rw [← e_ρ4]
  have Sρ4 : SB t σ0 (mu V 7 m 1 (V 7 l 1)) ρ4 := by rw [e_ρ4, show ((22 * m) + 0) = 22 * m + 0 from by omega]; exact hS.p7 (by first | assumption | decide | exact xs_ (by decide) | exact xc_ (by decide) | exact x31_ (by decide) | omega) (by first | assumption | decide | exact xs_ (by decide) | exact xc_ (by decide) | exact x31_ (by decide) | omega) (by first | assumption | decide | exact xs_ (by decide) | exact xc_ (by decide) | exact x31_ (by decide) | omega)
  have r16a_ρ4 : ρ4 31 0 (22 * l + 16) = (if V 11 l 3 = 0 then (0 : Int) else 1) := by rw [e_ρ4]; exact (mu_ne (by first | assumption | decide | exact xs_ (by decide) | exact xc_ (by decide) | exact x31_ (by decide) | omega)).trans k16
  have r17b_ρ4 : ρ4 31 0 (22 * l + 17) = 0 := by rw [e_ρ4]; exact (mu_ne (by first | assumption | decide | exact xs_ (by decide) | exact xc_ (by decide) | exact x31_ (by decide) | omega)).trans k17
  have Yρ4 : FX m (mu V 7 m 1 (V 7 l 1)) ρ4 := (fxx).e (fun m a b c => by rw [e_ρ4]; exact mu_ne (by first | assumption | decide | exact xs_ (by decide) | exact xc_ (by decide) | exact x31_ (by decide) | omega)) (fun m y c => mu_ne (by first | assumption | decide | exact xs_ (by decide) | exact xc_ (by decide) | exact x31_ (by decide) | omega))
  have Xρ4 : KX t m (mu V 7 m 1 (V 7 l 1)) ρ4 := (kxx).e (fun m a b c => by rw [e_ρ4]; exact ⟨mu_ne (by first | assumption | decide | exact xs_ (by decide) | exact xc_ (by decide) | exact x31_ (by decide) | omega), mu_ne (by first | assumption | decide | exact xs_ (by decide) | exact xc_ (by decide) | exact x31_ (by decide) | omega)⟩) (fun m c => mu_ne (by first | assumption | decide | exact xs_ (by decide) | exact xc_ (by decide) | exact x31_ (by decide) | omega))
  clear e_ρ4
  refine r_iincE hC (1) dX6_copyLane_20 rfl rfl (by first | assumption | decide | exact xs_ (by decide) | exact xc_ (by decide) | exact x31_ (by decide) | omega) (by unfold inR; omega) ?_
  refine r_goto (tgt := 2) hC dX6_copyLane_23 rfl ?_
  refine r_iload_n hC dX6_copyLane_2 rfl ?_
  refine r_bipush hC dX6_copyLane_3 rfl ?_
  refine r_icmp_ge (tgt := 26) hC dX6_copyLane_5 rfl (fun h5 => by omega) (fun h5 => ?_)
  refine r_aload_n hC dX6_copyLane_8 rfl ?_
  refine r_iload_n hC dX6_copyLane_9 rfl ?_
  refine r_iload_n hC dX6_copyLane_10 rfl ?_
  refine r_aload_n hC dX6_copyLane_11 rfl ?_
  refine r_iload_n hC dX6_copyLane_12 rfl ?_
  refine r_iload_n hC dX6_copyLane_13 rfl ?_
  refine z_inv2 hM dX6_copyLane_14 vl_RX6_80 rfl rfl rfl (Nat.le_of_ble_eq_true rfl) (Nat.le_of_ble_eq_true rfl) ?_
  refine y_of (by first | assumption | decide | exact xs_ (by decide) | exact xc_ (by decide) | exact x31_ (by decide) | omega) (by first | assumption | decide | exact xs_ (by decide) | exact xc_ (by decide) | exact x31_ (by decide) | omega) (by first | assumption | decide | exact xs_ (by decide) | exact xc_ (by decide) | exact x31_ (by decide) | omega) (fun o6 => ?_)
  have e7 : ρ4 31 0 (22 * l + 1) = (V 7 l 2) := (Sρ4.a7 (s := 2) (f := 1) (by first | assumption | decide | exact xs_ (by decide) | exact xc_ (by decide) | exact x31_ (by decide) | omega) (by first | assumption | decide | exact xs_ (by decide) | exact xc_ (by decide) | exact x31_ (by decide) | omega) (by first | assumption | decide | exact xs_ (by decide) | exact xc_ (by decide) | exact x31_ (by decide) | omega)).trans ((mu_ne (by first | assumption | decide | exact xs_ (by decide) | exact xc_ (by decide) | exact x31_ (by decide) | omega)).trans (rfl))
  rw [e7] at o6 ⊢
  clear e7
  refine z_inv3 hM dX6_copyLane_17 vl_RX6_173 rfl rfl rfl (Nat.le_of_ble_eq_true rfl) (Nat.le_of_ble_eq_true rfl) ?_
  refine y_set (by first | assumption | decide | exact xs_ (by decide) | exact xc_ (by decide) | exact x31_ (by decide) | omega) (by first | assumption | decide | exact xs_ (by decide) | exact xc_ (by decide) | exact x31_ (by decide) | omega) ⟨fun h => by omega, fun h => by omega⟩ ?_
  obtain ⟨ρ8, e_ρ8⟩ : ∃ zz_, zz_ = mu ρ4 31 0 ((22 * m) + 1) (V 7 l 2) := ⟨_, rfl⟩
  rw [← e_ρ8]
  have Sρ8 : SB t σ0 (mu (mu V 7 m 1 (V 7 l 1)) 7 m 2 (V 7 l 2)) ρ8 := by rw [e_ρ8, show ((22 * m) + 1) = 22 * m + 1 from by omega]; exact Sρ4.p7 (by first | assumption | decide | exact xs_ (by decide) | exact xc_ (by decide) | exact x31_ (by decide) | omega) (by first | assumption | decide | exact xs_ (by decide) | exact xc_ (by decide) | exact x31_ (by decide) | omega) (by first | assumption | decide | exact xs_ (by decide) | exact xc_ (by decide) | exact x31_ (by decide) | omega)
  clear Sρ4
  have r16a_ρ8 : ρ8 31 0 (22 * l + 16) = (if V 11 l 3 = 0 then (0 : Int) else 1) := by rw [e_ρ8]; exact (mu_ne (by first | assumption | decide | exact xs_ (by decide) | exact xc_ (by decide) | exact x31_ (by decide) | omega)).trans r16a_ρ4
  clear r16a_ρ4
  have r17b_ρ8 : ρ8 31 0 (22 * l + 17) = 0 := by rw [e_ρ8]; exact (mu_ne (by first | assumption | decide | exact xs_ (by decide) | exact xc_ (by decide) | exact x31_ (by decide) | omega)).trans r17b_ρ4
  clear r17b_ρ4
  have Yρ8 : FX m (mu (mu V 7 m 1 (V 7 l 1)) 7 m 2 (V 7 l 2)) ρ8 := (Yρ4).e (fun m a b c => by rw [e_ρ8]; exact mu_ne (by first | assumption | decide | exact xs_ (by decide) | exact xc_ (by decide) | exact x31_ (by decide) | omega)) (fun m y c => mu_ne (by first | assumption | decide | exact xs_ (by decide) | exact xc_ (by decide) | exact x31_ (by decide) | omega))
  clear Yρ4
  have Xρ8 : KX t m (mu (mu V 7 m 1 (V 7 l 1)) 7 m 2 (V 7 l 2)) ρ8 := (Xρ4).e (fun m a b c => by rw [e_ρ8]; exact ⟨mu_ne (by first | assumption | decide | exact xs_ (by decide) | exact xc_ (by decide) | exact x31_ (by decide) | omega), mu_ne (by first | assumption | decide | exact xs_ (by decide) | exact xc_ (by decide) | exact x31_ (by decide) | omega)⟩) (fun m c => mu_ne (by first | assumption | decide | exact xs_ (by decide) | exact xc_ (by decide) | exact x31_ (by decide) | omega))
  clear Xρ4 e_ρ8
  refine r_iincE hC (2) dX6_copyLane_20 rfl rfl (by first | assumption | decide | exact xs_ (by decide) | exact xc_ (by decide) | exact x31_ (by decide) | omega) (by unfold inR; omega) ?_
  show K _ [_, _, _, _] _ _
  refine r_goto (tgt := 2) hC dX6_copyLane_23 rfl ?_
  refine r_iload_n hC dX6_copyLane_2 rfl ?_
  refine r_bipush hC dX6_copyLane_3 rfl ?_
  refine r_icmp_ge (tgt := 26) hC dX6_copyLane_5 rfl (fun h9 => by omega) (fun h9 => ?_)
  refine r_aload_n hC dX6_copyLane_8 rfl ?_
  refine r_iload_n hC dX6_copyLane_9 rfl ?_
  refine r_iload_n hC dX6_copyLane_10 rfl ?_
  refine r_aload_n hC dX6_copyLane_11 rfl ?_
  refine r_iload_n hC dX6_copyLane_12 rfl ?_
  refine r_iload_n hC dX6_copyLane_13 rfl ?_
  refine z_inv2 hM dX6_copyLane_14 vl_RX6_80 rfl rfl rfl (Nat.le_of_ble_eq_true rfl) (Nat.le_of_ble_eq_true rfl) ?_
  refine y_of (by first | assumption | decide | exact xs_ (by decide) | exact xc_ (by decide) | exact x31_ (by decide) | omega) (by first | assumption | decide | exact xs_ (by decide) | exact xc_ (by decide) | exact x31_ (by decide) | omega) (by first | assumption | decide | exact xs_ (by decide) | exact xc_ (by decide) | exact x31_ (by decide) | omega) (fun o10 => ?_)
  have e11 : ρ8 31 0 (22 * l + 2) = (V 7 l 3) := (Sρ8.a7 (s := 3) (f := 2) (by first | assumption | decide | exact xs_ (by decide) | exact xc_ (by decide) | exact x31_ (by decide) | omega) (by first | assumption | decide | exact xs_ (by decide) | exact xc_ (by decide) | exact x31_ (by decide) | omega) (by first | assumption | decide | exact xs_ (by decide) | exact xc_ (by decide) | exact x31_ (by decide) | omega)).trans ((mu_ne (by first | assumption | decide | exact xs_ (by decide) | exact xc_ (by decide) | exact x31_ (by decide) | omega)).trans ((mu_ne (by first | assumption | decide | exact xs_ (by decide) | exact xc_ (by decide) | exact x31_ (by decide) | omega)).trans (rfl)))
  rw [e11] at o10 ⊢
  clear e11
  refine z_inv3 hM dX6_copyLane_17 vl_RX6_173 rfl rfl rfl (Nat.le_of_ble_eq_true rfl) (Nat.le_of_ble_eq_true rfl) ?_
  refine y_set (by first | assumption | decide | exact xs_ (by decide) | exact xc_ (by decide) | exact x31_ (by decide) | omega) (by first | assumption | decide | exact xs_ (by decide) | exact xc_ (by decide) | exact x31_ (by decide) | omega) ⟨fun h => by omega, fun h => by omega⟩ ?_
  obtain ⟨ρ12, e_ρ12⟩ : ∃ zz_, zz_ = mu ρ8 31 0 ((22 * m) + 2) (V 7 l 3) := ⟨_, rfl⟩
  rw [← e_ρ12]
  have Sρ12 : SB t σ0 (mu (mu (mu V 7 m 1 (V 7 l 1)) 7 m 2 (V 7 l 2)) 7 m 3 (V 7 l 3)) ρ12 := by rw [e_ρ12, show ((22 * m) + 2) = 22 * m + 2 from by omega]; exact Sρ8.p7 (by first | assumption | decide | exact xs_ (by decide) | exact xc_ (by decide) | exact x31_ (by decide) | omega) (by first | assumption | decide | exact xs_ (by decide) | exact xc_ (by decide) | exact x31_ (by decide) | omega) (by first | assumption | decide | exact xs_ (by decide) | exact xc_ (by decide) | exact x31_ (by decide) | omega)
  clear Sρ8
  have r16a_ρ12 : ρ12 31 0 (22 * l + 16) = (if V 11 l 3 = 0 then (0 : Int) else 1) := by rw [e_ρ12]; exact (mu_ne (by first | assumption | decide | exact xs_ (by decide) | exact xc_ (by decide) | exact x31_ (by decide) | omega)).trans r16a_ρ8
  clear r16a_ρ8
  have r17b_ρ12 : ρ12 31 0 (22 * l + 17) = 0 := by rw [e_ρ12]; exact (mu_ne (by first | assumption | decide | exact xs_ (by decide) | exact xc_ (by decide) | exact x31_ (by decide) | omega)).trans r17b_ρ8
  clear r17b_ρ8
  have Yρ12 : FX m (mu (mu (mu V 7 m 1 (V 7 l 1)) 7 m 2 (V 7 l 2)) 7 m 3 (V 7 l 3)) ρ12 := (Yρ8).e (fun m a b c => by rw [e_ρ12]; exact mu_ne (by first | assumption | decide | exact xs_ (by decide) | exact xc_ (by decide) | exact x31_ (by decide) | omega)) (fun m y c => mu_ne (by first | assumption | decide | exact xs_ (by decide) | exact xc_ (by decide) | exact x31_ (by decide) | omega))
  clear Yρ8
  have Xρ12 : KX t m (mu (mu (mu V 7 m 1 (V 7 l 1)) 7 m 2 (V 7 l 2)) 7 m 3 (V 7 l 3)) ρ12 := (Xρ8).e (fun m a b c => by rw [e_ρ12]; exact ⟨mu_ne (by first | assumption | decide | exact xs_ (by decide) | exact xc_ (by decide) | exact x31_ (by decide) | omega), mu_ne (by first | assumption | decide | exact xs_ (by decide) | exact xc_ (by decide) | exact x31_ (by decide) | omega)⟩) (fun m c => mu_ne (by first | assumption | decide | exact xs_ (by decide) | exact xc_ (by decide) | exact x31_ (by decide) | omega))
  clear Xρ8 e_ρ12
  refine r_iincE hC (3) dX6_copyLane_20 rfl rfl (by first | assumption | decide | exact xs_ (by decide) | exact xc_ (by decide) | exact x31_ (by decide) | omega) (by unfold inR; omega) ?_
  refine r_goto (tgt := 2) hC dX6_copyLane_23 rfl ?_
  refine r_iload_n hC dX6_copyLane_2 rfl ?_
  refine r_bipush hC dX6_copyLane_3 rfl ?_
  refine r_icmp_ge (tgt := 26) hC dX6_copyLane_5 rfl (fun h13 => by omega) (fun h13 => ?_)
  refine r_aload_n hC dX6_copyLane_8 rfl ?_
  refine r_iload_n hC dX6_copyLane_9 rfl ?_
  refine r_iload_n hC dX6_copyLane_10 rfl ?_
  refine r_aload_n hC dX6_copyLane_11 rfl ?_
  refine r_iload_n hC dX6_copyLane_12 rfl ?_
  refine r_iload_n hC dX6_copyLane_13 rfl ?_
  refine z_inv2 hM dX6_copyLane_14 vl_RX6_80 rfl rfl rfl (Nat.le_of_ble_eq_true rfl) (Nat.le_of_ble_eq_true rfl) ?_
  refine y_of (by first | assumption | decide | exact xs_ (by decide) | exact xc_ (by decide) | exact x31_ (by decide) | omega) (by first | assumption | decide | exact xs_ (by decide) | exact xc_ (by decide) | exact x31_ (by decide) | omega) (by first | assumption | decide | exact xs_ (by decide) | exact xc_ (by decide) | exact x31_ (by decide) | omega) (fun o14 => ?_)
  have e15 : ρ12 31 0 (22 * l + 3) = (V 7 l 4) := (Sρ12.a7 (s := 4) (f := 3) (by first | assumption | decide | exact xs_ (by decide) | exact xc_ (by decide) | exact x31_ (by decide) | omega) (by first | assumption | decide | exact xs_ (by decide) | exact xc_ (by decide) | exact x31_ (by decide) | omega) (by first | assumption | decide | exact xs_ (by decide) | exact xc_ (by decide) | exact x31_ (by decide) | omega)).trans ((mu_ne (by first | assumption | decide | exact xs_ (by decide) | exact xc_ (by decide) | exact x31_ (by decide) | omega)).trans ((mu_ne (by first | assumption | decide | exact xs_ (by decide) | exact xc_ (by decide) | exact x31_ (by decide) | omega)).trans ((mu_ne (by first | assumption | decide | exact xs_ (by decide) | exact xc_ (by decide) | exact x31_ (by decide) | omega)).trans (rfl))))
  rw [e15] at o14 ⊢
  clear e15
  refine z_inv3 hM dX6_copyLane_17 vl_RX6_173 rfl rfl rfl (Nat.le_of_ble_eq_true rfl) (Nat.le_of_ble_eq_true rfl) ?_
  refine y_set (by first | assumption | decide | exact xs_ (by decide) | exact xc_ (by decide) | exact x31_ (by decide) | omega) (by first | assumption | decide | exact xs_ (by decide) | exact xc_ (by decide) | exact x31_ (by decide) | omega) ⟨fun h => by omega, fun h => by omega⟩ ?_
  obtain ⟨ρ16, e_ρ16⟩ : ∃ zz_, zz_ = mu ρ12 31 0 ((22 * m) + 3) (V 7 l 4) := ⟨_, rfl⟩
  rw [← e_ρ16]
  have Sρ16 : SB t σ0 (mu (mu (mu (mu V 7 m 1 (V 7 l 1)) 7 m 2 (V 7 l 2)) 7 m 3 (V 7 l 3)) 7 m 4 (V 7 l 4)) ρ16 := by rw [e_ρ16, show ((22 * m) + 3) = 22 * m + 3 from by omega]; exact Sρ12.p7 (by first | assumption | decide | exact xs_ (by decide) | exact xc_ (by decide) | exact x31_ (by decide) | omega) (by first | assumption | decide | exact xs_ (by decide) | exact xc_ (by decide) | exact x31_ (by decide) | omega) (by first | assumption | decide | exact xs_ (by decide) | exact xc_ (by decide) | exact x31_ (by decide) | omega)
  clear Sρ12
  have r16a_ρ16 : ρ16 31 0 (22 * l + 16) = (if V 11 l 3 = 0 then (0 : Int) else 1) := by rw [e_ρ16]; exact (mu_ne (by first | assumption | decide | exact xs_ (by decide) | exact xc_ (by decide) | exact x31_ (by decide) | omega)).trans r16a_ρ12
  clear r16a_ρ12
  have r17b_ρ16 : ρ16 31 0 (22 * l + 17) = 0 := by rw [e_ρ16]; exact (mu_ne (by first | assumption | decide | exact xs_ (by decide) | exact xc_ (by decide) | exact x31_ (by decide) | omega)).trans r17b_ρ12
  clear r17b_ρ12
  have Yρ16 : FX m (mu (mu (mu (mu V 7 m 1 (V 7 l 1)) 7 m 2 (V 7 l 2)) 7 m 3 (V 7 l 3)) 7 m 4 (V 7 l 4)) ρ16 := (Yρ12).e (fun m a b c => by rw [e_ρ16]; exact mu_ne (by first | assumption | decide | exact xs_ (by decide) | exact xc_ (by decide) | exact x31_ (by decide) | omega)) (fun m y c => mu_ne (by first | assumption | decide | exact xs_ (by decide) | exact xc_ (by decide) | exact x31_ (by decide) | omega))
  clear Yρ12
  have Xρ16 : KX t m (mu (mu (mu (mu V 7 m 1 (V 7 l 1)) 7 m 2 (V 7 l 2)) 7 m 3 (V 7 l 3)) 7 m 4 (V 7 l 4)) ρ16 := (Xρ12).e (fun m a b c => by rw [e_ρ16]; exact ⟨mu_ne (by first | assumption | decide | exact xs_ (by decide) | exact xc_ (by decide) | exact x31_ (by decide) | omega), mu_ne (by first | assumption | decide | exact xs_ (by decide) | exact xc_ (by decide) | exact x31_ (by decide) | omega)⟩) (fun m c => mu_ne (by first | assumption | decide | exact xs_ (by decide) | exact xc_ (by decide) | exact x31_ (by decide) | omega))
  clear Xρ12 e_ρ16
  refine r_iincE hC (4) dX6_copyLane_20 rfl rfl (by first | assumption | decide | exact xs_ (by decide) | exact xc_ (by decide) | exact x31_ (by decide) | omega) (by unfold inR; omega) ?_
  refine r_goto (tgt := 2) hC dX6_copyLane_23 rfl ?_
  refine r_iload_n hC dX6_copyLane_2 rfl ?_
  refine r_bipush hC dX6_copyLane_3 rfl ?_
  refine r_icmp_ge (tgt := 26) hC dX6_copyLane_5 rfl (fun h17 => by omega) (fun h17 => ?_)
  refine r_aload_n hC dX6_copyLane_8 rfl ?_
  refine r_iload_n hC dX6_copyLane_9 rfl ?_
  refine r_iload_n hC dX6_copyLane_10 rfl ?_
  refine r_aload_n hC dX6_copyLane_11 rfl ?_
  refine r_iload_n hC dX6_copyLane_12 rfl ?_
  refine r_iload_n hC dX6_copyLane_13 rfl ?_
  refine z_inv2 hM dX6_copyLane_14 vl_RX6_80 rfl rfl rfl (Nat.le_of_ble_eq_true rfl) (Nat.le_of_ble_eq_true rfl) ?_
  refine y_of (by first | assumption | decide | exact xs_ (by decide) | exact xc_ (by decide) | exact x31_ (by decide) | omega) (by first | assumption | decide | exact xs_ (by decide) | exact xc_ (by decide) | exact x31_ (by decide) | omega) (by first | assumption | decide | exact xs_ (by decide) | exact xc_ (by decide) | exact x31_ (by decide) | omega) (fun o18 => ?_)
  have e19 : ρ16 31 0 (22 * l + 4) = (V 7 l 5) := (Sρ16.a7 (s := 5) (f := 4) (by first | assumption | decide | exact xs_ (by decide) | exact xc_ (by decide) | exact x31_ (by decide) | omega) (by first | assumption | decide | exact xs_ (by decide) | exact xc_ (by decide) | exact x31_ (by decide) | omega) (by first | assumption | decide | exact xs_ (by decide) | exact xc_ (by decide) | exact x31_ (by decide) | omega)).trans ((mu_ne (by first | assumption | decide | exact xs_ (by decide) | exact xc_ (by decide) | exact x31_ (by decide) | omega)).trans ((mu_ne (by first | assumption | decide | exact xs_ (by decide) | exact xc_ (by decide) | exact x31_ (by decide) | omega)).trans ((mu_ne (by first | assumption | decide | exact xs_ (by decide) | exact xc_ (by decide) | exact x31_ (by decide) | omega)).trans ((mu_ne (by first | assumption | decide | exact xs_ (by decide) | exact xc_ (by decide) | exact x31_ (by decide) | omega)).trans (rfl)))))
  rw [e19] at o18 ⊢
  clear e19
  refine z_inv3 hM dX6_copyLane_17 vl_RX6_173 rfl rfl rfl (Nat.le_of_ble_eq_true rfl) (Nat.le_of_ble_eq_true rfl) ?_
  refine y_set (by first | assumption | decide | exact xs_ (by decide) | exact xc_ (by decide) | exact x31_ (by decide) | omega) (by first | assumption | decide | exact xs_ (by decide) | exact xc_ (by decide) | exact x31_ (by decide) | omega) ⟨fun h => by omega, fun h => by omega⟩ ?_
  obtain ⟨ρ20, e_ρ20⟩ : ∃ zz_, zz_ = mu ρ16 31 0 ((22 * m) + 4) (V 7 l 5) := ⟨_, rfl⟩
  rw [← e_ρ20]
  have Sρ20 : SB t σ0 (mu (mu (mu (mu (mu V 7 m 1 (V 7 l 1)) 7 m 2 (V 7 l 2)) 7 m 3 (V 7 l 3)) 7 m 4 (V 7 l 4)) 7 m 5 (V 7 l 5)) ρ20 := by rw [e_ρ20, show ((22 * m) + 4) = 22 * m + 4 from by omega]; exact Sρ16.p7 (by first | assumption | decide | exact xs_ (by decide) | exact xc_ (by decide) | exact x31_ (by decide) | omega) (by first | assumption | decide | exact xs_ (by decide) | exact xc_ (by decide) | exact x31_ (by decide) | omega) (by first | assumption | decide | exact xs_ (by decide) | exact xc_ (by decide) | exact x31_ (by decide) | omega)
  clear Sρ16
  have r16a_ρ20 : ρ20 31 0 (22 * l + 16) = (if V 11 l 3 = 0 then (0 : Int) else 1) := by rw [e_ρ20]; exact (mu_ne (by first | assumption | decide | exact xs_ (by decide) | exact xc_ (by decide) | exact x31_ (by decide) | omega)).trans r16a_ρ16
  clear r16a_ρ16
  have r17b_ρ20 : ρ20 31 0 (22 * l + 17) = 0 := by rw [e_ρ20]; exact (mu_ne (by first | assumption | decide | exact xs_ (by decide) | exact xc_ (by decide) | exact x31_ (by decide) | omega)).trans r17b_ρ16
  clear r17b_ρ16
  have Yρ20 : FX m (mu (mu (mu (mu (mu V 7 m 1 (V 7 l 1)) 7 m 2 (V 7 l 2)) 7 m 3 (V 7 l 3)) 7 m 4 (V 7 l 4)) 7 m 5 (V 7 l 5)) ρ20 := (Yρ16).e (fun m a b c => by rw [e_ρ20]; exact mu_ne (by first | assumption | decide | exact xs_ (by decide) | exact xc_ (by decide) | exact x31_ (by decide) | omega)) (fun m y c => mu_ne (by first | assumption | decide | exact xs_ (by decide) | exact xc_ (by decide) | exact x31_ (by decide) | omega))
  clear Yρ16
  have Xρ20 : KX t m (mu (mu (mu (mu (mu V 7 m 1 (V 7 l 1)) 7 m 2 (V 7 l 2)) 7 m 3 (V 7 l 3)) 7 m 4 (V 7 l 4)) 7 m 5 (V 7 l 5)) ρ20 := (Xρ16).e (fun m a b c => by rw [e_ρ20]; exact ⟨mu_ne (by first | assumption | decide | exact xs_ (by decide) | exact xc_ (by decide) | exact x31_ (by decide) | omega), mu_ne (by first | assumption | decide | exact xs_ (by decide) | exact xc_ (by decide) | exact x31_ (by decide) | omega)⟩) (fun m c => mu_ne (by first | assumption | decide | exact xs_ (by decide) | exact xc_ (by decide) | exact x31_ (by decide) | omega))
  clear Xρ16 e_ρ20
  refine r_iincE hC (5) dX6_copyLane_20 rfl rfl (by first | assumption | decide | exact xs_ (by decide) | exact xc_ (by decide) | exact x31_ (by decide) | omega) (by unfold inR; omega) ?_
  show K _ [_, _, _, _] _ _
  refine r_goto (tgt := 2) hC dX6_copyLane_23 rfl ?_
  refine r_iload_n hC dX6_copyLane_2 rfl ?_
  refine r_bipush hC dX6_copyLane_3 rfl ?_
  refine r_icmp_ge (tgt := 26) hC dX6_copyLane_5 rfl (fun h21 => by omega) (fun h21 => ?_)
  refine r_aload_n hC dX6_copyLane_8 rfl ?_
  refine r_iload_n hC dX6_copyLane_9 rfl ?_
  refine r_iload_n hC dX6_copyLane_10 rfl ?_
  refine r_aload_n hC dX6_copyLane_11 rfl ?_
  refine r_iload_n hC dX6_copyLane_12 rfl ?_
  refine r_iload_n hC dX6_copyLane_13 rfl ?_
  refine z_inv2 hM dX6_copyLane_14 vl_RX6_80 rfl rfl rfl (Nat.le_of_ble_eq_true rfl) (Nat.le_of_ble_eq_true rfl) ?_
  refine y_of (by first | assumption | decide | exact xs_ (by decide) | exact xc_ (by decide) | exact x31_ (by decide) | omega) (by first | assumption | decide | exact xs_ (by decide) | exact xc_ (by decide) | exact x31_ (by decide) | omega) (by first | assumption | decide | exact xs_ (by decide) | exact xc_ (by decide) | exact x31_ (by decide) | omega) (fun o22 => ?_)
  have e23 : ρ20 31 0 (22 * l + 5) = (V 7 l 6) := (Sρ20.a7 (s := 6) (f := 5) (by first | assumption | decide | exact xs_ (by decide) | exact xc_ (by decide) | exact x31_ (by decide) | omega) (by first | assumption | decide | exact xs_ (by decide) | exact xc_ (by decide) | exact x31_ (by decide) | omega) (by first | assumption | decide | exact xs_ (by decide) | exact xc_ (by decide) | exact x31_ (by decide) | omega)).trans ((mu_ne (by first | assumption | decide | exact xs_ (by decide) | exact xc_ (by decide) | exact x31_ (by decide) | omega)).trans ((mu_ne (by first | assumption | decide | exact xs_ (by decide) | exact xc_ (by decide) | exact x31_ (by decide) | omega)).trans ((mu_ne (by first | assumption | decide | exact xs_ (by decide) | exact xc_ (by decide) | exact x31_ (by decide) | omega)).trans ((mu_ne (by first | assumption | decide | exact xs_ (by decide) | exact xc_ (by decide) | exact x31_ (by decide) | omega)).trans ((mu_ne (by first | assumption | decide | exact xs_ (by decide) | exact xc_ (by decide) | exact x31_ (by decide) | omega)).trans (rfl))))))
  rw [e23] at o22 ⊢
  clear e23
  have qo22 : 0 ≤ (V 7 l 6) ∧ (V 7 l 6) ≤ 121 := o22.1 (by first | assumption | decide | exact xs_ (by decide) | exact xc_ (by decide) | exact x31_ (by decide) | omega)
  refine z_inv3 hM dX6_copyLane_17 vl_RX6_173 rfl rfl rfl (Nat.le_of_ble_eq_true rfl) (Nat.le_of_ble_eq_true rfl) ?_
  refine y_set (by first | assumption | decide | exact xs_ (by decide) | exact xc_ (by decide) | exact x31_ (by decide) | omega) (by first | assumption | decide | exact xs_ (by decide) | exact xc_ (by decide) | exact x31_ (by decide) | omega) ⟨fun h => by omega, fun h => by omega⟩ ?_
  obtain ⟨ρ24, e_ρ24⟩ : ∃ zz_, zz_ = mu ρ20 31 0 ((22 * m) + 5) (V 7 l 6) := ⟨_, rfl⟩
  rw [← e_ρ24]
  have Sρ24 : SB t σ0 (mu (mu (mu (mu (mu (mu V 7 m 1 (V 7 l 1)) 7 m 2 (V 7 l 2)) 7 m 3 (V 7 l 3)) 7 m 4 (V 7 l 4)) 7 m 5 (V 7 l 5)) 7 m 6 (V 7 l 6)) ρ24 := by rw [e_ρ24, show ((22 * m) + 5) = 22 * m + 5 from by omega]; exact Sρ20.p7 (by first | assumption | decide | exact xs_ (by decide) | exact xc_ (by decide) | exact x31_ (by decide) | omega) (by first | assumption | decide | exact xs_ (by decide) | exact xc_ (by decide) | exact x31_ (by decide) | omega) (by first | assumption | decide | exact xs_ (by decide) | exact xc_ (by decide) | exact x31_ (by decide) | omega)
  clear Sρ20
  have r16a_ρ24 : ρ24 31 0 (22 * l + 16) = (if V 11 l 3 = 0 then (0 : Int) else 1) := by rw [e_ρ24]; exact (mu_ne (by first | assumption | decide | exact xs_ (by decide) | exact xc_ (by decide) | exact x31_ (by decide) | omega)).trans r16a_ρ20
  clear r16a_ρ20
  have r17b_ρ24 : ρ24 31 0 (22 * l + 17) = 0 := by rw [e_ρ24]; exact (mu_ne (by first | assumption | decide | exact xs_ (by decide) | exact xc_ (by decide) | exact x31_ (by decide) | omega)).trans r17b_ρ20
  clear r17b_ρ20
  have Yρ24 : FX m (mu (mu (mu (mu (mu (mu V 7 m 1 (V 7 l 1)) 7 m 2 (V 7 l 2)) 7 m 3 (V 7 l 3)) 7 m 4 (V 7 l 4)) 7 m 5 (V 7 l 5)) 7 m 6 (V 7 l 6)) ρ24 := (Yρ20).e (fun m a b c => by rw [e_ρ24]; exact mu_ne (by first | assumption | decide | exact xs_ (by decide) | exact xc_ (by decide) | exact x31_ (by decide) | omega)) (fun m y c => mu_ne (by first | assumption | decide | exact xs_ (by decide) | exact xc_ (by decide) | exact x31_ (by decide) | omega))
  clear Yρ20
  have Xρ24 : KX t m (mu (mu (mu (mu (mu (mu V 7 m 1 (V 7 l 1)) 7 m 2 (V 7 l 2)) 7 m 3 (V 7 l 3)) 7 m 4 (V 7 l 4)) 7 m 5 (V 7 l 5)) 7 m 6 (V 7 l 6)) ρ24 := (Xρ20).e (fun m a b c => by rw [e_ρ24]; exact ⟨mu_ne (by first | assumption | decide | exact xs_ (by decide) | exact xc_ (by decide) | exact x31_ (by decide) | omega), mu_ne (by first | assumption | decide | exact xs_ (by decide) | exact xc_ (by decide) | exact x31_ (by decide) | omega)⟩) (fun m c => mu_ne (by first | assumption | decide | exact xs_ (by decide) | exact xc_ (by decide) | exact x31_ (by decide) | omega))
  clear Xρ20 e_ρ24
  refine r_iincE hC (6) dX6_copyLane_20 rfl rfl (by first | assumption | decide | exact xs_ (by decide) | exact xc_ (by decide) | exact x31_ (by decide) | omega) (by unfold inR; omega) ?_
  refine r_goto (tgt := 2) hC dX6_copyLane_23 rfl ?_
  refine r_iload_n hC dX6_copyLane_2 rfl ?_
  refine r_bipush hC dX6_copyLane_3 rfl ?_
  refine r_icmp_ge (tgt := 26) hC dX6_copyLane_5 rfl (fun h25 => by omega) (fun h25 => ?_)
  refine r_aload_n hC dX6_copyLane_8 rfl ?_
  refine r_iload_n hC dX6_copyLane_9 rfl ?_
  refine r_iload_n hC dX6_copyLane_10 rfl ?_
  refine r_aload_n hC dX6_copyLane_11 rfl ?_
  refine r_iload_n hC dX6_copyLane_12 rfl ?_
  refine r_iload_n hC dX6_copyLane_13 rfl ?_
  refine z_inv2 hM dX6_copyLane_14 vl_RX6_80 rfl rfl rfl (Nat.le_of_ble_eq_true rfl) (Nat.le_of_ble_eq_true rfl) ?_
  refine y_of (by first | assumption | decide | exact xs_ (by decide) | exact xc_ (by decide) | exact x31_ (by decide) | omega) (by first | assumption | decide | exact xs_ (by decide) | exact xc_ (by decide) | exact x31_ (by decide) | omega) (by first | assumption | decide | exact xs_ (by decide) | exact xc_ (by decide) | exact x31_ (by decide) | omega) (fun o26 => ?_)
  have e27 : ρ24 31 0 (22 * l + 6) = (V 7 l 10) := (Sρ24.a7 (s := 10) (f := 6) (by first | assumption | decide | exact xs_ (by decide) | exact xc_ (by decide) | exact x31_ (by decide) | omega) (by first | assumption | decide | exact xs_ (by decide) | exact xc_ (by decide) | exact x31_ (by decide) | omega) (by first | assumption | decide | exact xs_ (by decide) | exact xc_ (by decide) | exact x31_ (by decide) | omega)).trans ((mu_ne (by first | assumption | decide | exact xs_ (by decide) | exact xc_ (by decide) | exact x31_ (by decide) | omega)).trans ((mu_ne (by first | assumption | decide | exact xs_ (by decide) | exact xc_ (by decide) | exact x31_ (by decide) | omega)).trans ((mu_ne (by first | assumption | decide | exact xs_ (by decide) | exact xc_ (by decide) | exact x31_ (by decide) | omega)).trans ((mu_ne (by first | assumption | decide | exact xs_ (by decide) | exact xc_ (by decide) | exact x31_ (by decide) | omega)).trans ((mu_ne (by first | assumption | decide | exact xs_ (by decide) | exact xc_ (by decide) | exact x31_ (by decide) | omega)).trans ((mu_ne (by first | assumption | decide | exact xs_ (by decide) | exact xc_ (by decide) | exact x31_ (by decide) | omega)).trans (rfl)))))))
  rw [e27] at o26 ⊢
  clear e27
  refine z_inv3 hM dX6_copyLane_17 vl_RX6_173 rfl rfl rfl (Nat.le_of_ble_eq_true rfl) (Nat.le_of_ble_eq_true rfl) ?_
  refine y_set (by first | assumption | decide | exact xs_ (by decide) | exact xc_ (by decide) | exact x31_ (by decide) | omega) (by first | assumption | decide | exact xs_ (by decide) | exact xc_ (by decide) | exact x31_ (by decide) | omega) ⟨fun h => by omega, fun h => by omega⟩ ?_
  obtain ⟨ρ28, e_ρ28⟩ : ∃ zz_, zz_ = mu ρ24 31 0 ((22 * m) + 6) (V 7 l 10) := ⟨_, rfl⟩
  rw [← e_ρ28]
  have Sρ28 : SB t σ0 (mu (mu (mu (mu (mu (mu (mu V 7 m 1 (V 7 l 1)) 7 m 2 (V 7 l 2)) 7 m 3 (V 7 l 3)) 7 m 4 (V 7 l 4)) 7 m 5 (V 7 l 5)) 7 m 6 (V 7 l 6)) 7 m 10 (V 7 l 10)) ρ28 := by rw [e_ρ28, show ((22 * m) + 6) = 22 * m + 6 from by omega]; exact Sρ24.p7 (by first | assumption | decide | exact xs_ (by decide) | exact xc_ (by decide) | exact x31_ (by decide) | omega) (by first | assumption | decide | exact xs_ (by decide) | exact xc_ (by decide) | exact x31_ (by decide) | omega) (by first | assumption | decide | exact xs_ (by decide) | exact xc_ (by decide) | exact x31_ (by decide) | omega)
  clear Sρ24
  have r16a_ρ28 : ρ28 31 0 (22 * l + 16) = (if V 11 l 3 = 0 then (0 : Int) else 1) := by rw [e_ρ28]; exact (mu_ne (by first | assumption | decide | exact xs_ (by decide) | exact xc_ (by decide) | exact x31_ (by decide) | omega)).trans r16a_ρ24
  clear r16a_ρ24
  have r17b_ρ28 : ρ28 31 0 (22 * l + 17) = 0 := by rw [e_ρ28]; exact (mu_ne (by first | assumption | decide | exact xs_ (by decide) | exact xc_ (by decide) | exact x31_ (by decide) | omega)).trans r17b_ρ24
  clear r17b_ρ24
  have Yρ28 : FX m (mu (mu (mu (mu (mu (mu (mu V 7 m 1 (V 7 l 1)) 7 m 2 (V 7 l 2)) 7 m 3 (V 7 l 3)) 7 m 4 (V 7 l 4)) 7 m 5 (V 7 l 5)) 7 m 6 (V 7 l 6)) 7 m 10 (V 7 l 10)) ρ28 := (Yρ24).e (fun m a b c => by rw [e_ρ28]; exact mu_ne (by first | assumption | decide | exact xs_ (by decide) | exact xc_ (by decide) | exact x31_ (by decide) | omega)) (fun m y c => mu_ne (by first | assumption | decide | exact xs_ (by decide) | exact xc_ (by decide) | exact x31_ (by decide) | omega))
  clear Yρ24
  have Xρ28 : KX t m (mu (mu (mu (mu (mu (mu (mu V 7 m 1 (V 7 l 1)) 7 m 2 (V 7 l 2)) 7 m 3 (V 7 l 3)) 7 m 4 (V 7 l 4)) 7 m 5 (V 7 l 5)) 7 m 6 (V 7 l 6)) 7 m 10 (V 7 l 10)) ρ28 := (Xρ24).e (fun m a b c => by rw [e_ρ28]; exact ⟨mu_ne (by first | assumption | decide | exact xs_ (by decide) | exact xc_ (by decide) | exact x31_ (by decide) | omega), mu_ne (by first | assumption | decide | exact xs_ (by decide) | exact xc_ (by decide) | exact x31_ (by decide) | omega)⟩) (fun m c => mu_ne (by first | assumption | decide | exact xs_ (by decide) | exact xc_ (by decide) | exact x31_ (by decide) | omega))
  clear Xρ24 e_ρ28
  refine r_iincE hC (7) dX6_copyLane_20 rfl rfl (by first | assumption | decide | exact xs_ (by decide) | exact xc_ (by decide) | exact x31_ (by decide) | omega) (by unfold inR; omega) ?_
  refine r_goto (tgt := 2) hC dX6_copyLane_23 rfl ?_
  refine r_iload_n hC dX6_copyLane_2 rfl ?_
  refine r_bipush hC dX6_copyLane_3 rfl ?_
  refine r_icmp_ge (tgt := 26) hC dX6_copyLane_5 rfl (fun h29 => by omega) (fun h29 => ?_)
  refine r_aload_n hC dX6_copyLane_8 rfl ?_
  refine r_iload_n hC dX6_copyLane_9 rfl ?_
  refine r_iload_n hC dX6_copyLane_10 rfl ?_
  refine r_aload_n hC dX6_copyLane_11 rfl ?_
  refine r_iload_n hC dX6_copyLane_12 rfl ?_
  refine r_iload_n hC dX6_copyLane_13 rfl ?_
  refine z_inv2 hM dX6_copyLane_14 vl_RX6_80 rfl rfl rfl (Nat.le_of_ble_eq_true rfl) (Nat.le_of_ble_eq_true rfl) ?_
  refine y_ofU (by first | assumption | decide | exact xs_ (by decide) | exact xc_ (by decide) | exact x31_ (by decide) | omega) (by first | assumption | decide | exact xs_ (by decide) | exact xc_ (by decide) | exact x31_ (by decide) | omega) (fun vu30 => ?_)
  refine z_inv3 hM dX6_copyLane_17 vl_RX6_173 rfl rfl rfl (Nat.le_of_ble_eq_true rfl) (Nat.le_of_ble_eq_true rfl) ?_
  refine y_set (by first | assumption | decide | exact xs_ (by decide) | exact xc_ (by decide) | exact x31_ (by decide) | omega) (by first | assumption | decide | exact xs_ (by decide) | exact xc_ (by decide) | exact x31_ (by decide) | omega) ⟨fun h => by omega, fun h => by omega⟩ ?_
  obtain ⟨ρ31, e_ρ31⟩ : ∃ zz_, zz_ = mu ρ28 31 0 ((22 * m) + 7) vu30 := ⟨_, rfl⟩
  rw [← e_ρ31]
  have Sρ31 : SB t σ0 (mu (mu (mu (mu (mu (mu (mu V 7 m 1 (V 7 l 1)) 7 m 2 (V 7 l 2)) 7 m 3 (V 7 l 3)) 7 m 4 (V 7 l 4)) 7 m 5 (V 7 l 5)) 7 m 6 (V 7 l 6)) 7 m 10 (V 7 l 10)) ρ31 := by rw [e_ρ31, show ((22 * m) + 7) = 22 * m + 7 from by omega]; exact Sρ28.px (by first | assumption | decide | exact xs_ (by decide) | exact xc_ (by decide) | exact x31_ (by decide) | omega)
  clear Sρ28
  have r16a_ρ31 : ρ31 31 0 (22 * l + 16) = (if V 11 l 3 = 0 then (0 : Int) else 1) := by rw [e_ρ31]; exact (mu_ne (by first | assumption | decide | exact xs_ (by decide) | exact xc_ (by decide) | exact x31_ (by decide) | omega)).trans r16a_ρ28
  clear r16a_ρ28
  have r17b_ρ31 : ρ31 31 0 (22 * l + 17) = 0 := by rw [e_ρ31]; exact (mu_ne (by first | assumption | decide | exact xs_ (by decide) | exact xc_ (by decide) | exact x31_ (by decide) | omega)).trans r17b_ρ28
  clear r17b_ρ28
  have Yρ31 : FX m (mu (mu (mu (mu (mu (mu (mu V 7 m 1 (V 7 l 1)) 7 m 2 (V 7 l 2)) 7 m 3 (V 7 l 3)) 7 m 4 (V 7 l 4)) 7 m 5 (V 7 l 5)) 7 m 6 (V 7 l 6)) 7 m 10 (V 7 l 10)) ρ31 := (Yρ28).e (fun m a b c => by rw [e_ρ31]; exact mu_ne (by first | assumption | decide | exact xs_ (by decide) | exact xc_ (by decide) | exact x31_ (by decide) | omega)) (fun m y c => rfl)
  clear Yρ28
  have Xρ31 : KX t m (mu (mu (mu (mu (mu (mu (mu V 7 m 1 (V 7 l 1)) 7 m 2 (V 7 l 2)) 7 m 3 (V 7 l 3)) 7 m 4 (V 7 l 4)) 7 m 5 (V 7 l 5)) 7 m 6 (V 7 l 6)) 7 m 10 (V 7 l 10)) ρ31 := (Xρ28).e (fun m a b c => by rw [e_ρ31]; exact ⟨mu_ne (by first | assumption | decide | exact xs_ (by decide) | exact xc_ (by decide) | exact x31_ (by decide) | omega), mu_ne (by first | assumption | decide | exact xs_ (by decide) | exact xc_ (by decide) | exact x31_ (by decide) | omega)⟩) (fun m c => rfl)
  clear Xρ28 e_ρ31
  refine r_iincE hC (8) dX6_copyLane_20 rfl rfl (by first | assumption | decide | exact xs_ (by decide) | exact xc_ (by decide) | exact x31_ (by decide) | omega) (by unfold inR; omega) ?_
  show K _ [_, _, _, _] _ _
  refine r_goto (tgt := 2) hC dX6_copyLane_23 rfl ?_
  refine r_iload_n hC dX6_copyLane_2 rfl ?_
  refine r_bipush hC dX6_copyLane_3 rfl ?_
  refine r_icmp_ge (tgt := 26) hC dX6_copyLane_5 rfl (fun h32 => by omega) (fun h32 => ?_)
  refine r_aload_n hC dX6_copyLane_8 rfl ?_
  refine r_iload_n hC dX6_copyLane_9 rfl ?_
  refine r_iload_n hC dX6_copyLane_10 rfl ?_
  refine r_aload_n hC dX6_copyLane_11 rfl ?_
  refine r_iload_n hC dX6_copyLane_12 rfl ?_
  refine r_iload_n hC dX6_copyLane_13 rfl ?_
  refine z_inv2 hM dX6_copyLane_14 vl_RX6_80 rfl rfl rfl (Nat.le_of_ble_eq_true rfl) (Nat.le_of_ble_eq_true rfl) ?_
  refine y_of (by first | assumption | decide | exact xs_ (by decide) | exact xc_ (by decide) | exact x31_ (by decide) | omega) (by first | assumption | decide | exact xs_ (by decide) | exact xc_ (by decide) | exact x31_ (by decide) | omega) (by first | assumption | decide | exact xs_ (by decide) | exact xc_ (by decide) | exact x31_ (by decide) | omega) (fun o33 => ?_)
  have e34 : ρ31 31 0 (22 * l + 8) = (V 7 l 12) := (Sρ31.a7 (s := 12) (f := 8) (by first | assumption | decide | exact xs_ (by decide) | exact xc_ (by decide) | exact x31_ (by decide) | omega) (by first | assumption | decide | exact xs_ (by decide) | exact xc_ (by decide) | exact x31_ (by decide) | omega) (by first | assumption | decide | exact xs_ (by decide) | exact xc_ (by decide) | exact x31_ (by decide) | omega)).trans ((mu_ne (by first | assumption | decide | exact xs_ (by decide) | exact xc_ (by decide) | exact x31_ (by decide) | omega)).trans ((mu_ne (by first | assumption | decide | exact xs_ (by decide) | exact xc_ (by decide) | exact x31_ (by decide) | omega)).trans ((mu_ne (by first | assumption | decide | exact xs_ (by decide) | exact xc_ (by decide) | exact x31_ (by decide) | omega)).trans ((mu_ne (by first | assumption | decide | exact xs_ (by decide) | exact xc_ (by decide) | exact x31_ (by decide) | omega)).trans ((mu_ne (by first | assumption | decide | exact xs_ (by decide) | exact xc_ (by decide) | exact x31_ (by decide) | omega)).trans ((mu_ne (by first | assumption | decide | exact xs_ (by decide) | exact xc_ (by decide) | exact x31_ (by decide) | omega)).trans ((mu_ne (by first | assumption | decide | exact xs_ (by decide) | exact xc_ (by decide) | exact x31_ (by decide) | omega)).trans (rfl))))))))
  rw [e34] at o33 ⊢
  clear e34
  refine z_inv3 hM dX6_copyLane_17 vl_RX6_173 rfl rfl rfl (Nat.le_of_ble_eq_true rfl) (Nat.le_of_ble_eq_true rfl) ?_
  refine y_set (by first | assumption | decide | exact xs_ (by decide) | exact xc_ (by decide) | exact x31_ (by decide) | omega) (by first | assumption | decide | exact xs_ (by decide) | exact xc_ (by decide) | exact x31_ (by decide) | omega) ⟨fun h => by omega, fun h => by omega⟩ ?_
  obtain ⟨ρ35, e_ρ35⟩ : ∃ zz_, zz_ = mu ρ31 31 0 ((22 * m) + 8) (V 7 l 12) := ⟨_, rfl⟩
  rw [← e_ρ35]
  have Sρ35 : SB t σ0 (mu (mu (mu (mu (mu (mu (mu (mu V 7 m 1 (V 7 l 1)) 7 m 2 (V 7 l 2)) 7 m 3 (V 7 l 3)) 7 m 4 (V 7 l 4)) 7 m 5 (V 7 l 5)) 7 m 6 (V 7 l 6)) 7 m 10 (V 7 l 10)) 7 m 12 (V 7 l 12)) ρ35 := by rw [e_ρ35, show ((22 * m) + 8) = 22 * m + 8 from by omega]; exact Sρ31.p7 (by first | assumption | decide | exact xs_ (by decide) | exact xc_ (by decide) | exact x31_ (by decide) | omega) (by first | assumption | decide | exact xs_ (by decide) | exact xc_ (by decide) | exact x31_ (by decide) | omega) (by first | assumption | decide | exact xs_ (by decide) | exact xc_ (by decide) | exact x31_ (by decide) | omega)
  clear Sρ31
  have r16a_ρ35 : ρ35 31 0 (22 * l + 16) = (if V 11 l 3 = 0 then (0 : Int) else 1) := by rw [e_ρ35]; exact (mu_ne (by first | assumption | decide | exact xs_ (by decide) | exact xc_ (by decide) | exact x31_ (by decide) | omega)).trans r16a_ρ31
  clear r16a_ρ31
  have r17b_ρ35 : ρ35 31 0 (22 * l + 17) = 0 := by rw [e_ρ35]; exact (mu_ne (by first | assumption | decide | exact xs_ (by decide) | exact xc_ (by decide) | exact x31_ (by decide) | omega)).trans r17b_ρ31
  clear r17b_ρ31
  have Yρ35 : FX m (mu (mu (mu (mu (mu (mu (mu (mu V 7 m 1 (V 7 l 1)) 7 m 2 (V 7 l 2)) 7 m 3 (V 7 l 3)) 7 m 4 (V 7 l 4)) 7 m 5 (V 7 l 5)) 7 m 6 (V 7 l 6)) 7 m 10 (V 7 l 10)) 7 m 12 (V 7 l 12)) ρ35 := (Yρ31).e (fun m a b c => by rw [e_ρ35]; exact mu_ne (by first | assumption | decide | exact xs_ (by decide) | exact xc_ (by decide) | exact x31_ (by decide) | omega)) (fun m y c => mu_ne (by first | assumption | decide | exact xs_ (by decide) | exact xc_ (by decide) | exact x31_ (by decide) | omega))
  clear Yρ31
  have Xρ35 : KX t m (mu (mu (mu (mu (mu (mu (mu (mu V 7 m 1 (V 7 l 1)) 7 m 2 (V 7 l 2)) 7 m 3 (V 7 l 3)) 7 m 4 (V 7 l 4)) 7 m 5 (V 7 l 5)) 7 m 6 (V 7 l 6)) 7 m 10 (V 7 l 10)) 7 m 12 (V 7 l 12)) ρ35 := (Xρ31).e (fun m a b c => by rw [e_ρ35]; exact ⟨mu_ne (by first | assumption | decide | exact xs_ (by decide) | exact xc_ (by decide) | exact x31_ (by decide) | omega), mu_ne (by first | assumption | decide | exact xs_ (by decide) | exact xc_ (by decide) | exact x31_ (by decide) | omega)⟩) (fun m c => mu_ne (by first | assumption | decide | exact xs_ (by decide) | exact xc_ (by decide) | exact x31_ (by decide) | omega))
  clear Xρ31 e_ρ35
  refine r_iincE hC (9) dX6_copyLane_20 rfl rfl (by first | assumption | decide | exact xs_ (by decide) | exact xc_ (by decide) | exact x31_ (by decide) | omega) (by unfold inR; omega) ?_
  refine r_goto (tgt := 2) hC dX6_copyLane_23 rfl ?_
  refine r_iload_n hC dX6_copyLane_2 rfl ?_
  refine r_bipush hC dX6_copyLane_3 rfl ?_
  refine r_icmp_ge (tgt := 26) hC dX6_copyLane_5 rfl (fun h36 => by omega) (fun h36 => ?_)
  refine r_aload_n hC dX6_copyLane_8 rfl ?_
  refine r_iload_n hC dX6_copyLane_9 rfl ?_
  refine r_iload_n hC dX6_copyLane_10 rfl ?_
  refine r_aload_n hC dX6_copyLane_11 rfl ?_
  refine r_iload_n hC dX6_copyLane_12 rfl ?_
  refine r_iload_n hC dX6_copyLane_13 rfl ?_
  refine z_inv2 hM dX6_copyLane_14 vl_RX6_80 rfl rfl rfl (Nat.le_of_ble_eq_true rfl) (Nat.le_of_ble_eq_true rfl) ?_
  refine y_of (by first | assumption | decide | exact xs_ (by decide) | exact xc_ (by decide) | exact x31_ (by decide) | omega) (by first | assumption | decide | exact xs_ (by decide) | exact xc_ (by decide) | exact x31_ (by decide) | omega) (by first | assumption | decide | exact xs_ (by decide) | exact xc_ (by decide) | exact x31_ (by decide) | omega) (fun o37 => ?_)
  have e38 : ρ35 31 0 (22 * l + 9) = (V 7 l 13) := (Sρ35.a7 (s := 13) (f := 9) (by first | assumption | decide | exact xs_ (by decide) | exact xc_ (by decide) | exact x31_ (by decide) | omega) (by first | assumption | decide | exact xs_ (by decide) | exact xc_ (by decide) | exact x31_ (by decide) | omega) (by first | assumption | decide | exact xs_ (by decide) | exact xc_ (by decide) | exact x31_ (by decide) | omega)).trans ((mu_ne (by first | assumption | decide | exact xs_ (by decide) | exact xc_ (by decide) | exact x31_ (by decide) | omega)).trans ((mu_ne (by first | assumption | decide | exact xs_ (by decide) | exact xc_ (by decide) | exact x31_ (by decide) | omega)).trans ((mu_ne (by first | assumption | decide | exact xs_ (by decide) | exact xc_ (by decide) | exact x31_ (by decide) | omega)).trans ((mu_ne (by first | assumption | decide | exact xs_ (by decide) | exact xc_ (by decide) | exact x31_ (by decide) | omega)).trans ((mu_ne (by first | assumption | decide | exact xs_ (by decide) | exact xc_ (by decide) | exact x31_ (by decide) | omega)).trans ((mu_ne (by first | assumption | decide | exact xs_ (by decide) | exact xc_ (by decide) | exact x31_ (by decide) | omega)).trans ((mu_ne (by first | assumption | decide | exact xs_ (by decide) | exact xc_ (by decide) | exact x31_ (by decide) | omega)).trans ((mu_ne (by first | assumption | decide | exact xs_ (by decide) | exact xc_ (by decide) | exact x31_ (by decide) | omega)).trans (rfl)))))))))
  rw [e38] at o37 ⊢
  clear e38
  refine z_inv3 hM dX6_copyLane_17 vl_RX6_173 rfl rfl rfl (Nat.le_of_ble_eq_true rfl) (Nat.le_of_ble_eq_true rfl) ?_
  refine y_set (by first | assumption | decide | exact xs_ (by decide) | exact xc_ (by decide) | exact x31_ (by decide) | omega) (by first | assumption | decide | exact xs_ (by decide) | exact xc_ (by decide) | exact x31_ (by decide) | omega) ⟨fun h => by omega, fun h => by omega⟩ ?_
  obtain ⟨ρ39, e_ρ39⟩ : ∃ zz_, zz_ = mu ρ35 31 0 ((22 * m) + 9) (V 7 l 13) := ⟨_, rfl⟩
  rw [← e_ρ39]
  have Sρ39 : SB t σ0 (mu (mu (mu (mu (mu (mu (mu (mu (mu V 7 m 1 (V 7 l 1)) 7 m 2 (V 7 l 2)) 7 m 3 (V 7 l 3)) 7 m 4 (V 7 l 4)) 7 m 5 (V 7 l 5)) 7 m 6 (V 7 l 6)) 7 m 10 (V 7 l 10)) 7 m 12 (V 7 l 12)) 7 m 13 (V 7 l 13)) ρ39 := by rw [e_ρ39, show ((22 * m) + 9) = 22 * m + 9 from by omega]; exact Sρ35.p7 (by first | assumption | decide | exact xs_ (by decide) | exact xc_ (by decide) | exact x31_ (by decide) | omega) (by first | assumption | decide | exact xs_ (by decide) | exact xc_ (by decide) | exact x31_ (by decide) | omega) (by first | assumption | decide | exact xs_ (by decide) | exact xc_ (by decide) | exact x31_ (by decide) | omega)
  clear Sρ35
  have r16a_ρ39 : ρ39 31 0 (22 * l + 16) = (if V 11 l 3 = 0 then (0 : Int) else 1) := by rw [e_ρ39]; exact (mu_ne (by first | assumption | decide | exact xs_ (by decide) | exact xc_ (by decide) | exact x31_ (by decide) | omega)).trans r16a_ρ35
  clear r16a_ρ35
  have r17b_ρ39 : ρ39 31 0 (22 * l + 17) = 0 := by rw [e_ρ39]; exact (mu_ne (by first | assumption | decide | exact xs_ (by decide) | exact xc_ (by decide) | exact x31_ (by decide) | omega)).trans r17b_ρ35
  clear r17b_ρ35
  have Yρ39 : FX m (mu (mu (mu (mu (mu (mu (mu (mu (mu V 7 m 1 (V 7 l 1)) 7 m 2 (V 7 l 2)) 7 m 3 (V 7 l 3)) 7 m 4 (V 7 l 4)) 7 m 5 (V 7 l 5)) 7 m 6 (V 7 l 6)) 7 m 10 (V 7 l 10)) 7 m 12 (V 7 l 12)) 7 m 13 (V 7 l 13)) ρ39 := (Yρ35).e (fun m a b c => by rw [e_ρ39]; exact mu_ne (by first | assumption | decide | exact xs_ (by decide) | exact xc_ (by decide) | exact x31_ (by decide) | omega)) (fun m y c => mu_ne (by first | assumption | decide | exact xs_ (by decide) | exact xc_ (by decide) | exact x31_ (by decide) | omega))
  clear Yρ35
  have Xρ39 : KX t m (mu (mu (mu (mu (mu (mu (mu (mu (mu V 7 m 1 (V 7 l 1)) 7 m 2 (V 7 l 2)) 7 m 3 (V 7 l 3)) 7 m 4 (V 7 l 4)) 7 m 5 (V 7 l 5)) 7 m 6 (V 7 l 6)) 7 m 10 (V 7 l 10)) 7 m 12 (V 7 l 12)) 7 m 13 (V 7 l 13)) ρ39 := (Xρ35).e (fun m a b c => by rw [e_ρ39]; exact ⟨mu_ne (by first | assumption | decide | exact xs_ (by decide) | exact xc_ (by decide) | exact x31_ (by decide) | omega), mu_ne (by first | assumption | decide | exact xs_ (by decide) | exact xc_ (by decide) | exact x31_ (by decide) | omega)⟩) (fun m c => mu_ne (by first | assumption | decide | exact xs_ (by decide) | exact xc_ (by decide) | exact x31_ (by decide) | omega))
  clear Xρ35 e_ρ39
  refine r_iincE hC (10) dX6_copyLane_20 rfl rfl (by first | assumption | decide | exact xs_ (by decide) | exact xc_ (by decide) | exact x31_ (by decide) | omega) (by unfold inR; omega) ?_
  refine r_goto (tgt := 2) hC dX6_copyLane_23 rfl ?_
  refine r_iload_n hC dX6_copyLane_2 rfl ?_
  refine r_bipush hC dX6_copyLane_3 rfl ?_
  refine r_icmp_ge (tgt := 26) hC dX6_copyLane_5 rfl (fun h40 => by omega) (fun h40 => ?_)
  refine r_aload_n hC dX6_copyLane_8 rfl ?_
  refine r_iload_n hC dX6_copyLane_9 rfl ?_
  refine r_iload_n hC dX6_copyLane_10 rfl ?_
  refine r_aload_n hC dX6_copyLane_11 rfl ?_
  refine r_iload_n hC dX6_copyLane_12 rfl ?_
  refine r_iload_n hC dX6_copyLane_13 rfl ?_
  refine z_inv2 hM dX6_copyLane_14 vl_RX6_80 rfl rfl rfl (Nat.le_of_ble_eq_true rfl) (Nat.le_of_ble_eq_true rfl) ?_
  refine y_of (by first | assumption | decide | exact xs_ (by decide) | exact xc_ (by decide) | exact x31_ (by decide) | omega) (by first | assumption | decide | exact xs_ (by decide) | exact xc_ (by decide) | exact x31_ (by decide) | omega) (by first | assumption | decide | exact xs_ (by decide) | exact xc_ (by decide) | exact x31_ (by decide) | omega) (fun o41 => ?_)
  have e42 : ρ39 31 0 (22 * l + 10) = (V 7 l 14) := (Sρ39.a7 (s := 14) (f := 10) (by first | assumption | decide | exact xs_ (by decide) | exact xc_ (by decide) | exact x31_ (by decide) | omega) (by first | assumption | decide | exact xs_ (by decide) | exact xc_ (by decide) | exact x31_ (by decide) | omega) (by first | assumption | decide | exact xs_ (by decide) | exact xc_ (by decide) | exact x31_ (by decide) | omega)).trans ((mu_ne (by first | assumption | decide | exact xs_ (by decide) | exact xc_ (by decide) | exact x31_ (by decide) | omega)).trans ((mu_ne (by first | assumption | decide | exact xs_ (by decide) | exact xc_ (by decide) | exact x31_ (by decide) | omega)).trans ((mu_ne (by first | assumption | decide | exact xs_ (by decide) | exact xc_ (by decide) | exact x31_ (by decide) | omega)).trans ((mu_ne (by first | assumption | decide | exact xs_ (by decide) | exact xc_ (by decide) | exact x31_ (by decide) | omega)).trans ((mu_ne (by first | assumption | decide | exact xs_ (by decide) | exact xc_ (by decide) | exact x31_ (by decide) | omega)).trans ((mu_ne (by first | assumption | decide | exact xs_ (by decide) | exact xc_ (by decide) | exact x31_ (by decide) | omega)).trans ((mu_ne (by first | assumption | decide | exact xs_ (by decide) | exact xc_ (by decide) | exact x31_ (by decide) | omega)).trans ((mu_ne (by first | assumption | decide | exact xs_ (by decide) | exact xc_ (by decide) | exact x31_ (by decide) | omega)).trans ((mu_ne (by first | assumption | decide | exact xs_ (by decide) | exact xc_ (by decide) | exact x31_ (by decide) | omega)).trans (rfl))))))))))
  rw [e42] at o41 ⊢
  clear e42
  refine z_inv3 hM dX6_copyLane_17 vl_RX6_173 rfl rfl rfl (Nat.le_of_ble_eq_true rfl) (Nat.le_of_ble_eq_true rfl) ?_
  refine y_set (by first | assumption | decide | exact xs_ (by decide) | exact xc_ (by decide) | exact x31_ (by decide) | omega) (by first | assumption | decide | exact xs_ (by decide) | exact xc_ (by decide) | exact x31_ (by decide) | omega) ⟨fun h => by omega, fun h => by omega⟩ ?_
  obtain ⟨ρ43, e_ρ43⟩ : ∃ zz_, zz_ = mu ρ39 31 0 ((22 * m) + 10) (V 7 l 14) := ⟨_, rfl⟩
  rw [← e_ρ43]
  have Sρ43 : SB t σ0 (mu (mu (mu (mu (mu (mu (mu (mu (mu (mu V 7 m 1 (V 7 l 1)) 7 m 2 (V 7 l 2)) 7 m 3 (V 7 l 3)) 7 m 4 (V 7 l 4)) 7 m 5 (V 7 l 5)) 7 m 6 (V 7 l 6)) 7 m 10 (V 7 l 10)) 7 m 12 (V 7 l 12)) 7 m 13 (V 7 l 13)) 7 m 14 (V 7 l 14)) ρ43 := by rw [e_ρ43, show ((22 * m) + 10) = 22 * m + 10 from by omega]; exact Sρ39.p7 (by first | assumption | decide | exact xs_ (by decide) | exact xc_ (by decide) | exact x31_ (by decide) | omega) (by first | assumption | decide | exact xs_ (by decide) | exact xc_ (by decide) | exact x31_ (by decide) | omega) (by first | assumption | decide | exact xs_ (by decide) | exact xc_ (by decide) | exact x31_ (by decide) | omega)
  clear Sρ39
  have r16a_ρ43 : ρ43 31 0 (22 * l + 16) = (if V 11 l 3 = 0 then (0 : Int) else 1) := by rw [e_ρ43]; exact (mu_ne (by first | assumption | decide | exact xs_ (by decide) | exact xc_ (by decide) | exact x31_ (by decide) | omega)).trans r16a_ρ39
  clear r16a_ρ39
  have r17b_ρ43 : ρ43 31 0 (22 * l + 17) = 0 := by rw [e_ρ43]; exact (mu_ne (by first | assumption | decide | exact xs_ (by decide) | exact xc_ (by decide) | exact x31_ (by decide) | omega)).trans r17b_ρ39
  clear r17b_ρ39
  have Yρ43 : FX m (mu (mu (mu (mu (mu (mu (mu (mu (mu (mu V 7 m 1 (V 7 l 1)) 7 m 2 (V 7 l 2)) 7 m 3 (V 7 l 3)) 7 m 4 (V 7 l 4)) 7 m 5 (V 7 l 5)) 7 m 6 (V 7 l 6)) 7 m 10 (V 7 l 10)) 7 m 12 (V 7 l 12)) 7 m 13 (V 7 l 13)) 7 m 14 (V 7 l 14)) ρ43 := (Yρ39).e (fun m a b c => by rw [e_ρ43]; exact mu_ne (by first | assumption | decide | exact xs_ (by decide) | exact xc_ (by decide) | exact x31_ (by decide) | omega)) (fun m y c => mu_ne (by first | assumption | decide | exact xs_ (by decide) | exact xc_ (by decide) | exact x31_ (by decide) | omega))
  clear Yρ39
  have Xρ43 : KX t m (mu (mu (mu (mu (mu (mu (mu (mu (mu (mu V 7 m 1 (V 7 l 1)) 7 m 2 (V 7 l 2)) 7 m 3 (V 7 l 3)) 7 m 4 (V 7 l 4)) 7 m 5 (V 7 l 5)) 7 m 6 (V 7 l 6)) 7 m 10 (V 7 l 10)) 7 m 12 (V 7 l 12)) 7 m 13 (V 7 l 13)) 7 m 14 (V 7 l 14)) ρ43 := (Xρ39).e (fun m a b c => by rw [e_ρ43]; exact ⟨mu_ne (by first | assumption | decide | exact xs_ (by decide) | exact xc_ (by decide) | exact x31_ (by decide) | omega), mu_ne (by first | assumption | decide | exact xs_ (by decide) | exact xc_ (by decide) | exact x31_ (by decide) | omega)⟩) (fun m c => mu_ne (by first | assumption | decide | exact xs_ (by decide) | exact xc_ (by decide) | exact x31_ (by decide) | omega))
  clear Xρ39 e_ρ43
  refine r_iincE hC (11) dX6_copyLane_20 rfl rfl (by first | assumption | decide | exact xs_ (by decide) | exact xc_ (by decide) | exact x31_ (by decide) | omega) (by unfold inR; omega) ?_
  show K _ [_, _, _, _] _ _
  refine r_goto (tgt := 2) hC dX6_copyLane_23 rfl ?_
  refine r_iload_n hC dX6_copyLane_2 rfl ?_
  refine r_bipush hC dX6_copyLane_3 rfl ?_
  refine r_icmp_ge (tgt := 26) hC dX6_copyLane_5 rfl (fun h44 => by omega) (fun h44 => ?_)
  refine r_aload_n hC dX6_copyLane_8 rfl ?_
  refine r_iload_n hC dX6_copyLane_9 rfl ?_
  refine r_iload_n hC dX6_copyLane_10 rfl ?_
  refine r_aload_n hC dX6_copyLane_11 rfl ?_
  refine r_iload_n hC dX6_copyLane_12 rfl ?_
  refine r_iload_n hC dX6_copyLane_13 rfl ?_
  refine z_inv2 hM dX6_copyLane_14 vl_RX6_80 rfl rfl rfl (Nat.le_of_ble_eq_true rfl) (Nat.le_of_ble_eq_true rfl) ?_
  refine y_of (by first | assumption | decide | exact xs_ (by decide) | exact xc_ (by decide) | exact x31_ (by decide) | omega) (by first | assumption | decide | exact xs_ (by decide) | exact xc_ (by decide) | exact x31_ (by decide) | omega) (by first | assumption | decide | exact xs_ (by decide) | exact xc_ (by decide) | exact x31_ (by decide) | omega) (fun o45 => ?_)
  have e46 : ρ43 31 0 (22 * l + 11) = (V 7 l 15) := (Sρ43.a7 (s := 15) (f := 11) (by first | assumption | decide | exact xs_ (by decide) | exact xc_ (by decide) | exact x31_ (by decide) | omega) (by first | assumption | decide | exact xs_ (by decide) | exact xc_ (by decide) | exact x31_ (by decide) | omega) (by first | assumption | decide | exact xs_ (by decide) | exact xc_ (by decide) | exact x31_ (by decide) | omega)).trans ((mu_ne (by first | assumption | decide | exact xs_ (by decide) | exact xc_ (by decide) | exact x31_ (by decide) | omega)).trans ((mu_ne (by first | assumption | decide | exact xs_ (by decide) | exact xc_ (by decide) | exact x31_ (by decide) | omega)).trans ((mu_ne (by first | assumption | decide | exact xs_ (by decide) | exact xc_ (by decide) | exact x31_ (by decide) | omega)).trans ((mu_ne (by first | assumption | decide | exact xs_ (by decide) | exact xc_ (by decide) | exact x31_ (by decide) | omega)).trans ((mu_ne (by first | assumption | decide | exact xs_ (by decide) | exact xc_ (by decide) | exact x31_ (by decide) | omega)).trans ((mu_ne (by first | assumption | decide | exact xs_ (by decide) | exact xc_ (by decide) | exact x31_ (by decide) | omega)).trans ((mu_ne (by first | assumption | decide | exact xs_ (by decide) | exact xc_ (by decide) | exact x31_ (by decide) | omega)).trans ((mu_ne (by first | assumption | decide | exact xs_ (by decide) | exact xc_ (by decide) | exact x31_ (by decide) | omega)).trans ((mu_ne (by first | assumption | decide | exact xs_ (by decide) | exact xc_ (by decide) | exact x31_ (by decide) | omega)).trans ((mu_ne (by first | assumption | decide | exact xs_ (by decide) | exact xc_ (by decide) | exact x31_ (by decide) | omega)).trans (rfl)))))))))))
  rw [e46] at o45 ⊢
  clear e46
  refine z_inv3 hM dX6_copyLane_17 vl_RX6_173 rfl rfl rfl (Nat.le_of_ble_eq_true rfl) (Nat.le_of_ble_eq_true rfl) ?_
  refine y_set (by first | assumption | decide | exact xs_ (by decide) | exact xc_ (by decide) | exact x31_ (by decide) | omega) (by first | assumption | decide | exact xs_ (by decide) | exact xc_ (by decide) | exact x31_ (by decide) | omega) ⟨fun h => by omega, fun h => by omega⟩ ?_
  obtain ⟨ρ47, e_ρ47⟩ : ∃ zz_, zz_ = mu ρ43 31 0 ((22 * m) + 11) (V 7 l 15) := ⟨_, rfl⟩
  rw [← e_ρ47]
  have Sρ47 : SB t σ0 (mu (mu (mu (mu (mu (mu (mu (mu (mu (mu (mu V 7 m 1 (V 7 l 1)) 7 m 2 (V 7 l 2)) 7 m 3 (V 7 l 3)) 7 m 4 (V 7 l 4)) 7 m 5 (V 7 l 5)) 7 m 6 (V 7 l 6)) 7 m 10 (V 7 l 10)) 7 m 12 (V 7 l 12)) 7 m 13 (V 7 l 13)) 7 m 14 (V 7 l 14)) 7 m 15 (V 7 l 15)) ρ47 := by rw [e_ρ47, show ((22 * m) + 11) = 22 * m + 11 from by omega]; exact Sρ43.p7 (by first | assumption | decide | exact xs_ (by decide) | exact xc_ (by decide) | exact x31_ (by decide) | omega) (by first | assumption | decide | exact xs_ (by decide) | exact xc_ (by decide) | exact x31_ (by decide) | omega) (by first | assumption | decide | exact xs_ (by decide) | exact xc_ (by decide) | exact x31_ (by decide) | omega)
  clear Sρ43
  have r16a_ρ47 : ρ47 31 0 (22 * l + 16) = (if V 11 l 3 = 0 then (0 : Int) else 1) := by rw [e_ρ47]; exact (mu_ne (by first | assumption | decide | exact xs_ (by decide) | exact xc_ (by decide) | exact x31_ (by decide) | omega)).trans r16a_ρ43
  clear r16a_ρ43
  have r17b_ρ47 : ρ47 31 0 (22 * l + 17) = 0 := by rw [e_ρ47]; exact (mu_ne (by first | assumption | decide | exact xs_ (by decide) | exact xc_ (by decide) | exact x31_ (by decide) | omega)).trans r17b_ρ43
  clear r17b_ρ43
  have Yρ47 : FX m (mu (mu (mu (mu (mu (mu (mu (mu (mu (mu (mu V 7 m 1 (V 7 l 1)) 7 m 2 (V 7 l 2)) 7 m 3 (V 7 l 3)) 7 m 4 (V 7 l 4)) 7 m 5 (V 7 l 5)) 7 m 6 (V 7 l 6)) 7 m 10 (V 7 l 10)) 7 m 12 (V 7 l 12)) 7 m 13 (V 7 l 13)) 7 m 14 (V 7 l 14)) 7 m 15 (V 7 l 15)) ρ47 := (Yρ43).e (fun m a b c => by rw [e_ρ47]; exact mu_ne (by first | assumption | decide | exact xs_ (by decide) | exact xc_ (by decide) | exact x31_ (by decide) | omega)) (fun m y c => mu_ne (by first | assumption | decide | exact xs_ (by decide) | exact xc_ (by decide) | exact x31_ (by decide) | omega))
  clear Yρ43
  have Xρ47 : KX t m (mu (mu (mu (mu (mu (mu (mu (mu (mu (mu (mu V 7 m 1 (V 7 l 1)) 7 m 2 (V 7 l 2)) 7 m 3 (V 7 l 3)) 7 m 4 (V 7 l 4)) 7 m 5 (V 7 l 5)) 7 m 6 (V 7 l 6)) 7 m 10 (V 7 l 10)) 7 m 12 (V 7 l 12)) 7 m 13 (V 7 l 13)) 7 m 14 (V 7 l 14)) 7 m 15 (V 7 l 15)) ρ47 := (Xρ43).e (fun m a b c => by rw [e_ρ47]; exact ⟨mu_ne (by first | assumption | decide | exact xs_ (by decide) | exact xc_ (by decide) | exact x31_ (by decide) | omega), mu_ne (by first | assumption | decide | exact xs_ (by decide) | exact xc_ (by decide) | exact x31_ (by decide) | omega)⟩) (fun m c => mu_ne (by first | assumption | decide | exact xs_ (by decide) | exact xc_ (by decide) | exact x31_ (by decide) | omega))
  clear Xρ43 e_ρ47
  refine r_iincE hC (12) dX6_copyLane_20 rfl rfl (by first | assumption | decide | exact xs_ (by decide) | exact xc_ (by decide) | exact x31_ (by decide) | omega) (by unfold inR; omega) ?_
  refine r_goto (tgt := 2) hC dX6_copyLane_23 rfl ?_
  refine r_iload_n hC dX6_copyLane_2 rfl ?_
  refine r_bipush hC dX6_copyLane_3 rfl ?_
  refine r_icmp_ge (tgt := 26) hC dX6_copyLane_5 rfl (fun h48 => by omega) (fun h48 => ?_)
  refine r_aload_n hC dX6_copyLane_8 rfl ?_
  refine r_iload_n hC dX6_copyLane_9 rfl ?_
  refine r_iload_n hC dX6_copyLane_10 rfl ?_
  refine r_aload_n hC dX6_copyLane_11 rfl ?_
  refine r_iload_n hC dX6_copyLane_12 rfl ?_
  refine r_iload_n hC dX6_copyLane_13 rfl ?_
  refine z_inv2 hM dX6_copyLane_14 vl_RX6_80 rfl rfl rfl (Nat.le_of_ble_eq_true rfl) (Nat.le_of_ble_eq_true rfl) ?_
  refine y_of (by first | assumption | decide | exact xs_ (by decide) | exact xc_ (by decide) | exact x31_ (by decide) | omega) (by first | assumption | decide | exact xs_ (by decide) | exact xc_ (by decide) | exact x31_ (by decide) | omega) (by first | assumption | decide | exact xs_ (by decide) | exact xc_ (by decide) | exact x31_ (by decide) | omega) (fun o49 => ?_)
  have e50 : ρ47 31 0 (22 * l + 12) = (V 11 l 0) := (Sρ47.a11 (s := 0) (f := 12) (by first | assumption | decide | exact xs_ (by decide) | exact xc_ (by decide) | exact x31_ (by decide) | omega) (by first | assumption | decide | exact xs_ (by decide) | exact xc_ (by decide) | exact x31_ (by decide) | omega) (by first | assumption | decide | exact xs_ (by decide) | exact xc_ (by decide) | exact x31_ (by decide) | omega)).trans ((mu_ne (by first | assumption | decide | exact xs_ (by decide) | exact xc_ (by decide) | exact x31_ (by decide) | omega)).trans ((mu_ne (by first | assumption | decide | exact xs_ (by decide) | exact xc_ (by decide) | exact x31_ (by decide) | omega)).trans ((mu_ne (by first | assumption | decide | exact xs_ (by decide) | exact xc_ (by decide) | exact x31_ (by decide) | omega)).trans ((mu_ne (by first | assumption | decide | exact xs_ (by decide) | exact xc_ (by decide) | exact x31_ (by decide) | omega)).trans ((mu_ne (by first | assumption | decide | exact xs_ (by decide) | exact xc_ (by decide) | exact x31_ (by decide) | omega)).trans ((mu_ne (by first | assumption | decide | exact xs_ (by decide) | exact xc_ (by decide) | exact x31_ (by decide) | omega)).trans ((mu_ne (by first | assumption | decide | exact xs_ (by decide) | exact xc_ (by decide) | exact x31_ (by decide) | omega)).trans ((mu_ne (by first | assumption | decide | exact xs_ (by decide) | exact xc_ (by decide) | exact x31_ (by decide) | omega)).trans ((mu_ne (by first | assumption | decide | exact xs_ (by decide) | exact xc_ (by decide) | exact x31_ (by decide) | omega)).trans ((mu_ne (by first | assumption | decide | exact xs_ (by decide) | exact xc_ (by decide) | exact x31_ (by decide) | omega)).trans ((mu_ne (by first | assumption | decide | exact xs_ (by decide) | exact xc_ (by decide) | exact x31_ (by decide) | omega)).trans (rfl))))))))))))
  rw [e50] at o49 ⊢
  clear e50
  refine z_inv3 hM dX6_copyLane_17 vl_RX6_173 rfl rfl rfl (Nat.le_of_ble_eq_true rfl) (Nat.le_of_ble_eq_true rfl) ?_
  refine y_set (by first | assumption | decide | exact xs_ (by decide) | exact xc_ (by decide) | exact x31_ (by decide) | omega) (by first | assumption | decide | exact xs_ (by decide) | exact xc_ (by decide) | exact x31_ (by decide) | omega) ⟨fun h => by omega, fun h => by omega⟩ ?_
  obtain ⟨ρ51, e_ρ51⟩ : ∃ zz_, zz_ = mu ρ47 31 0 ((22 * m) + 12) (V 11 l 0) := ⟨_, rfl⟩
  rw [← e_ρ51]
  have Sρ51 : SB t σ0 (mu (mu (mu (mu (mu (mu (mu (mu (mu (mu (mu (mu V 7 m 1 (V 7 l 1)) 7 m 2 (V 7 l 2)) 7 m 3 (V 7 l 3)) 7 m 4 (V 7 l 4)) 7 m 5 (V 7 l 5)) 7 m 6 (V 7 l 6)) 7 m 10 (V 7 l 10)) 7 m 12 (V 7 l 12)) 7 m 13 (V 7 l 13)) 7 m 14 (V 7 l 14)) 7 m 15 (V 7 l 15)) 11 m 0 (V 11 l 0)) ρ51 := by rw [e_ρ51, show ((22 * m) + 12) = 22 * m + 12 from by omega]; exact Sρ47.p11 (by first | assumption | decide | exact xs_ (by decide) | exact xc_ (by decide) | exact x31_ (by decide) | omega) (by first | assumption | decide | exact xs_ (by decide) | exact xc_ (by decide) | exact x31_ (by decide) | omega) (by first | assumption | decide | exact xs_ (by decide) | exact xc_ (by decide) | exact x31_ (by decide) | omega)
  clear Sρ47
  have r16a_ρ51 : ρ51 31 0 (22 * l + 16) = (if V 11 l 3 = 0 then (0 : Int) else 1) := by rw [e_ρ51]; exact (mu_ne (by first | assumption | decide | exact xs_ (by decide) | exact xc_ (by decide) | exact x31_ (by decide) | omega)).trans r16a_ρ47
  clear r16a_ρ47
  have r17b_ρ51 : ρ51 31 0 (22 * l + 17) = 0 := by rw [e_ρ51]; exact (mu_ne (by first | assumption | decide | exact xs_ (by decide) | exact xc_ (by decide) | exact x31_ (by decide) | omega)).trans r17b_ρ47
  clear r17b_ρ47
  have Yρ51 : FX m (mu (mu (mu (mu (mu (mu (mu (mu (mu (mu (mu (mu V 7 m 1 (V 7 l 1)) 7 m 2 (V 7 l 2)) 7 m 3 (V 7 l 3)) 7 m 4 (V 7 l 4)) 7 m 5 (V 7 l 5)) 7 m 6 (V 7 l 6)) 7 m 10 (V 7 l 10)) 7 m 12 (V 7 l 12)) 7 m 13 (V 7 l 13)) 7 m 14 (V 7 l 14)) 7 m 15 (V 7 l 15)) 11 m 0 (V 11 l 0)) ρ51 := (Yρ47).e (fun m a b c => by rw [e_ρ51]; exact mu_ne (by first | assumption | decide | exact xs_ (by decide) | exact xc_ (by decide) | exact x31_ (by decide) | omega)) (fun m y c => mu_ne (by first | assumption | decide | exact xs_ (by decide) | exact xc_ (by decide) | exact x31_ (by decide) | omega))
  clear Yρ47
  have Xρ51 : KX t m (mu (mu (mu (mu (mu (mu (mu (mu (mu (mu (mu (mu V 7 m 1 (V 7 l 1)) 7 m 2 (V 7 l 2)) 7 m 3 (V 7 l 3)) 7 m 4 (V 7 l 4)) 7 m 5 (V 7 l 5)) 7 m 6 (V 7 l 6)) 7 m 10 (V 7 l 10)) 7 m 12 (V 7 l 12)) 7 m 13 (V 7 l 13)) 7 m 14 (V 7 l 14)) 7 m 15 (V 7 l 15)) 11 m 0 (V 11 l 0)) ρ51 := (Xρ47).e (fun m a b c => by rw [e_ρ51]; exact ⟨mu_ne (by first | assumption | decide | exact xs_ (by decide) | exact xc_ (by decide) | exact x31_ (by decide) | omega), mu_ne (by first | assumption | decide | exact xs_ (by decide) | exact xc_ (by decide) | exact x31_ (by decide) | omega)⟩) (fun m c => mu_ne (by first | assumption | decide | exact xs_ (by decide) | exact xc_ (by decide) | exact x31_ (by decide) | omega))
  clear Xρ47 e_ρ51
  refine r_iincE hC (13) dX6_copyLane_20 rfl rfl (by first | assumption | decide | exact xs_ (by decide) | exact xc_ (by decide) | exact x31_ (by decide) | omega) (by unfold inR; omega) ?_
  refine r_goto (tgt := 2) hC dX6_copyLane_23 rfl ?_
  refine r_iload_n hC dX6_copyLane_2 rfl ?_
  refine r_bipush hC dX6_copyLane_3 rfl ?_
  refine r_icmp_ge (tgt := 26) hC dX6_copyLane_5 rfl (fun h52 => by omega) (fun h52 => ?_)
  refine r_aload_n hC dX6_copyLane_8 rfl ?_
  refine r_iload_n hC dX6_copyLane_9 rfl ?_
  refine r_iload_n hC dX6_copyLane_10 rfl ?_
  refine r_aload_n hC dX6_copyLane_11 rfl ?_
  refine r_iload_n hC dX6_copyLane_12 rfl ?_
  refine r_iload_n hC dX6_copyLane_13 rfl ?_
  refine z_inv2 hM dX6_copyLane_14 vl_RX6_80 rfl rfl rfl (Nat.le_of_ble_eq_true rfl) (Nat.le_of_ble_eq_true rfl) ?_
  refine y_of (by first | assumption | decide | exact xs_ (by decide) | exact xc_ (by decide) | exact x31_ (by decide) | omega) (by first | assumption | decide | exact xs_ (by decide) | exact xc_ (by decide) | exact x31_ (by decide) | omega) (by first | assumption | decide | exact xs_ (by decide) | exact xc_ (by decide) | exact x31_ (by decide) | omega) (fun o53 => ?_)
  have e54 : ρ51 31 0 (22 * l + 13) = (V 11 l 1) := (Sρ51.a11 (s := 1) (f := 13) (by first | assumption | decide | exact xs_ (by decide) | exact xc_ (by decide) | exact x31_ (by decide) | omega) (by first | assumption | decide | exact xs_ (by decide) | exact xc_ (by decide) | exact x31_ (by decide) | omega) (by first | assumption | decide | exact xs_ (by decide) | exact xc_ (by decide) | exact x31_ (by decide) | omega)).trans ((mu_ne (by first | assumption | decide | exact xs_ (by decide) | exact xc_ (by decide) | exact x31_ (by decide) | omega)).trans ((mu_ne (by first | assumption | decide | exact xs_ (by decide) | exact xc_ (by decide) | exact x31_ (by decide) | omega)).trans ((mu_ne (by first | assumption | decide | exact xs_ (by decide) | exact xc_ (by decide) | exact x31_ (by decide) | omega)).trans ((mu_ne (by first | assumption | decide | exact xs_ (by decide) | exact xc_ (by decide) | exact x31_ (by decide) | omega)).trans ((mu_ne (by first | assumption | decide | exact xs_ (by decide) | exact xc_ (by decide) | exact x31_ (by decide) | omega)).trans ((mu_ne (by first | assumption | decide | exact xs_ (by decide) | exact xc_ (by decide) | exact x31_ (by decide) | omega)).trans ((mu_ne (by first | assumption | decide | exact xs_ (by decide) | exact xc_ (by decide) | exact x31_ (by decide) | omega)).trans ((mu_ne (by first | assumption | decide | exact xs_ (by decide) | exact xc_ (by decide) | exact x31_ (by decide) | omega)).trans ((mu_ne (by first | assumption | decide | exact xs_ (by decide) | exact xc_ (by decide) | exact x31_ (by decide) | omega)).trans ((mu_ne (by first | assumption | decide | exact xs_ (by decide) | exact xc_ (by decide) | exact x31_ (by decide) | omega)).trans ((mu_ne (by first | assumption | decide | exact xs_ (by decide) | exact xc_ (by decide) | exact x31_ (by decide) | omega)).trans ((mu_ne (by first | assumption | decide | exact xs_ (by decide) | exact xc_ (by decide) | exact x31_ (by decide) | omega)).trans (rfl)))))))))))))
  rw [e54] at o53 ⊢
  clear e54
  refine z_inv3 hM dX6_copyLane_17 vl_RX6_173 rfl rfl rfl (Nat.le_of_ble_eq_true rfl) (Nat.le_of_ble_eq_true rfl) ?_
  refine y_set (by first | assumption | decide | exact xs_ (by decide) | exact xc_ (by decide) | exact x31_ (by decide) | omega) (by first | assumption | decide | exact xs_ (by decide) | exact xc_ (by decide) | exact x31_ (by decide) | omega) ⟨fun h => by omega, fun h => by omega⟩ ?_
  obtain ⟨ρ55, e_ρ55⟩ : ∃ zz_, zz_ = mu ρ51 31 0 ((22 * m) + 13) (V 11 l 1) := ⟨_, rfl⟩
  rw [← e_ρ55]
  have Sρ55 : SB t σ0 (mu (mu (mu (mu (mu (mu (mu (mu (mu (mu (mu (mu (mu V 7 m 1 (V 7 l 1)) 7 m 2 (V 7 l 2)) 7 m 3 (V 7 l 3)) 7 m 4 (V 7 l 4)) 7 m 5 (V 7 l 5)) 7 m 6 (V 7 l 6)) 7 m 10 (V 7 l 10)) 7 m 12 (V 7 l 12)) 7 m 13 (V 7 l 13)) 7 m 14 (V 7 l 14)) 7 m 15 (V 7 l 15)) 11 m 0 (V 11 l 0)) 11 m 1 (V 11 l 1)) ρ55 := by rw [e_ρ55, show ((22 * m) + 13) = 22 * m + 13 from by omega]; exact Sρ51.p11 (by first | assumption | decide | exact xs_ (by decide) | exact xc_ (by decide) | exact x31_ (by decide) | omega) (by first | assumption | decide | exact xs_ (by decide) | exact xc_ (by decide) | exact x31_ (by decide) | omega) (by first | assumption | decide | exact xs_ (by decide) | exact xc_ (by decide) | exact x31_ (by decide) | omega)
  clear Sρ51
  have r16a_ρ55 : ρ55 31 0 (22 * l + 16) = (if V 11 l 3 = 0 then (0 : Int) else 1) := by rw [e_ρ55]; exact (mu_ne (by first | assumption | decide | exact xs_ (by decide) | exact xc_ (by decide) | exact x31_ (by decide) | omega)).trans r16a_ρ51
  clear r16a_ρ51
  have r17b_ρ55 : ρ55 31 0 (22 * l + 17) = 0 := by rw [e_ρ55]; exact (mu_ne (by first | assumption | decide | exact xs_ (by decide) | exact xc_ (by decide) | exact x31_ (by decide) | omega)).trans r17b_ρ51
  clear r17b_ρ51
  have Yρ55 : FX m (mu (mu (mu (mu (mu (mu (mu (mu (mu (mu (mu (mu (mu V 7 m 1 (V 7 l 1)) 7 m 2 (V 7 l 2)) 7 m 3 (V 7 l 3)) 7 m 4 (V 7 l 4)) 7 m 5 (V 7 l 5)) 7 m 6 (V 7 l 6)) 7 m 10 (V 7 l 10)) 7 m 12 (V 7 l 12)) 7 m 13 (V 7 l 13)) 7 m 14 (V 7 l 14)) 7 m 15 (V 7 l 15)) 11 m 0 (V 11 l 0)) 11 m 1 (V 11 l 1)) ρ55 := (Yρ51).e (fun m a b c => by rw [e_ρ55]; exact mu_ne (by first | assumption | decide | exact xs_ (by decide) | exact xc_ (by decide) | exact x31_ (by decide) | omega)) (fun m y c => mu_ne (by first | assumption | decide | exact xs_ (by decide) | exact xc_ (by decide) | exact x31_ (by decide) | omega))
  clear Yρ51
  have Xρ55 : KX t m (mu (mu (mu (mu (mu (mu (mu (mu (mu (mu (mu (mu (mu V 7 m 1 (V 7 l 1)) 7 m 2 (V 7 l 2)) 7 m 3 (V 7 l 3)) 7 m 4 (V 7 l 4)) 7 m 5 (V 7 l 5)) 7 m 6 (V 7 l 6)) 7 m 10 (V 7 l 10)) 7 m 12 (V 7 l 12)) 7 m 13 (V 7 l 13)) 7 m 14 (V 7 l 14)) 7 m 15 (V 7 l 15)) 11 m 0 (V 11 l 0)) 11 m 1 (V 11 l 1)) ρ55 := (Xρ51).e (fun m a b c => by rw [e_ρ55]; exact ⟨mu_ne (by first | assumption | decide | exact xs_ (by decide) | exact xc_ (by decide) | exact x31_ (by decide) | omega), mu_ne (by first | assumption | decide | exact xs_ (by decide) | exact xc_ (by decide) | exact x31_ (by decide) | omega)⟩) (fun m c => mu_ne (by first | assumption | decide | exact xs_ (by decide) | exact xc_ (by decide) | exact x31_ (by decide) | omega))
  clear Xρ51 e_ρ55
  refine r_iincE hC (14) dX6_copyLane_20 rfl rfl (by first | assumption | decide | exact xs_ (by decide) | exact xc_ (by decide) | exact x31_ (by decide) | omega) (by unfold inR; omega) ?_
  show K _ [_, _, _, _] _ _
  refine r_goto (tgt := 2) hC dX6_copyLane_23 rfl ?_
  refine r_iload_n hC dX6_copyLane_2 rfl ?_
  refine r_bipush hC dX6_copyLane_3 rfl ?_
  refine r_icmp_ge (tgt := 26) hC dX6_copyLane_5 rfl (fun h56 => by omega) (fun h56 => ?_)
  refine r_aload_n hC dX6_copyLane_8 rfl ?_
  refine r_iload_n hC dX6_copyLane_9 rfl ?_
  refine r_iload_n hC dX6_copyLane_10 rfl ?_
  refine r_aload_n hC dX6_copyLane_11 rfl ?_
  refine r_iload_n hC dX6_copyLane_12 rfl ?_
  refine r_iload_n hC dX6_copyLane_13 rfl ?_
  refine z_inv2 hM dX6_copyLane_14 vl_RX6_80 rfl rfl rfl (Nat.le_of_ble_eq_true rfl) (Nat.le_of_ble_eq_true rfl) ?_
  refine y_of (by first | assumption | decide | exact xs_ (by decide) | exact xc_ (by decide) | exact x31_ (by decide) | omega) (by first | assumption | decide | exact xs_ (by decide) | exact xc_ (by decide) | exact x31_ (by decide) | omega) (by first | assumption | decide | exact xs_ (by decide) | exact xc_ (by decide) | exact x31_ (by decide) | omega) (fun o57 => ?_)
  have e58 : ρ55 31 0 (22 * l + 14) = (V 11 l 2) := (Sρ55.a11 (s := 2) (f := 14) (by first | assumption | decide | exact xs_ (by decide) | exact xc_ (by decide) | exact x31_ (by decide) | omega) (by first | assumption | decide | exact xs_ (by decide) | exact xc_ (by decide) | exact x31_ (by decide) | omega) (by first | assumption | decide | exact xs_ (by decide) | exact xc_ (by decide) | exact x31_ (by decide) | omega)).trans ((mu_ne (by first | assumption | decide | exact xs_ (by decide) | exact xc_ (by decide) | exact x31_ (by decide) | omega)).trans ((mu_ne (by first | assumption | decide | exact xs_ (by decide) | exact xc_ (by decide) | exact x31_ (by decide) | omega)).trans ((mu_ne (by first | assumption | decide | exact xs_ (by decide) | exact xc_ (by decide) | exact x31_ (by decide) | omega)).trans ((mu_ne (by first | assumption | decide | exact xs_ (by decide) | exact xc_ (by decide) | exact x31_ (by decide) | omega)).trans ((mu_ne (by first | assumption | decide | exact xs_ (by decide) | exact xc_ (by decide) | exact x31_ (by decide) | omega)).trans ((mu_ne (by first | assumption | decide | exact xs_ (by decide) | exact xc_ (by decide) | exact x31_ (by decide) | omega)).trans ((mu_ne (by first | assumption | decide | exact xs_ (by decide) | exact xc_ (by decide) | exact x31_ (by decide) | omega)).trans ((mu_ne (by first | assumption | decide | exact xs_ (by decide) | exact xc_ (by decide) | exact x31_ (by decide) | omega)).trans ((mu_ne (by first | assumption | decide | exact xs_ (by decide) | exact xc_ (by decide) | exact x31_ (by decide) | omega)).trans ((mu_ne (by first | assumption | decide | exact xs_ (by decide) | exact xc_ (by decide) | exact x31_ (by decide) | omega)).trans ((mu_ne (by first | assumption | decide | exact xs_ (by decide) | exact xc_ (by decide) | exact x31_ (by decide) | omega)).trans ((mu_ne (by first | assumption | decide | exact xs_ (by decide) | exact xc_ (by decide) | exact x31_ (by decide) | omega)).trans ((mu_ne (by first | assumption | decide | exact xs_ (by decide) | exact xc_ (by decide) | exact x31_ (by decide) | omega)).trans (rfl))))))))))))))
  rw [e58] at o57 ⊢
  clear e58
  refine z_inv3 hM dX6_copyLane_17 vl_RX6_173 rfl rfl rfl (Nat.le_of_ble_eq_true rfl) (Nat.le_of_ble_eq_true rfl) ?_
  refine y_set (by first | assumption | decide | exact xs_ (by decide) | exact xc_ (by decide) | exact x31_ (by decide) | omega) (by first | assumption | decide | exact xs_ (by decide) | exact xc_ (by decide) | exact x31_ (by decide) | omega) ⟨fun h => by omega, fun h => by omega⟩ ?_
  obtain ⟨ρ59, e_ρ59⟩ : ∃ zz_, zz_ = mu ρ55 31 0 ((22 * m) + 14) (V 11 l 2) := ⟨_, rfl⟩
  rw [← e_ρ59]
  have Sρ59 : SB t σ0 (mu (mu (mu (mu (mu (mu (mu (mu (mu (mu (mu (mu (mu (mu V 7 m 1 (V 7 l 1)) 7 m 2 (V 7 l 2)) 7 m 3 (V 7 l 3)) 7 m 4 (V 7 l 4)) 7 m 5 (V 7 l 5)) 7 m 6 (V 7 l 6)) 7 m 10 (V 7 l 10)) 7 m 12 (V 7 l 12)) 7 m 13 (V 7 l 13)) 7 m 14 (V 7 l 14)) 7 m 15 (V 7 l 15)) 11 m 0 (V 11 l 0)) 11 m 1 (V 11 l 1)) 11 m 2 (V 11 l 2)) ρ59 := by rw [e_ρ59, show ((22 * m) + 14) = 22 * m + 14 from by omega]; exact Sρ55.p11 (by first | assumption | decide | exact xs_ (by decide) | exact xc_ (by decide) | exact x31_ (by decide) | omega) (by first | assumption | decide | exact xs_ (by decide) | exact xc_ (by decide) | exact x31_ (by decide) | omega) (by first | assumption | decide | exact xs_ (by decide) | exact xc_ (by decide) | exact x31_ (by decide) | omega)
  clear Sρ55
  have r16a_ρ59 : ρ59 31 0 (22 * l + 16) = (if V 11 l 3 = 0 then (0 : Int) else 1) := by rw [e_ρ59]; exact (mu_ne (by first | assumption | decide | exact xs_ (by decide) | exact xc_ (by decide) | exact x31_ (by decide) | omega)).trans r16a_ρ55
  clear r16a_ρ55
  have r17b_ρ59 : ρ59 31 0 (22 * l + 17) = 0 := by rw [e_ρ59]; exact (mu_ne (by first | assumption | decide | exact xs_ (by decide) | exact xc_ (by decide) | exact x31_ (by decide) | omega)).trans r17b_ρ55
  clear r17b_ρ55
  have Yρ59 : FX m (mu (mu (mu (mu (mu (mu (mu (mu (mu (mu (mu (mu (mu (mu V 7 m 1 (V 7 l 1)) 7 m 2 (V 7 l 2)) 7 m 3 (V 7 l 3)) 7 m 4 (V 7 l 4)) 7 m 5 (V 7 l 5)) 7 m 6 (V 7 l 6)) 7 m 10 (V 7 l 10)) 7 m 12 (V 7 l 12)) 7 m 13 (V 7 l 13)) 7 m 14 (V 7 l 14)) 7 m 15 (V 7 l 15)) 11 m 0 (V 11 l 0)) 11 m 1 (V 11 l 1)) 11 m 2 (V 11 l 2)) ρ59 := (Yρ55).e (fun m a b c => by rw [e_ρ59]; exact mu_ne (by first | assumption | decide | exact xs_ (by decide) | exact xc_ (by decide) | exact x31_ (by decide) | omega)) (fun m y c => mu_ne (by first | assumption | decide | exact xs_ (by decide) | exact xc_ (by decide) | exact x31_ (by decide) | omega))
  clear Yρ55
  have Xρ59 : KX t m (mu (mu (mu (mu (mu (mu (mu (mu (mu (mu (mu (mu (mu (mu V 7 m 1 (V 7 l 1)) 7 m 2 (V 7 l 2)) 7 m 3 (V 7 l 3)) 7 m 4 (V 7 l 4)) 7 m 5 (V 7 l 5)) 7 m 6 (V 7 l 6)) 7 m 10 (V 7 l 10)) 7 m 12 (V 7 l 12)) 7 m 13 (V 7 l 13)) 7 m 14 (V 7 l 14)) 7 m 15 (V 7 l 15)) 11 m 0 (V 11 l 0)) 11 m 1 (V 11 l 1)) 11 m 2 (V 11 l 2)) ρ59 := (Xρ55).e (fun m a b c => by rw [e_ρ59]; exact ⟨mu_ne (by first | assumption | decide | exact xs_ (by decide) | exact xc_ (by decide) | exact x31_ (by decide) | omega), mu_ne (by first | assumption | decide | exact xs_ (by decide) | exact xc_ (by decide) | exact x31_ (by decide) | omega)⟩) (fun m c => mu_ne (by first | assumption | decide | exact xs_ (by decide) | exact xc_ (by decide) | exact x31_ (by decide) | omega))
  clear Xρ55 e_ρ59
  refine r_iincE hC (15) dX6_copyLane_20 rfl rfl (by first | assumption | decide | exact xs_ (by decide) | exact xc_ (by decide) | exact x31_ (by decide) | omega) (by unfold inR; omega) ?_
  refine r_goto (tgt := 2) hC dX6_copyLane_23 rfl ?_
  refine r_iload_n hC dX6_copyLane_2 rfl ?_
  refine r_bipush hC dX6_copyLane_3 rfl ?_
  refine r_icmp_ge (tgt := 26) hC dX6_copyLane_5 rfl (fun h60 => by omega) (fun h60 => ?_)
  refine r_aload_n hC dX6_copyLane_8 rfl ?_
  refine r_iload_n hC dX6_copyLane_9 rfl ?_
  refine r_iload_n hC dX6_copyLane_10 rfl ?_
  refine r_aload_n hC dX6_copyLane_11 rfl ?_
  refine r_iload_n hC dX6_copyLane_12 rfl ?_
  refine r_iload_n hC dX6_copyLane_13 rfl ?_
  refine z_inv2 hM dX6_copyLane_14 vl_RX6_80 rfl rfl rfl (Nat.le_of_ble_eq_true rfl) (Nat.le_of_ble_eq_true rfl) ?_
  refine y_of (by first | assumption | decide | exact xs_ (by decide) | exact xc_ (by decide) | exact x31_ (by decide) | omega) (by first | assumption | decide | exact xs_ (by decide) | exact xc_ (by decide) | exact x31_ (by decide) | omega) (by first | assumption | decide | exact xs_ (by decide) | exact xc_ (by decide) | exact x31_ (by decide) | omega) (fun o61 => ?_)
  have e62 : ρ59 31 0 (22 * l + 15) = (V 11 l 3) := (Sρ59.a11 (s := 3) (f := 15) (by first | assumption | decide | exact xs_ (by decide) | exact xc_ (by decide) | exact x31_ (by decide) | omega) (by first | assumption | decide | exact xs_ (by decide) | exact xc_ (by decide) | exact x31_ (by decide) | omega) (by first | assumption | decide | exact xs_ (by decide) | exact xc_ (by decide) | exact x31_ (by decide) | omega)).trans ((mu_ne (by first | assumption | decide | exact xs_ (by decide) | exact xc_ (by decide) | exact x31_ (by decide) | omega)).trans ((mu_ne (by first | assumption | decide | exact xs_ (by decide) | exact xc_ (by decide) | exact x31_ (by decide) | omega)).trans ((mu_ne (by first | assumption | decide | exact xs_ (by decide) | exact xc_ (by decide) | exact x31_ (by decide) | omega)).trans ((mu_ne (by first | assumption | decide | exact xs_ (by decide) | exact xc_ (by decide) | exact x31_ (by decide) | omega)).trans ((mu_ne (by first | assumption | decide | exact xs_ (by decide) | exact xc_ (by decide) | exact x31_ (by decide) | omega)).trans ((mu_ne (by first | assumption | decide | exact xs_ (by decide) | exact xc_ (by decide) | exact x31_ (by decide) | omega)).trans ((mu_ne (by first | assumption | decide | exact xs_ (by decide) | exact xc_ (by decide) | exact x31_ (by decide) | omega)).trans ((mu_ne (by first | assumption | decide | exact xs_ (by decide) | exact xc_ (by decide) | exact x31_ (by decide) | omega)).trans ((mu_ne (by first | assumption | decide | exact xs_ (by decide) | exact xc_ (by decide) | exact x31_ (by decide) | omega)).trans ((mu_ne (by first | assumption | decide | exact xs_ (by decide) | exact xc_ (by decide) | exact x31_ (by decide) | omega)).trans ((mu_ne (by first | assumption | decide | exact xs_ (by decide) | exact xc_ (by decide) | exact x31_ (by decide) | omega)).trans ((mu_ne (by first | assumption | decide | exact xs_ (by decide) | exact xc_ (by decide) | exact x31_ (by decide) | omega)).trans ((mu_ne (by first | assumption | decide | exact xs_ (by decide) | exact xc_ (by decide) | exact x31_ (by decide) | omega)).trans ((mu_ne (by first | assumption | decide | exact xs_ (by decide) | exact xc_ (by decide) | exact x31_ (by decide) | omega)).trans (rfl)))))))))))))))
  rw [e62] at o61 ⊢
  clear e62
  refine z_inv3 hM dX6_copyLane_17 vl_RX6_173 rfl rfl rfl (Nat.le_of_ble_eq_true rfl) (Nat.le_of_ble_eq_true rfl) ?_
  refine y_set (by first | assumption | decide | exact xs_ (by decide) | exact xc_ (by decide) | exact x31_ (by decide) | omega) (by first | assumption | decide | exact xs_ (by decide) | exact xc_ (by decide) | exact x31_ (by decide) | omega) ⟨fun h => by omega, fun h => by omega⟩ ?_
  obtain ⟨ρ63, e_ρ63⟩ : ∃ zz_, zz_ = mu ρ59 31 0 ((22 * m) + 15) (V 11 l 3) := ⟨_, rfl⟩
  rw [← e_ρ63]
  have Sρ63 : SB t σ0 (mu (mu (mu (mu (mu (mu (mu (mu (mu (mu (mu (mu (mu (mu (mu V 7 m 1 (V 7 l 1)) 7 m 2 (V 7 l 2)) 7 m 3 (V 7 l 3)) 7 m 4 (V 7 l 4)) 7 m 5 (V 7 l 5)) 7 m 6 (V 7 l 6)) 7 m 10 (V 7 l 10)) 7 m 12 (V 7 l 12)) 7 m 13 (V 7 l 13)) 7 m 14 (V 7 l 14)) 7 m 15 (V 7 l 15)) 11 m 0 (V 11 l 0)) 11 m 1 (V 11 l 1)) 11 m 2 (V 11 l 2)) 11 m 3 (V 11 l 3)) ρ63 := by rw [e_ρ63, show ((22 * m) + 15) = 22 * m + 15 from by omega]; exact Sρ59.p11 (by first | assumption | decide | exact xs_ (by decide) | exact xc_ (by decide) | exact x31_ (by decide) | omega) (by first | assumption | decide | exact xs_ (by decide) | exact xc_ (by decide) | exact x31_ (by decide) | omega) (by first | assumption | decide | exact xs_ (by decide) | exact xc_ (by decide) | exact x31_ (by decide) | omega)
  clear Sρ59
  have r16a_ρ63 : ρ63 31 0 (22 * l + 16) = (if V 11 l 3 = 0 then (0 : Int) else 1) := by rw [e_ρ63]; exact (mu_ne (by first | assumption | decide | exact xs_ (by decide) | exact xc_ (by decide) | exact x31_ (by decide) | omega)).trans r16a_ρ59
  clear r16a_ρ59
  have r17b_ρ63 : ρ63 31 0 (22 * l + 17) = 0 := by rw [e_ρ63]; exact (mu_ne (by first | assumption | decide | exact xs_ (by decide) | exact xc_ (by decide) | exact x31_ (by decide) | omega)).trans r17b_ρ59
  clear r17b_ρ59
  have Yρ63 : FX m (mu (mu (mu (mu (mu (mu (mu (mu (mu (mu (mu (mu (mu (mu (mu V 7 m 1 (V 7 l 1)) 7 m 2 (V 7 l 2)) 7 m 3 (V 7 l 3)) 7 m 4 (V 7 l 4)) 7 m 5 (V 7 l 5)) 7 m 6 (V 7 l 6)) 7 m 10 (V 7 l 10)) 7 m 12 (V 7 l 12)) 7 m 13 (V 7 l 13)) 7 m 14 (V 7 l 14)) 7 m 15 (V 7 l 15)) 11 m 0 (V 11 l 0)) 11 m 1 (V 11 l 1)) 11 m 2 (V 11 l 2)) 11 m 3 (V 11 l 3)) ρ63 := (Yρ59).e (fun m a b c => by rw [e_ρ63]; exact mu_ne (by first | assumption | decide | exact xs_ (by decide) | exact xc_ (by decide) | exact x31_ (by decide) | omega)) (fun m y c => mu_ne (by first | assumption | decide | exact xs_ (by decide) | exact xc_ (by decide) | exact x31_ (by decide) | omega))
  clear Yρ59
  have Xρ63 : KX t m (mu (mu (mu (mu (mu (mu (mu (mu (mu (mu (mu (mu (mu (mu (mu V 7 m 1 (V 7 l 1)) 7 m 2 (V 7 l 2)) 7 m 3 (V 7 l 3)) 7 m 4 (V 7 l 4)) 7 m 5 (V 7 l 5)) 7 m 6 (V 7 l 6)) 7 m 10 (V 7 l 10)) 7 m 12 (V 7 l 12)) 7 m 13 (V 7 l 13)) 7 m 14 (V 7 l 14)) 7 m 15 (V 7 l 15)) 11 m 0 (V 11 l 0)) 11 m 1 (V 11 l 1)) 11 m 2 (V 11 l 2)) 11 m 3 (V 11 l 3)) ρ63 := (Xρ59).e (fun m a b c => by rw [e_ρ63]; exact ⟨mu_ne (by first | assumption | decide | exact xs_ (by decide) | exact xc_ (by decide) | exact x31_ (by decide) | omega), mu_ne (by first | assumption | decide | exact xs_ (by decide) | exact xc_ (by decide) | exact x31_ (by decide) | omega)⟩) (fun m c => mu_ne (by first | assumption | decide | exact xs_ (by decide) | exact xc_ (by decide) | exact x31_ (by decide) | omega))
  clear Xρ59 e_ρ63
  refine r_iincE hC (16) dX6_copyLane_20 rfl rfl (by first | assumption | decide | exact xs_ (by decide) | exact xc_ (by decide) | exact x31_ (by decide) | omega) (by unfold inR; omega) ?_
  refine r_goto (tgt := 2) hC dX6_copyLane_23 rfl ?_
  refine r_iload_n hC dX6_copyLane_2 rfl ?_
  refine r_bipush hC dX6_copyLane_3 rfl ?_
  refine r_icmp_ge (tgt := 26) hC dX6_copyLane_5 rfl (fun h64 => by omega) (fun h64 => ?_)
  refine r_aload_n hC dX6_copyLane_8 rfl ?_
  refine r_iload_n hC dX6_copyLane_9 rfl ?_
  refine r_iload_n hC dX6_copyLane_10 rfl ?_
  refine r_aload_n hC dX6_copyLane_11 rfl ?_
  refine r_iload_n hC dX6_copyLane_12 rfl ?_
  refine r_iload_n hC dX6_copyLane_13 rfl ?_
  refine z_inv2 hM dX6_copyLane_14 vl_RX6_80 rfl rfl rfl (Nat.le_of_ble_eq_true rfl) (Nat.le_of_ble_eq_true rfl) ?_
  refine y_of (by first | assumption | decide | exact xs_ (by decide) | exact xc_ (by decide) | exact x31_ (by decide) | omega) (by first | assumption | decide | exact xs_ (by decide) | exact xc_ (by decide) | exact x31_ (by decide) | omega) (by first | assumption | decide | exact xs_ (by decide) | exact xc_ (by decide) | exact x31_ (by decide) | omega) (fun o65 => ?_)
  rw [r16a_ρ63]
  refine z_inv3 hM dX6_copyLane_17 vl_RX6_173 rfl rfl rfl (Nat.le_of_ble_eq_true rfl) (Nat.le_of_ble_eq_true rfl) ?_
  refine y_set (by first | assumption | decide | exact xs_ (by decide) | exact xc_ (by decide) | exact x31_ (by decide) | omega) (by first | assumption | decide | exact xs_ (by decide) | exact xc_ (by decide) | exact x31_ (by decide) | omega) ⟨fun h => by omega, fun h => by omega⟩ ?_
  obtain ⟨ρ66, e_ρ66⟩ : ∃ zz_, zz_ = mu ρ63 31 0 ((22 * m) + 16) (if V 11 l 3 = 0 then (0 : Int) else 1) := ⟨_, rfl⟩
  rw [← e_ρ66]
  have Sρ66 : SB t σ0 (mu (mu (mu (mu (mu (mu (mu (mu (mu (mu (mu (mu (mu (mu (mu V 7 m 1 (V 7 l 1)) 7 m 2 (V 7 l 2)) 7 m 3 (V 7 l 3)) 7 m 4 (V 7 l 4)) 7 m 5 (V 7 l 5)) 7 m 6 (V 7 l 6)) 7 m 10 (V 7 l 10)) 7 m 12 (V 7 l 12)) 7 m 13 (V 7 l 13)) 7 m 14 (V 7 l 14)) 7 m 15 (V 7 l 15)) 11 m 0 (V 11 l 0)) 11 m 1 (V 11 l 1)) 11 m 2 (V 11 l 2)) 11 m 3 (V 11 l 3)) ρ66 := by rw [e_ρ66, show ((22 * m) + 16) = 22 * m + 16 from by omega]; exact Sρ63.px (by first | assumption | decide | exact xs_ (by decide) | exact xc_ (by decide) | exact x31_ (by decide) | omega)
  clear Sρ63
  have r16a_ρ66 : ρ66 31 0 (22 * l + 16) = (if V 11 l 3 = 0 then (0 : Int) else 1) := by rw [e_ρ66]; exact (mu_ne (by first | assumption | decide | exact xs_ (by decide) | exact xc_ (by decide) | exact x31_ (by decide) | omega)).trans r16a_ρ63
  clear r16a_ρ63
  have r17b_ρ66 : ρ66 31 0 (22 * l + 17) = 0 := by rw [e_ρ66]; exact (mu_ne (by first | assumption | decide | exact xs_ (by decide) | exact xc_ (by decide) | exact x31_ (by decide) | omega)).trans r17b_ρ63
  clear r17b_ρ63
  have r16_ρ66 : ρ66 31 0 (22 * m + 16) = (if V 11 l 3 = 0 then (0 : Int) else 1) := by rw [e_ρ66, show ((22 * m) + 16) = 22 * m + 16 from by omega]; exact mu_self _ _ _ _ _
  have Yρ66 : FX m (mu (mu (mu (mu (mu (mu (mu (mu (mu (mu (mu (mu (mu (mu (mu V 7 m 1 (V 7 l 1)) 7 m 2 (V 7 l 2)) 7 m 3 (V 7 l 3)) 7 m 4 (V 7 l 4)) 7 m 5 (V 7 l 5)) 7 m 6 (V 7 l 6)) 7 m 10 (V 7 l 10)) 7 m 12 (V 7 l 12)) 7 m 13 (V 7 l 13)) 7 m 14 (V 7 l 14)) 7 m 15 (V 7 l 15)) 11 m 0 (V 11 l 0)) 11 m 1 (V 11 l 1)) 11 m 2 (V 11 l 2)) 11 m 3 (V 11 l 3)) ρ66 := (Yρ63).e (fun m a b c => by rw [e_ρ66]; exact mu_ne (by first | assumption | decide | exact xs_ (by decide) | exact xc_ (by decide) | exact x31_ (by decide) | omega)) (fun m y c => rfl)
  clear Yρ63
  have Xρ66 : KX t m (mu (mu (mu (mu (mu (mu (mu (mu (mu (mu (mu (mu (mu (mu (mu V 7 m 1 (V 7 l 1)) 7 m 2 (V 7 l 2)) 7 m 3 (V 7 l 3)) 7 m 4 (V 7 l 4)) 7 m 5 (V 7 l 5)) 7 m 6 (V 7 l 6)) 7 m 10 (V 7 l 10)) 7 m 12 (V 7 l 12)) 7 m 13 (V 7 l 13)) 7 m 14 (V 7 l 14)) 7 m 15 (V 7 l 15)) 11 m 0 (V 11 l 0)) 11 m 1 (V 11 l 1)) 11 m 2 (V 11 l 2)) 11 m 3 (V 11 l 3)) ρ66 := (Xρ63).e (fun m a b c => by rw [e_ρ66]; exact ⟨mu_ne (by first | assumption | decide | exact xs_ (by decide) | exact xc_ (by decide) | exact x31_ (by decide) | omega), mu_ne (by first | assumption | decide | exact xs_ (by decide) | exact xc_ (by decide) | exact x31_ (by decide) | omega)⟩) (fun m c => rfl)
  clear Xρ63 e_ρ66
  refine r_iincE hC (17) dX6_copyLane_20 rfl rfl (by first | assumption | decide | exact xs_ (by decide) | exact xc_ (by decide) | exact x31_ (by decide) | omega) (by unfold inR; omega) ?_
  show K _ [_, _, _, _] _ _
  refine r_goto (tgt := 2) hC dX6_copyLane_23 rfl ?_
  refine r_iload_n hC dX6_copyLane_2 rfl ?_
  refine r_bipush hC dX6_copyLane_3 rfl ?_
  refine r_icmp_ge (tgt := 26) hC dX6_copyLane_5 rfl (fun h67 => by omega) (fun h67 => ?_)
  refine r_aload_n hC dX6_copyLane_8 rfl ?_
  refine r_iload_n hC dX6_copyLane_9 rfl ?_
  refine r_iload_n hC dX6_copyLane_10 rfl ?_
  refine r_aload_n hC dX6_copyLane_11 rfl ?_
  refine r_iload_n hC dX6_copyLane_12 rfl ?_
  refine r_iload_n hC dX6_copyLane_13 rfl ?_
  refine z_inv2 hM dX6_copyLane_14 vl_RX6_80 rfl rfl rfl (Nat.le_of_ble_eq_true rfl) (Nat.le_of_ble_eq_true rfl) ?_
  refine y_of (by first | assumption | decide | exact xs_ (by decide) | exact xc_ (by decide) | exact x31_ (by decide) | omega) (by first | assumption | decide | exact xs_ (by decide) | exact xc_ (by decide) | exact x31_ (by decide) | omega) (by first | assumption | decide | exact xs_ (by decide) | exact xc_ (by decide) | exact x31_ (by decide) | omega) (fun o68 => ?_)
  rw [r17b_ρ66]
  refine z_inv3 hM dX6_copyLane_17 vl_RX6_173 rfl rfl rfl (Nat.le_of_ble_eq_true rfl) (Nat.le_of_ble_eq_true rfl) ?_
  refine y_set (by first | assumption | decide | exact xs_ (by decide) | exact xc_ (by decide) | exact x31_ (by decide) | omega) (by first | assumption | decide | exact xs_ (by decide) | exact xc_ (by decide) | exact x31_ (by decide) | omega) ⟨fun h => by omega, fun h => by omega⟩ ?_
  obtain ⟨ρ69, e_ρ69⟩ : ∃ zz_, zz_ = mu ρ66 31 0 ((22 * m) + 17) 0 := ⟨_, rfl⟩
  rw [← e_ρ69]
  have Sρ69 : SB t σ0 (mu (mu (mu (mu (mu (mu (mu (mu (mu (mu (mu (mu (mu (mu (mu V 7 m 1 (V 7 l 1)) 7 m 2 (V 7 l 2)) 7 m 3 (V 7 l 3)) 7 m 4 (V 7 l 4)) 7 m 5 (V 7 l 5)) 7 m 6 (V 7 l 6)) 7 m 10 (V 7 l 10)) 7 m 12 (V 7 l 12)) 7 m 13 (V 7 l 13)) 7 m 14 (V 7 l 14)) 7 m 15 (V 7 l 15)) 11 m 0 (V 11 l 0)) 11 m 1 (V 11 l 1)) 11 m 2 (V 11 l 2)) 11 m 3 (V 11 l 3)) ρ69 := by rw [e_ρ69, show ((22 * m) + 17) = 22 * m + 17 from by omega]; exact Sρ66.px (by first | assumption | decide | exact xs_ (by decide) | exact xc_ (by decide) | exact x31_ (by decide) | omega)
  clear Sρ66
  have r16a_ρ69 : ρ69 31 0 (22 * l + 16) = (if V 11 l 3 = 0 then (0 : Int) else 1) := by rw [e_ρ69]; exact (mu_ne (by first | assumption | decide | exact xs_ (by decide) | exact xc_ (by decide) | exact x31_ (by decide) | omega)).trans r16a_ρ66
  clear r16a_ρ66
  have r17b_ρ69 : ρ69 31 0 (22 * l + 17) = 0 := by rw [e_ρ69]; exact (mu_ne (by first | assumption | decide | exact xs_ (by decide) | exact xc_ (by decide) | exact x31_ (by decide) | omega)).trans r17b_ρ66
  clear r17b_ρ66
  have r16c_ρ69 : ρ69 31 0 (22 * m + 16) = (if V 11 l 3 = 0 then (0 : Int) else 1) := by rw [e_ρ69]; exact (mu_ne (by first | assumption | decide | exact xs_ (by decide) | exact xc_ (by decide) | exact x31_ (by decide) | omega)).trans r16_ρ66
  have r17_ρ69 : ρ69 31 0 (22 * m + 17) = 0 := by rw [e_ρ69, show ((22 * m) + 17) = 22 * m + 17 from by omega]; exact mu_self _ _ _ _ _
  have Yρ69 : FX m (mu (mu (mu (mu (mu (mu (mu (mu (mu (mu (mu (mu (mu (mu (mu V 7 m 1 (V 7 l 1)) 7 m 2 (V 7 l 2)) 7 m 3 (V 7 l 3)) 7 m 4 (V 7 l 4)) 7 m 5 (V 7 l 5)) 7 m 6 (V 7 l 6)) 7 m 10 (V 7 l 10)) 7 m 12 (V 7 l 12)) 7 m 13 (V 7 l 13)) 7 m 14 (V 7 l 14)) 7 m 15 (V 7 l 15)) 11 m 0 (V 11 l 0)) 11 m 1 (V 11 l 1)) 11 m 2 (V 11 l 2)) 11 m 3 (V 11 l 3)) ρ69 := (Yρ66).e (fun m a b c => by rw [e_ρ69]; exact mu_ne (by first | assumption | decide | exact xs_ (by decide) | exact xc_ (by decide) | exact x31_ (by decide) | omega)) (fun m y c => rfl)
  clear Yρ66
  have Xρ69 : KX t m (mu (mu (mu (mu (mu (mu (mu (mu (mu (mu (mu (mu (mu (mu (mu V 7 m 1 (V 7 l 1)) 7 m 2 (V 7 l 2)) 7 m 3 (V 7 l 3)) 7 m 4 (V 7 l 4)) 7 m 5 (V 7 l 5)) 7 m 6 (V 7 l 6)) 7 m 10 (V 7 l 10)) 7 m 12 (V 7 l 12)) 7 m 13 (V 7 l 13)) 7 m 14 (V 7 l 14)) 7 m 15 (V 7 l 15)) 11 m 0 (V 11 l 0)) 11 m 1 (V 11 l 1)) 11 m 2 (V 11 l 2)) 11 m 3 (V 11 l 3)) ρ69 := (Xρ66).e (fun m a b c => by rw [e_ρ69]; exact ⟨mu_ne (by first | assumption | decide | exact xs_ (by decide) | exact xc_ (by decide) | exact x31_ (by decide) | omega), mu_ne (by first | assumption | decide | exact xs_ (by decide) | exact xc_ (by decide) | exact x31_ (by decide) | omega)⟩) (fun m c => rfl)
  clear Xρ66 e_ρ69
  refine r_iincE hC (18) dX6_copyLane_20 rfl rfl (by first | assumption | decide | exact xs_ (by decide) | exact xc_ (by decide) | exact x31_ (by decide) | omega) (by unfold inR; omega) ?_
  refine r_goto (tgt := 2) hC dX6_copyLane_23 rfl ?_
  refine r_iload_n hC dX6_copyLane_2 rfl ?_
  refine r_bipush hC dX6_copyLane_3 rfl ?_
  refine r_icmp_ge (tgt := 26) hC dX6_copyLane_5 rfl (fun h70 => by omega) (fun h70 => ?_)
  refine r_aload_n hC dX6_copyLane_8 rfl ?_
  refine r_iload_n hC dX6_copyLane_9 rfl ?_
  refine r_iload_n hC dX6_copyLane_10 rfl ?_
  refine r_aload_n hC dX6_copyLane_11 rfl ?_
  refine r_iload_n hC dX6_copyLane_12 rfl ?_
  refine r_iload_n hC dX6_copyLane_13 rfl ?_
  refine z_inv2 hM dX6_copyLane_14 vl_RX6_80 rfl rfl rfl (Nat.le_of_ble_eq_true rfl) (Nat.le_of_ble_eq_true rfl) ?_
  refine y_of (by first | assumption | decide | exact xs_ (by decide) | exact xc_ (by decide) | exact x31_ (by decide) | omega) (by first | assumption | decide | exact xs_ (by decide) | exact xc_ (by decide) | exact x31_ (by decide) | omega) (by first | assumption | decide | exact xs_ (by decide) | exact xc_ (by decide) | exact x31_ (by decide) | omega) (fun o71 => ?_)
  have e72 : ρ69 31 0 (22 * l + 18) = (V 11 l 4) := (Sρ69.a11 (s := 4) (f := 18) (by first | assumption | decide | exact xs_ (by decide) | exact xc_ (by decide) | exact x31_ (by decide) | omega) (by first | assumption | decide | exact xs_ (by decide) | exact xc_ (by decide) | exact x31_ (by decide) | omega) (by first | assumption | decide | exact xs_ (by decide) | exact xc_ (by decide) | exact x31_ (by decide) | omega)).trans ((mu_ne (by first | assumption | decide | exact xs_ (by decide) | exact xc_ (by decide) | exact x31_ (by decide) | omega)).trans ((mu_ne (by first | assumption | decide | exact xs_ (by decide) | exact xc_ (by decide) | exact x31_ (by decide) | omega)).trans ((mu_ne (by first | assumption | decide | exact xs_ (by decide) | exact xc_ (by decide) | exact x31_ (by decide) | omega)).trans ((mu_ne (by first | assumption | decide | exact xs_ (by decide) | exact xc_ (by decide) | exact x31_ (by decide) | omega)).trans ((mu_ne (by first | assumption | decide | exact xs_ (by decide) | exact xc_ (by decide) | exact x31_ (by decide) | omega)).trans ((mu_ne (by first | assumption | decide | exact xs_ (by decide) | exact xc_ (by decide) | exact x31_ (by decide) | omega)).trans ((mu_ne (by first | assumption | decide | exact xs_ (by decide) | exact xc_ (by decide) | exact x31_ (by decide) | omega)).trans ((mu_ne (by first | assumption | decide | exact xs_ (by decide) | exact xc_ (by decide) | exact x31_ (by decide) | omega)).trans ((mu_ne (by first | assumption | decide | exact xs_ (by decide) | exact xc_ (by decide) | exact x31_ (by decide) | omega)).trans ((mu_ne (by first | assumption | decide | exact xs_ (by decide) | exact xc_ (by decide) | exact x31_ (by decide) | omega)).trans ((mu_ne (by first | assumption | decide | exact xs_ (by decide) | exact xc_ (by decide) | exact x31_ (by decide) | omega)).trans ((mu_ne (by first | assumption | decide | exact xs_ (by decide) | exact xc_ (by decide) | exact x31_ (by decide) | omega)).trans ((mu_ne (by first | assumption | decide | exact xs_ (by decide) | exact xc_ (by decide) | exact x31_ (by decide) | omega)).trans ((mu_ne (by first | assumption | decide | exact xs_ (by decide) | exact xc_ (by decide) | exact x31_ (by decide) | omega)).trans ((mu_ne (by first | assumption | decide | exact xs_ (by decide) | exact xc_ (by decide) | exact x31_ (by decide) | omega)).trans (rfl))))))))))))))))
  rw [e72] at o71 ⊢
  clear e72
  refine z_inv3 hM dX6_copyLane_17 vl_RX6_173 rfl rfl rfl (Nat.le_of_ble_eq_true rfl) (Nat.le_of_ble_eq_true rfl) ?_
  refine y_set (by first | assumption | decide | exact xs_ (by decide) | exact xc_ (by decide) | exact x31_ (by decide) | omega) (by first | assumption | decide | exact xs_ (by decide) | exact xc_ (by decide) | exact x31_ (by decide) | omega) ⟨fun h => by omega, fun h => by omega⟩ ?_
  obtain ⟨ρ73, e_ρ73⟩ : ∃ zz_, zz_ = mu ρ69 31 0 ((22 * m) + 18) (V 11 l 4) := ⟨_, rfl⟩
  rw [← e_ρ73]
  have Sρ73 : SB t σ0 (mu (mu (mu (mu (mu (mu (mu (mu (mu (mu (mu (mu (mu (mu (mu (mu V 7 m 1 (V 7 l 1)) 7 m 2 (V 7 l 2)) 7 m 3 (V 7 l 3)) 7 m 4 (V 7 l 4)) 7 m 5 (V 7 l 5)) 7 m 6 (V 7 l 6)) 7 m 10 (V 7 l 10)) 7 m 12 (V 7 l 12)) 7 m 13 (V 7 l 13)) 7 m 14 (V 7 l 14)) 7 m 15 (V 7 l 15)) 11 m 0 (V 11 l 0)) 11 m 1 (V 11 l 1)) 11 m 2 (V 11 l 2)) 11 m 3 (V 11 l 3)) 11 m 4 (V 11 l 4)) ρ73 := by rw [e_ρ73, show ((22 * m) + 18) = 22 * m + 18 from by omega]; exact Sρ69.p11 (by first | assumption | decide | exact xs_ (by decide) | exact xc_ (by decide) | exact x31_ (by decide) | omega) (by first | assumption | decide | exact xs_ (by decide) | exact xc_ (by decide) | exact x31_ (by decide) | omega) (by first | assumption | decide | exact xs_ (by decide) | exact xc_ (by decide) | exact x31_ (by decide) | omega)
  clear Sρ69
  have r16a_ρ73 : ρ73 31 0 (22 * l + 16) = (if V 11 l 3 = 0 then (0 : Int) else 1) := by rw [e_ρ73]; exact (mu_ne (by first | assumption | decide | exact xs_ (by decide) | exact xc_ (by decide) | exact x31_ (by decide) | omega)).trans r16a_ρ69
  clear r16a_ρ69
  have r17b_ρ73 : ρ73 31 0 (22 * l + 17) = 0 := by rw [e_ρ73]; exact (mu_ne (by first | assumption | decide | exact xs_ (by decide) | exact xc_ (by decide) | exact x31_ (by decide) | omega)).trans r17b_ρ69
  clear r17b_ρ69
  have r16c_ρ73 : ρ73 31 0 (22 * m + 16) = (if V 11 l 3 = 0 then (0 : Int) else 1) := by rw [e_ρ73]; exact (mu_ne (by first | assumption | decide | exact xs_ (by decide) | exact xc_ (by decide) | exact x31_ (by decide) | omega)).trans r16c_ρ69
  have r17d_ρ73 : ρ73 31 0 (22 * m + 17) = 0 := by rw [e_ρ73]; exact (mu_ne (by first | assumption | decide | exact xs_ (by decide) | exact xc_ (by decide) | exact x31_ (by decide) | omega)).trans r17_ρ69
  have Yρ73 : FX m (mu (mu (mu (mu (mu (mu (mu (mu (mu (mu (mu (mu (mu (mu (mu (mu V 7 m 1 (V 7 l 1)) 7 m 2 (V 7 l 2)) 7 m 3 (V 7 l 3)) 7 m 4 (V 7 l 4)) 7 m 5 (V 7 l 5)) 7 m 6 (V 7 l 6)) 7 m 10 (V 7 l 10)) 7 m 12 (V 7 l 12)) 7 m 13 (V 7 l 13)) 7 m 14 (V 7 l 14)) 7 m 15 (V 7 l 15)) 11 m 0 (V 11 l 0)) 11 m 1 (V 11 l 1)) 11 m 2 (V 11 l 2)) 11 m 3 (V 11 l 3)) 11 m 4 (V 11 l 4)) ρ73 := (Yρ69).e (fun m a b c => by rw [e_ρ73]; exact mu_ne (by first | assumption | decide | exact xs_ (by decide) | exact xc_ (by decide) | exact x31_ (by decide) | omega)) (fun m y c => mu_ne (by first | assumption | decide | exact xs_ (by decide) | exact xc_ (by decide) | exact x31_ (by decide) | omega))
  clear Yρ69
  have Xρ73 : KX t m (mu (mu (mu (mu (mu (mu (mu (mu (mu (mu (mu (mu (mu (mu (mu (mu V 7 m 1 (V 7 l 1)) 7 m 2 (V 7 l 2)) 7 m 3 (V 7 l 3)) 7 m 4 (V 7 l 4)) 7 m 5 (V 7 l 5)) 7 m 6 (V 7 l 6)) 7 m 10 (V 7 l 10)) 7 m 12 (V 7 l 12)) 7 m 13 (V 7 l 13)) 7 m 14 (V 7 l 14)) 7 m 15 (V 7 l 15)) 11 m 0 (V 11 l 0)) 11 m 1 (V 11 l 1)) 11 m 2 (V 11 l 2)) 11 m 3 (V 11 l 3)) 11 m 4 (V 11 l 4)) ρ73 := (Xρ69).e (fun m a b c => by rw [e_ρ73]; exact ⟨mu_ne (by first | assumption | decide | exact xs_ (by decide) | exact xc_ (by decide) | exact x31_ (by decide) | omega), mu_ne (by first | assumption | decide | exact xs_ (by decide) | exact xc_ (by decide) | exact x31_ (by decide) | omega)⟩) (fun m c => mu_ne (by first | assumption | decide | exact xs_ (by decide) | exact xc_ (by decide) | exact x31_ (by decide) | omega))
  clear Xρ69 e_ρ73
  refine r_iincE hC (19) dX6_copyLane_20 rfl rfl (by first | assumption | decide | exact xs_ (by decide) | exact xc_ (by decide) | exact x31_ (by decide) | omega) (by unfold inR; omega) ?_
  refine r_goto (tgt := 2) hC dX6_copyLane_23 rfl ?_
  refine r_iload_n hC dX6_copyLane_2 rfl ?_
  refine r_bipush hC dX6_copyLane_3 rfl ?_
  refine r_icmp_ge (tgt := 26) hC dX6_copyLane_5 rfl (fun h74 => by omega) (fun h74 => ?_)
  refine r_aload_n hC dX6_copyLane_8 rfl ?_
  refine r_iload_n hC dX6_copyLane_9 rfl ?_
  refine r_iload_n hC dX6_copyLane_10 rfl ?_
  refine r_aload_n hC dX6_copyLane_11 rfl ?_
  refine r_iload_n hC dX6_copyLane_12 rfl ?_
  refine r_iload_n hC dX6_copyLane_13 rfl ?_
  refine z_inv2 hM dX6_copyLane_14 vl_RX6_80 rfl rfl rfl (Nat.le_of_ble_eq_true rfl) (Nat.le_of_ble_eq_true rfl) ?_
  refine y_of (by first | assumption | decide | exact xs_ (by decide) | exact xc_ (by decide) | exact x31_ (by decide) | omega) (by first | assumption | decide | exact xs_ (by decide) | exact xc_ (by decide) | exact x31_ (by decide) | omega) (by first | assumption | decide | exact xs_ (by decide) | exact xc_ (by decide) | exact x31_ (by decide) | omega) (fun o75 => ?_)
  have e76 : ρ73 31 0 (22 * l + 19) = (V 11 l 5) := (Sρ73.a11 (s := 5) (f := 19) (by first | assumption | decide | exact xs_ (by decide) | exact xc_ (by decide) | exact x31_ (by decide) | omega) (by first | assumption | decide | exact xs_ (by decide) | exact xc_ (by decide) | exact x31_ (by decide) | omega) (by first | assumption | decide | exact xs_ (by decide) | exact xc_ (by decide) | exact x31_ (by decide) | omega)).trans ((mu_ne (by first | assumption | decide | exact xs_ (by decide) | exact xc_ (by decide) | exact x31_ (by decide) | omega)).trans ((mu_ne (by first | assumption | decide | exact xs_ (by decide) | exact xc_ (by decide) | exact x31_ (by decide) | omega)).trans ((mu_ne (by first | assumption | decide | exact xs_ (by decide) | exact xc_ (by decide) | exact x31_ (by decide) | omega)).trans ((mu_ne (by first | assumption | decide | exact xs_ (by decide) | exact xc_ (by decide) | exact x31_ (by decide) | omega)).trans ((mu_ne (by first | assumption | decide | exact xs_ (by decide) | exact xc_ (by decide) | exact x31_ (by decide) | omega)).trans ((mu_ne (by first | assumption | decide | exact xs_ (by decide) | exact xc_ (by decide) | exact x31_ (by decide) | omega)).trans ((mu_ne (by first | assumption | decide | exact xs_ (by decide) | exact xc_ (by decide) | exact x31_ (by decide) | omega)).trans ((mu_ne (by first | assumption | decide | exact xs_ (by decide) | exact xc_ (by decide) | exact x31_ (by decide) | omega)).trans ((mu_ne (by first | assumption | decide | exact xs_ (by decide) | exact xc_ (by decide) | exact x31_ (by decide) | omega)).trans ((mu_ne (by first | assumption | decide | exact xs_ (by decide) | exact xc_ (by decide) | exact x31_ (by decide) | omega)).trans ((mu_ne (by first | assumption | decide | exact xs_ (by decide) | exact xc_ (by decide) | exact x31_ (by decide) | omega)).trans ((mu_ne (by first | assumption | decide | exact xs_ (by decide) | exact xc_ (by decide) | exact x31_ (by decide) | omega)).trans ((mu_ne (by first | assumption | decide | exact xs_ (by decide) | exact xc_ (by decide) | exact x31_ (by decide) | omega)).trans ((mu_ne (by first | assumption | decide | exact xs_ (by decide) | exact xc_ (by decide) | exact x31_ (by decide) | omega)).trans ((mu_ne (by first | assumption | decide | exact xs_ (by decide) | exact xc_ (by decide) | exact x31_ (by decide) | omega)).trans ((mu_ne (by first | assumption | decide | exact xs_ (by decide) | exact xc_ (by decide) | exact x31_ (by decide) | omega)).trans (rfl)))))))))))))))))
  rw [e76] at o75 ⊢
  clear e76
  refine z_inv3 hM dX6_copyLane_17 vl_RX6_173 rfl rfl rfl (Nat.le_of_ble_eq_true rfl) (Nat.le_of_ble_eq_true rfl) ?_
  refine y_set (by first | assumption | decide | exact xs_ (by decide) | exact xc_ (by decide) | exact x31_ (by decide) | omega) (by first | assumption | decide | exact xs_ (by decide) | exact xc_ (by decide) | exact x31_ (by decide) | omega) ⟨fun h => by omega, fun h => by omega⟩ ?_
  obtain ⟨ρ77, e_ρ77⟩ : ∃ zz_, zz_ = mu ρ73 31 0 ((22 * m) + 19) (V 11 l 5) := ⟨_, rfl⟩
  rw [← e_ρ77]
  have Sρ77 : SB t σ0 (mu (mu (mu (mu (mu (mu (mu (mu (mu (mu (mu (mu (mu (mu (mu (mu (mu V 7 m 1 (V 7 l 1)) 7 m 2 (V 7 l 2)) 7 m 3 (V 7 l 3)) 7 m 4 (V 7 l 4)) 7 m 5 (V 7 l 5)) 7 m 6 (V 7 l 6)) 7 m 10 (V 7 l 10)) 7 m 12 (V 7 l 12)) 7 m 13 (V 7 l 13)) 7 m 14 (V 7 l 14)) 7 m 15 (V 7 l 15)) 11 m 0 (V 11 l 0)) 11 m 1 (V 11 l 1)) 11 m 2 (V 11 l 2)) 11 m 3 (V 11 l 3)) 11 m 4 (V 11 l 4)) 11 m 5 (V 11 l 5)) ρ77 := by rw [e_ρ77, show ((22 * m) + 19) = 22 * m + 19 from by omega]; exact Sρ73.p11 (by first | assumption | decide | exact xs_ (by decide) | exact xc_ (by decide) | exact x31_ (by decide) | omega) (by first | assumption | decide | exact xs_ (by decide) | exact xc_ (by decide) | exact x31_ (by decide) | omega) (by first | assumption | decide | exact xs_ (by decide) | exact xc_ (by decide) | exact x31_ (by decide) | omega)
  clear Sρ73
  have r16a_ρ77 : ρ77 31 0 (22 * l + 16) = (if V 11 l 3 = 0 then (0 : Int) else 1) := by rw [e_ρ77]; exact (mu_ne (by first | assumption | decide | exact xs_ (by decide) | exact xc_ (by decide) | exact x31_ (by decide) | omega)).trans r16a_ρ73
  clear r16a_ρ73
  have r17b_ρ77 : ρ77 31 0 (22 * l + 17) = 0 := by rw [e_ρ77]; exact (mu_ne (by first | assumption | decide | exact xs_ (by decide) | exact xc_ (by decide) | exact x31_ (by decide) | omega)).trans r17b_ρ73
  clear r17b_ρ73
  have r16c_ρ77 : ρ77 31 0 (22 * m + 16) = (if V 11 l 3 = 0 then (0 : Int) else 1) := by rw [e_ρ77]; exact (mu_ne (by first | assumption | decide | exact xs_ (by decide) | exact xc_ (by decide) | exact x31_ (by decide) | omega)).trans r16c_ρ73
  have r17d_ρ77 : ρ77 31 0 (22 * m + 17) = 0 := by rw [e_ρ77]; exact (mu_ne (by first | assumption | decide | exact xs_ (by decide) | exact xc_ (by decide) | exact x31_ (by decide) | omega)).trans r17d_ρ73
  have Yρ77 : FX m (mu (mu (mu (mu (mu (mu (mu (mu (mu (mu (mu (mu (mu (mu (mu (mu (mu V 7 m 1 (V 7 l 1)) 7 m 2 (V 7 l 2)) 7 m 3 (V 7 l 3)) 7 m 4 (V 7 l 4)) 7 m 5 (V 7 l 5)) 7 m 6 (V 7 l 6)) 7 m 10 (V 7 l 10)) 7 m 12 (V 7 l 12)) 7 m 13 (V 7 l 13)) 7 m 14 (V 7 l 14)) 7 m 15 (V 7 l 15)) 11 m 0 (V 11 l 0)) 11 m 1 (V 11 l 1)) 11 m 2 (V 11 l 2)) 11 m 3 (V 11 l 3)) 11 m 4 (V 11 l 4)) 11 m 5 (V 11 l 5)) ρ77 := (Yρ73).e (fun m a b c => by rw [e_ρ77]; exact mu_ne (by first | assumption | decide | exact xs_ (by decide) | exact xc_ (by decide) | exact x31_ (by decide) | omega)) (fun m y c => mu_ne (by first | assumption | decide | exact xs_ (by decide) | exact xc_ (by decide) | exact x31_ (by decide) | omega))
  clear Yρ73
  have Xρ77 : KX t m (mu (mu (mu (mu (mu (mu (mu (mu (mu (mu (mu (mu (mu (mu (mu (mu (mu V 7 m 1 (V 7 l 1)) 7 m 2 (V 7 l 2)) 7 m 3 (V 7 l 3)) 7 m 4 (V 7 l 4)) 7 m 5 (V 7 l 5)) 7 m 6 (V 7 l 6)) 7 m 10 (V 7 l 10)) 7 m 12 (V 7 l 12)) 7 m 13 (V 7 l 13)) 7 m 14 (V 7 l 14)) 7 m 15 (V 7 l 15)) 11 m 0 (V 11 l 0)) 11 m 1 (V 11 l 1)) 11 m 2 (V 11 l 2)) 11 m 3 (V 11 l 3)) 11 m 4 (V 11 l 4)) 11 m 5 (V 11 l 5)) ρ77 := (Xρ73).e (fun m a b c => by rw [e_ρ77]; exact ⟨mu_ne (by first | assumption | decide | exact xs_ (by decide) | exact xc_ (by decide) | exact x31_ (by decide) | omega), mu_ne (by first | assumption | decide | exact xs_ (by decide) | exact xc_ (by decide) | exact x31_ (by decide) | omega)⟩) (fun m c => mu_ne (by first | assumption | decide | exact xs_ (by decide) | exact xc_ (by decide) | exact x31_ (by decide) | omega))
  clear Xρ73 e_ρ77
  refine r_iincE hC (20) dX6_copyLane_20 rfl rfl (by first | assumption | decide | exact xs_ (by decide) | exact xc_ (by decide) | exact x31_ (by decide) | omega) (by unfold inR; omega) ?_
  show K _ [_, _, _, _] _ _
  refine r_goto (tgt := 2) hC dX6_copyLane_23 rfl ?_
  refine r_iload_n hC dX6_copyLane_2 rfl ?_
  refine r_bipush hC dX6_copyLane_3 rfl ?_
  refine r_icmp_ge (tgt := 26) hC dX6_copyLane_5 rfl (fun h78 => by omega) (fun h78 => ?_)
  refine r_aload_n hC dX6_copyLane_8 rfl ?_
  refine r_iload_n hC dX6_copyLane_9 rfl ?_
  refine r_iload_n hC dX6_copyLane_10 rfl ?_
  refine r_aload_n hC dX6_copyLane_11 rfl ?_
  refine r_iload_n hC dX6_copyLane_12 rfl ?_
  refine r_iload_n hC dX6_copyLane_13 rfl ?_
  refine z_inv2 hM dX6_copyLane_14 vl_RX6_80 rfl rfl rfl (Nat.le_of_ble_eq_true rfl) (Nat.le_of_ble_eq_true rfl) ?_
  refine y_of (by first | assumption | decide | exact xs_ (by decide) | exact xc_ (by decide) | exact x31_ (by decide) | omega) (by first | assumption | decide | exact xs_ (by decide) | exact xc_ (by decide) | exact x31_ (by decide) | omega) (by first | assumption | decide | exact xs_ (by decide) | exact xc_ (by decide) | exact x31_ (by decide) | omega) (fun o79 => ?_)
  have e80 : ρ77 31 0 (22 * l + 20) = (V 11 l 6) := (Sρ77.a11 (s := 6) (f := 20) (by first | assumption | decide | exact xs_ (by decide) | exact xc_ (by decide) | exact x31_ (by decide) | omega) (by first | assumption | decide | exact xs_ (by decide) | exact xc_ (by decide) | exact x31_ (by decide) | omega) (by first | assumption | decide | exact xs_ (by decide) | exact xc_ (by decide) | exact x31_ (by decide) | omega)).trans ((mu_ne (by first | assumption | decide | exact xs_ (by decide) | exact xc_ (by decide) | exact x31_ (by decide) | omega)).trans ((mu_ne (by first | assumption | decide | exact xs_ (by decide) | exact xc_ (by decide) | exact x31_ (by decide) | omega)).trans ((mu_ne (by first | assumption | decide | exact xs_ (by decide) | exact xc_ (by decide) | exact x31_ (by decide) | omega)).trans ((mu_ne (by first | assumption | decide | exact xs_ (by decide) | exact xc_ (by decide) | exact x31_ (by decide) | omega)).trans ((mu_ne (by first | assumption | decide | exact xs_ (by decide) | exact xc_ (by decide) | exact x31_ (by decide) | omega)).trans ((mu_ne (by first | assumption | decide | exact xs_ (by decide) | exact xc_ (by decide) | exact x31_ (by decide) | omega)).trans ((mu_ne (by first | assumption | decide | exact xs_ (by decide) | exact xc_ (by decide) | exact x31_ (by decide) | omega)).trans ((mu_ne (by first | assumption | decide | exact xs_ (by decide) | exact xc_ (by decide) | exact x31_ (by decide) | omega)).trans ((mu_ne (by first | assumption | decide | exact xs_ (by decide) | exact xc_ (by decide) | exact x31_ (by decide) | omega)).trans ((mu_ne (by first | assumption | decide | exact xs_ (by decide) | exact xc_ (by decide) | exact x31_ (by decide) | omega)).trans ((mu_ne (by first | assumption | decide | exact xs_ (by decide) | exact xc_ (by decide) | exact x31_ (by decide) | omega)).trans ((mu_ne (by first | assumption | decide | exact xs_ (by decide) | exact xc_ (by decide) | exact x31_ (by decide) | omega)).trans ((mu_ne (by first | assumption | decide | exact xs_ (by decide) | exact xc_ (by decide) | exact x31_ (by decide) | omega)).trans ((mu_ne (by first | assumption | decide | exact xs_ (by decide) | exact xc_ (by decide) | exact x31_ (by decide) | omega)).trans ((mu_ne (by first | assumption | decide | exact xs_ (by decide) | exact xc_ (by decide) | exact x31_ (by decide) | omega)).trans ((mu_ne (by first | assumption | decide | exact xs_ (by decide) | exact xc_ (by decide) | exact x31_ (by decide) | omega)).trans ((mu_ne (by first | assumption | decide | exact xs_ (by decide) | exact xc_ (by decide) | exact x31_ (by decide) | omega)).trans (rfl))))))))))))))))))
  rw [e80] at o79 ⊢
  clear e80
  refine z_inv3 hM dX6_copyLane_17 vl_RX6_173 rfl rfl rfl (Nat.le_of_ble_eq_true rfl) (Nat.le_of_ble_eq_true rfl) ?_
  refine y_set (by first | assumption | decide | exact xs_ (by decide) | exact xc_ (by decide) | exact x31_ (by decide) | omega) (by first | assumption | decide | exact xs_ (by decide) | exact xc_ (by decide) | exact x31_ (by decide) | omega) ⟨fun h => by omega, fun h => by omega⟩ ?_
  obtain ⟨ρ81, e_ρ81⟩ : ∃ zz_, zz_ = mu ρ77 31 0 ((22 * m) + 20) (V 11 l 6) := ⟨_, rfl⟩
  rw [← e_ρ81]
  have Sρ81 : SB t σ0 (mu (mu (mu (mu (mu (mu (mu (mu (mu (mu (mu (mu (mu (mu (mu (mu (mu (mu V 7 m 1 (V 7 l 1)) 7 m 2 (V 7 l 2)) 7 m 3 (V 7 l 3)) 7 m 4 (V 7 l 4)) 7 m 5 (V 7 l 5)) 7 m 6 (V 7 l 6)) 7 m 10 (V 7 l 10)) 7 m 12 (V 7 l 12)) 7 m 13 (V 7 l 13)) 7 m 14 (V 7 l 14)) 7 m 15 (V 7 l 15)) 11 m 0 (V 11 l 0)) 11 m 1 (V 11 l 1)) 11 m 2 (V 11 l 2)) 11 m 3 (V 11 l 3)) 11 m 4 (V 11 l 4)) 11 m 5 (V 11 l 5)) 11 m 6 (V 11 l 6)) ρ81 := by rw [e_ρ81, show ((22 * m) + 20) = 22 * m + 20 from by omega]; exact Sρ77.p11 (by first | assumption | decide | exact xs_ (by decide) | exact xc_ (by decide) | exact x31_ (by decide) | omega) (by first | assumption | decide | exact xs_ (by decide) | exact xc_ (by decide) | exact x31_ (by decide) | omega) (by first | assumption | decide | exact xs_ (by decide) | exact xc_ (by decide) | exact x31_ (by decide) | omega)
  clear Sρ77
  have r16a_ρ81 : ρ81 31 0 (22 * l + 16) = (if V 11 l 3 = 0 then (0 : Int) else 1) := by rw [e_ρ81]; exact (mu_ne (by first | assumption | decide | exact xs_ (by decide) | exact xc_ (by decide) | exact x31_ (by decide) | omega)).trans r16a_ρ77
  clear r16a_ρ77
  have r17b_ρ81 : ρ81 31 0 (22 * l + 17) = 0 := by rw [e_ρ81]; exact (mu_ne (by first | assumption | decide | exact xs_ (by decide) | exact xc_ (by decide) | exact x31_ (by decide) | omega)).trans r17b_ρ77
  clear r17b_ρ77
  have r16c_ρ81 : ρ81 31 0 (22 * m + 16) = (if V 11 l 3 = 0 then (0 : Int) else 1) := by rw [e_ρ81]; exact (mu_ne (by first | assumption | decide | exact xs_ (by decide) | exact xc_ (by decide) | exact x31_ (by decide) | omega)).trans r16c_ρ77
  have r17d_ρ81 : ρ81 31 0 (22 * m + 17) = 0 := by rw [e_ρ81]; exact (mu_ne (by first | assumption | decide | exact xs_ (by decide) | exact xc_ (by decide) | exact x31_ (by decide) | omega)).trans r17d_ρ77
  have Yρ81 : FX m (mu (mu (mu (mu (mu (mu (mu (mu (mu (mu (mu (mu (mu (mu (mu (mu (mu (mu V 7 m 1 (V 7 l 1)) 7 m 2 (V 7 l 2)) 7 m 3 (V 7 l 3)) 7 m 4 (V 7 l 4)) 7 m 5 (V 7 l 5)) 7 m 6 (V 7 l 6)) 7 m 10 (V 7 l 10)) 7 m 12 (V 7 l 12)) 7 m 13 (V 7 l 13)) 7 m 14 (V 7 l 14)) 7 m 15 (V 7 l 15)) 11 m 0 (V 11 l 0)) 11 m 1 (V 11 l 1)) 11 m 2 (V 11 l 2)) 11 m 3 (V 11 l 3)) 11 m 4 (V 11 l 4)) 11 m 5 (V 11 l 5)) 11 m 6 (V 11 l 6)) ρ81 := (Yρ77).e (fun m a b c => by rw [e_ρ81]; exact mu_ne (by first | assumption | decide | exact xs_ (by decide) | exact xc_ (by decide) | exact x31_ (by decide) | omega)) (fun m y c => mu_ne (by first | assumption | decide | exact xs_ (by decide) | exact xc_ (by decide) | exact x31_ (by decide) | omega))
  clear Yρ77
  have Xρ81 : KX t m (mu (mu (mu (mu (mu (mu (mu (mu (mu (mu (mu (mu (mu (mu (mu (mu (mu (mu V 7 m 1 (V 7 l 1)) 7 m 2 (V 7 l 2)) 7 m 3 (V 7 l 3)) 7 m 4 (V 7 l 4)) 7 m 5 (V 7 l 5)) 7 m 6 (V 7 l 6)) 7 m 10 (V 7 l 10)) 7 m 12 (V 7 l 12)) 7 m 13 (V 7 l 13)) 7 m 14 (V 7 l 14)) 7 m 15 (V 7 l 15)) 11 m 0 (V 11 l 0)) 11 m 1 (V 11 l 1)) 11 m 2 (V 11 l 2)) 11 m 3 (V 11 l 3)) 11 m 4 (V 11 l 4)) 11 m 5 (V 11 l 5)) 11 m 6 (V 11 l 6)) ρ81 := (Xρ77).e (fun m a b c => by rw [e_ρ81]; exact ⟨mu_ne (by first | assumption | decide | exact xs_ (by decide) | exact xc_ (by decide) | exact x31_ (by decide) | omega), mu_ne (by first | assumption | decide | exact xs_ (by decide) | exact xc_ (by decide) | exact x31_ (by decide) | omega)⟩) (fun m c => mu_ne (by first | assumption | decide | exact xs_ (by decide) | exact xc_ (by decide) | exact x31_ (by decide) | omega))
  clear Xρ77 e_ρ81
  refine r_iincE hC (21) dX6_copyLane_20 rfl rfl (by first | assumption | decide | exact xs_ (by decide) | exact xc_ (by decide) | exact x31_ (by decide) | omega) (by unfold inR; omega) ?_
  refine r_goto (tgt := 2) hC dX6_copyLane_23 rfl ?_
  refine r_iload_n hC dX6_copyLane_2 rfl ?_
  refine r_bipush hC dX6_copyLane_3 rfl ?_
  refine r_icmp_ge (tgt := 26) hC dX6_copyLane_5 rfl (fun h82 => by omega) (fun h82 => ?_)
  refine r_aload_n hC dX6_copyLane_8 rfl ?_
  refine r_iload_n hC dX6_copyLane_9 rfl ?_
  refine r_iload_n hC dX6_copyLane_10 rfl ?_
  refine r_aload_n hC dX6_copyLane_11 rfl ?_
  refine r_iload_n hC dX6_copyLane_12 rfl ?_
  refine r_iload_n hC dX6_copyLane_13 rfl ?_
  refine z_inv2 hM dX6_copyLane_14 vl_RX6_80 rfl rfl rfl (Nat.le_of_ble_eq_true rfl) (Nat.le_of_ble_eq_true rfl) ?_
  refine y_ofU (by first | assumption | decide | exact xs_ (by decide) | exact xc_ (by decide) | exact x31_ (by decide) | omega) (by first | assumption | decide | exact xs_ (by decide) | exact xc_ (by decide) | exact x31_ (by decide) | omega) (fun vu__ => ?_)
  refine z_inv3 hM dX6_copyLane_17 vl_RX6_173 rfl rfl rfl (Nat.le_of_ble_eq_true rfl) (Nat.le_of_ble_eq_true rfl) ?_
  refine y_set (by first | assumption | decide | exact xs_ (by decide) | exact xc_ (by decide) | exact x31_ (by decide) | omega) (by first | assumption | decide | exact xs_ (by decide) | exact xc_ (by decide) | exact x31_ (by decide) | omega) ⟨fun h => by omega, fun h => by omega⟩ ?_
  obtain ⟨ρ83, e_ρ83⟩ : ∃ zz_, zz_ = mu ρ81 31 0 ((22 * m) + 21) vu__ := ⟨_, rfl⟩
  rw [← e_ρ83]
  have Sρ83 : SB t σ0 (mu (mu (mu (mu (mu (mu (mu (mu (mu (mu (mu (mu (mu (mu (mu (mu (mu (mu V 7 m 1 (V 7 l 1)) 7 m 2 (V 7 l 2)) 7 m 3 (V 7 l 3)) 7 m 4 (V 7 l 4)) 7 m 5 (V 7 l 5)) 7 m 6 (V 7 l 6)) 7 m 10 (V 7 l 10)) 7 m 12 (V 7 l 12)) 7 m 13 (V 7 l 13)) 7 m 14 (V 7 l 14)) 7 m 15 (V 7 l 15)) 11 m 0 (V 11 l 0)) 11 m 1 (V 11 l 1)) 11 m 2 (V 11 l 2)) 11 m 3 (V 11 l 3)) 11 m 4 (V 11 l 4)) 11 m 5 (V 11 l 5)) 11 m 6 (V 11 l 6)) ρ83 := by rw [e_ρ83, show ((22 * m) + 21) = 22 * m + 21 from by omega]; exact Sρ81.px (by first | assumption | decide | exact xs_ (by decide) | exact xc_ (by decide) | exact x31_ (by decide) | omega)
  clear Sρ81
  have r16a_ρ83 : ρ83 31 0 (22 * l + 16) = (if V 11 l 3 = 0 then (0 : Int) else 1) := by rw [e_ρ83]; exact (mu_ne (by first | assumption | decide | exact xs_ (by decide) | exact xc_ (by decide) | exact x31_ (by decide) | omega)).trans r16a_ρ81
  clear r16a_ρ81
  have r17b_ρ83 : ρ83 31 0 (22 * l + 17) = 0 := by rw [e_ρ83]; exact (mu_ne (by first | assumption | decide | exact xs_ (by decide) | exact xc_ (by decide) | exact x31_ (by decide) | omega)).trans r17b_ρ81
  clear r17b_ρ81
  have r16c_ρ83 : ρ83 31 0 (22 * m + 16) = (if V 11 l 3 = 0 then (0 : Int) else 1) := by rw [e_ρ83]; exact (mu_ne (by first | assumption | decide | exact xs_ (by decide) | exact xc_ (by decide) | exact x31_ (by decide) | omega)).trans r16c_ρ81
  have r17d_ρ83 : ρ83 31 0 (22 * m + 17) = 0 := by rw [e_ρ83]; exact (mu_ne (by first | assumption | decide | exact xs_ (by decide) | exact xc_ (by decide) | exact x31_ (by decide) | omega)).trans r17d_ρ81
  have r21_ρ83 : ρ83 31 0 (22 * m + 21) = vu__ := by rw [e_ρ83, show ((22 * m) + 21) = 22 * m + 21 from by omega]; exact mu_self _ _ _ _ _
  have Yρ83 : FX m (mu (mu (mu (mu (mu (mu (mu (mu (mu (mu (mu (mu (mu (mu (mu (mu (mu (mu V 7 m 1 (V 7 l 1)) 7 m 2 (V 7 l 2)) 7 m 3 (V 7 l 3)) 7 m 4 (V 7 l 4)) 7 m 5 (V 7 l 5)) 7 m 6 (V 7 l 6)) 7 m 10 (V 7 l 10)) 7 m 12 (V 7 l 12)) 7 m 13 (V 7 l 13)) 7 m 14 (V 7 l 14)) 7 m 15 (V 7 l 15)) 11 m 0 (V 11 l 0)) 11 m 1 (V 11 l 1)) 11 m 2 (V 11 l 2)) 11 m 3 (V 11 l 3)) 11 m 4 (V 11 l 4)) 11 m 5 (V 11 l 5)) 11 m 6 (V 11 l 6)) ρ83 := (Yρ81).e (fun m a b c => by rw [e_ρ83]; exact mu_ne (by first | assumption | decide | exact xs_ (by decide) | exact xc_ (by decide) | exact x31_ (by decide) | omega)) (fun m y c => rfl)
  clear Yρ81
  have Xρ83 : KX t m (mu (mu (mu (mu (mu (mu (mu (mu (mu (mu (mu (mu (mu (mu (mu (mu (mu (mu V 7 m 1 (V 7 l 1)) 7 m 2 (V 7 l 2)) 7 m 3 (V 7 l 3)) 7 m 4 (V 7 l 4)) 7 m 5 (V 7 l 5)) 7 m 6 (V 7 l 6)) 7 m 10 (V 7 l 10)) 7 m 12 (V 7 l 12)) 7 m 13 (V 7 l 13)) 7 m 14 (V 7 l 14)) 7 m 15 (V 7 l 15)) 11 m 0 (V 11 l 0)) 11 m 1 (V 11 l 1)) 11 m 2 (V 11 l 2)) 11 m 3 (V 11 l 3)) 11 m 4 (V 11 l 4)) 11 m 5 (V 11 l 5)) 11 m 6 (V 11 l 6)) ρ83 := (Xρ81).e (fun m a b c => by rw [e_ρ83]; exact ⟨mu_ne (by first | assumption | decide | exact xs_ (by decide) | exact xc_ (by decide) | exact x31_ (by decide) | omega), mu_ne (by first | assumption | decide | exact xs_ (by decide) | exact xc_ (by decide) | exact x31_ (by decide) | omega)⟩) (fun m c => rfl)
  clear Xρ81 e_ρ83
  refine r_iincE hC (22) dX6_copyLane_20 rfl rfl (by first | assumption | decide | exact xs_ (by decide) | exact xc_ (by decide) | exact x31_ (by decide) | omega) (by unfold inR; omega) ?_
  refine r_goto (tgt := 2) hC dX6_copyLane_23 rfl ?_
  refine r_iload_n hC dX6_copyLane_2 rfl ?_
  refine r_bipush hC dX6_copyLane_3 rfl ?_
  refine r_icmp_ge (tgt := 26) hC dX6_copyLane_5 rfl (fun h84 => ?_) (fun h84 => by omega)
  have hV : (mu (mu (mu (mu (mu (mu (mu (mu (mu (mu (mu (mu (mu (mu (mu (mu (mu (mu V 7 m 1 (V 7 l 1)) 7 m 2 (V 7 l 2)) 7 m 3 (V 7 l 3)) 7 m 4 (V 7 l 4)) 7 m 5 (V 7 l 5)) 7 m 6 (V 7 l 6)) 7 m 10 (V 7 l 10)) 7 m 12 (V 7 l 12)) 7 m 13 (V 7 l 13)) 7 m 14 (V 7 l 14)) 7 m 15 (V 7 l 15)) 11 m 0 (V 11 l 0)) 11 m 1 (V 11 l 1)) 11 m 2 (V 11 l 2)) 11 m 3 (V 11 l 3)) 11 m 4 (V 11 l 4)) 11 m 5 (V 11 l 5)) 11 m 6 (V 11 l 6)) = cpA V l m := cpA_eq.symm
  have qS := Sρ83
  clear Sρ83
  have qX := Xρ83
  clear Xρ83
  have qY := Yρ83
  clear Yρ83
  rw [hV] at qS qX qY
  have zS : SB t σ0 (mu (cpA V l m) 7 m 0 vu__) ρ83 := qS.v0
  have zK : KF t (mu (cpA V l m) 7 m 0 vu__) ρ83 := (qX.kf (r16c_ρ83.trans (by rw [cpA_11 (by first | assumption | decide | exact xs_ (by decide) | exact xc_ (by decide) | exact x31_ (by decide) | omega)])) r17d_ρ83).v (fun l => mu_ne (by first | assumption | decide | exact xs_ (by decide) | exact xc_ (by decide) | exact x31_ (by decide) | omega))
  have zF : FB (mu (cpA V l m) 7 m 0 vu__) ρ83 := qY.fb r21_ρ83
  refine r_iconst hC dX6_copyLane_26 rfl ?_
  refine r_istore_n hC dX6_copyLane_27 rfl ?_
  have L28 : ∀ (n28 : Nat) (w85 : Int) (ρ86 W86 : Mm), 0 ≤ w85 ∧ w85 ≤ 121 → ((w85) ≤ V 7 l 6) → 121 - w85 < (n28 : Int) → (RS t σ0 W86 ρ86) → (W86 = cpB (mu (cpA V l m) 7 m 0 vu__) l m (w85)) → K 28 [some (vR 30 0), some (vI l), some (vI m), some (vI w85)] [] ρ86 := by
    intro n28
    induction n28 with
    | zero => intro w85 ρ86 W86 f_w85 i0_28 hm  m0_28 m1_28; omega
    | succ n28 ih28 =>
      intro w85 ρ86 W86 f_w85 i0_28 hm28  m0_28 m1_28
      have e6 : W86 7 l 6 = V 7 l 6 := by rw [m1_28, cpB_7, mu_ne (by first | assumption | decide | exact xs_ (by decide) | exact xc_ (by decide) | exact x31_ (by decide) | omega), cpA_ne (by first | assumption | decide | exact xs_ (by decide) | exact xc_ (by decide) | exact x31_ (by decide) | omega)]
      refine r_iload_n hC dX6_copyLane_28 rfl ?_
      refine r_aload_n hC dX6_copyLane_29 rfl ?_
      refine r_iload_n hC dX6_copyLane_30 rfl ?_
      refine z_inv1 hM dX6_copyLane_31 vl_RX6_116 rfl rfl rfl (Nat.le_of_ble_eq_true rfl) (Nat.le_of_ble_eq_true rfl) ?_
      refine y_heldOf (by first | assumption | decide | exact xs_ (by decide) | exact xc_ (by decide) | exact x31_ (by decide) | omega) (fun o87 => ?_)
      have e88 : ρ86 31 0 (22 * l + 5) = (W86 7 l 6) := (m0_28.1.a7 (s := 6) (f := 5) (by first | assumption | decide | exact xs_ (by decide) | exact xc_ (by decide) | exact x31_ (by decide) | omega) (by first | assumption | decide | exact xs_ (by decide) | exact xc_ (by decide) | exact x31_ (by decide) | omega) (by first | assumption | decide | exact xs_ (by decide) | exact xc_ (by decide) | exact x31_ (by decide) | omega)).trans (rfl)
      rw [e88] at o87 ⊢
      clear e88
      have qo87 : 0 ≤ (W86 7 l 6) ∧ (W86 7 l 6) ≤ 121 := o87.1 (by first | assumption | decide | exact xs_ (by decide) | exact xc_ (by decide) | exact x31_ (by decide) | omega)
      refine r_icmp_ge (tgt := 59) hC dX6_copyLane_34 rfl (fun h89 => ?_) (fun h89 => ?_)
      · refine y_vret hK rfl dX6_copyLane_59 ?_
        have q := m0_28
        rw [m1_28, show w85 = V 7 l 6 from by omega, cpM_fin (by first | assumption | decide | exact xs_ (by decide) | exact xc_ (by decide) | exact x31_ (by decide) | omega)] at q
        exact k _ _ q
      · refine r_aload_n hC dX6_copyLane_37 rfl ?_
        refine r_bipush hC dX6_copyLane_38 rfl ?_
        refine r_iload_n hC dX6_copyLane_40 rfl ?_
        refine r_imulE hC ((121 * l)) dX6_copyLane_41 (by first | assumption | decide | exact xs_ (by decide) | exact xc_ (by decide) | exact x31_ (by decide) | omega) (by unfold inR; omega) ?_
        refine r_iload_n hC dX6_copyLane_42 rfl ?_
        refine r_iaddE hC (((121 * l) + w85)) dX6_copyLane_43 (by first | assumption | decide | exact xs_ (by decide) | exact xc_ (by decide) | exact x31_ (by decide) | omega) (by unfold inR; omega) ?_
        refine r_bipush hC dX6_copyLane_44 rfl ?_
        refine r_iload_n hC dX6_copyLane_46 rfl ?_
        refine r_imulE hC ((121 * m)) dX6_copyLane_47 (by first | assumption | decide | exact xs_ (by decide) | exact xc_ (by decide) | exact x31_ (by decide) | omega) (by unfold inR; omega) ?_
        refine r_iload_n hC dX6_copyLane_48 rfl ?_
        refine r_iaddE hC (((121 * m) + w85)) dX6_copyLane_49 (by first | assumption | decide | exact xs_ (by decide) | exact xc_ (by decide) | exact x31_ (by decide) | omega) (by unfold inR; omega) ?_
        refine z_inv2 hM dX6_copyLane_50 vl_RX6_213 rfl rfl rfl (Nat.le_of_ble_eq_true rfl) (Nat.le_of_ble_eq_true rfl) ?_
        refine y_copyEvent (V := W86) (l := l) (a := w85) (m := m) (b := w85) (by first | assumption | decide | exact xs_ (by decide) | exact xc_ (by decide) | exact x31_ (by decide) | omega) (by first | assumption | decide | exact xs_ (by decide) | exact xc_ (by decide) | exact x31_ (by decide) | omega) ht ⟨m0_28.1, m0_28.2.1, m0_28.2.2⟩ (by first | assumption | decide | exact xs_ (by decide) | exact xc_ (by decide) | exact x31_ (by decide) | omega) (by first | assumption | decide | exact xs_ (by decide) | exact xc_ (by decide) | exact x31_ (by decide) | omega) (by first | assumption | decide | exact xs_ (by decide) | exact xc_ (by decide) | exact x31_ (by decide) | omega) (by first | assumption | decide | exact xs_ (by decide) | exact xc_ (by decide) | exact x31_ (by decide) | omega) (by first | assumption | decide | exact xs_ (by decide) | exact xc_ (by decide) | exact x31_ (by decide) | omega) (by first | assumption | decide | exact xs_ (by decide) | exact xc_ (by decide) | exact x31_ (by decide) | omega) (fun ρ90 Rρ90 => ?_)
        refine r_iincE hC ((w85 + 1)) dX6_copyLane_53 rfl rfl (by first | assumption | decide | exact xs_ (by decide) | exact xc_ (by decide) | exact x31_ (by decide) | omega) (by unfold inR; omega) ?_
        refine r_goto (tgt := 28) hC dX6_copyLane_56 rfl ?_
        exact ih28 ((w85 + 1)) ρ90 (ceM W86 l w85 m w85) (by first | assumption | decide | exact xs_ (by decide) | exact xc_ (by decide) | exact x31_ (by decide) | omega) (by first | assumption | decide | exact xs_ (by decide) | exact xc_ (by decide) | exact x31_ (by decide) | omega) (by first | assumption | decide | exact xs_ (by decide) | exact xc_ (by decide) | exact x31_ (by decide) | omega)  (⟨Rρ90.1, Rρ90.2.1, Rρ90.2.2⟩) (by rw [m1_28]; exact cpB_s (by first | assumption | decide | exact xs_ (by decide) | exact xc_ (by decide) | exact x31_ (by decide) | omega) (by first | assumption | decide | exact xs_ (by decide) | exact xc_ (by decide) | exact x31_ (by decide) | omega))
  exact L28 123 (0) ρ83 (mu (cpA V l m) 7 m 0 vu__) (by first | assumption | decide | exact xs_ (by decide) | exact xc_ (by decide) | exact x31_ (by decide) | omega) (by first | assumption | decide | exact xs_ (by decide) | exact xc_ (by decide) | exact x31_ (by decide) | omega) (by first | assumption | decide | exact xs_ (by decide) | exact xc_ (by decide) | exact x31_ (by decide) | omega)  (⟨zS, zK, zF⟩) (cpB_0.symm)
theorem y_copyLane {eb : Bool} {t : Int} {V : Mm} {d : Nat} {P : Option Vl → Mm → Prop} {σ : Mm} {l m : Int} (b_l : 0 ≤ l ∧ l ≤ 6) (b_m : 0 ≤ m ∧ m ≤ 6) {σ0 : Mm} (ht : 6 ≤ t ∧ t ≤ 7) (hR : RS t σ0 V σ) (hlm : l ≠ m)  (k : ∀ (v : Int) (ρ : Mm), RS t σ0 (mu (cpM V l m) 7 m 0 v) ρ → P none ρ) : WT (true, eb, true) (d + 3) 253 [vR 30 0, vI l, vI m] σ P := y_copyLaneG b_l (by first | assumption | decide | exact xs_ (by decide) | exact xc_ (by decide) | exact x31_ (by decide) | omega) ht hR.1 (hR.2.1.kx m) hR.2.2 (by first | assumption | decide | exact xs_ (by decide) | exact xc_ (by decide) | exact x31_ (by decide) | omega) hlm k
theorem y_keep {eb : Bool} {t : Int} {V : Mm} {d : Nat} {P : Option Vl → Mm → Prop} {σ : Mm} {l x : Int}  {σ0 : Mm} (ht : 6 ≤ t ∧ t ≤ 7) (hR : RS t σ0 V σ) (hG : GI V)  (k : ∀ ρ : Mm, RS t σ0 (kpM V l x) ρ → P (some (vI (kpR V l x))) ρ) : WT (true, eb, true) (d + 4) 254 [vR 30 0, vI l, vI x] σ P := by
  refine WT_in fun K hK => ?_
  have hK : StpY (true, eb, true) cX6_keep RX6 (some .int) (WT (true, eb, true) (d + 3)) P K := hK
  have hM := hK.1
  have hC := hK.1.1
  show K 0 [some (vR 30 0), some (vI l), some (vI x)] [] σ
  refine r_rngz hC (fun g0 => ?_)
  have r_l : -2147483648 ≤ l ∧ l ≤ 2147483647 := inR_le (g0 (vI l) (by simp))
  have r_x : -2147483648 ≤ x ∧ x ≤ 2147483647 := inR_le (g0 (vI x) (by simp))
  refine r_aload_n hC dX6_keep_0 rfl ?_
  refine r_iload_n hC dX6_keep_1 rfl ?_
  refine z_inv1 hM dX6_keep_2 vl_RX6_124 rfl rfl rfl (Nat.le_of_ble_eq_true rfl) (Nat.le_of_ble_eq_true rfl) ?_
  refine y_isLane (V := V) ht ⟨hR.1, hR.2.1, hR.2.2⟩ (fun h1 => ?_) (fun h1 => ?_)
  · unfold opV at h1
    refine r_if_eq (tgt := 17) hC dX6_keep_5 rfl (fun h2 => by omega) (fun h2 => ?_)
    refine r_iload_n hC dX6_keep_8 rfl ?_
    refine r_iconst hC dX6_keep_9 rfl ?_
    refine r_iconst hC dX6_keep_10 rfl ?_
    refine z_ins3 hM dX6_keep_11 tl_RX6_76 rfl (Nat.le_of_ble_eq_true rfl) (Nat.le_of_ble_eq_true rfl) ?_
    refine m_isIn (fun h4 => ?_) (fun h4 => ?_)
    · refine r_if_ne (tgt := 19) hC dX6_keep_14 rfl (fun h5 => ?_) (fun h5 => by omega)
      refine r_aload_n hC dX6_keep_19 rfl ?_
      refine r_iload_n hC dX6_keep_20 rfl ?_
      refine r_iconst hC dX6_keep_21 rfl ?_
      refine r_iload_n hC dX6_keep_22 rfl ?_
      refine r_iaddE hC ((x + 4)) dX6_keep_23 (by first | assumption | decide | exact xs_ (by decide) | exact xc_ (by decide) | exact x31_ (by decide) | omega) (by unfold inR; omega) ?_
      refine z_inv2 hM dX6_keep_24 vl_RX6_292 rfl rfl rfl (Nat.le_of_ble_eq_true rfl) (Nat.le_of_ble_eq_true rfl) ?_
      refine y_copyLane (V := V) (by first | assumption | decide | exact xs_ (by decide) | exact xc_ (by decide) | exact x31_ (by decide) | omega) (by first | assumption | decide | exact xs_ (by decide) | exact xc_ (by decide) | exact x31_ (by decide) | omega) ht ⟨hR.1, hR.2.1, hR.2.2⟩ (by first | assumption | decide | exact xs_ (by decide) | exact xc_ (by decide) | exact x31_ (by decide) | omega) (fun vc7 ρ6 Rρ6 => ?_)
      have fx_ρ6 := (Rρ6.2.2).fx (x + 4)
      refine r_aload_n hC dX6_keep_27 rfl ?_
      refine r_iconst hC dX6_keep_28 rfl ?_
      refine r_iload_n hC dX6_keep_29 rfl ?_
      refine r_iaddE hC ((x + 4)) dX6_keep_30 (by first | assumption | decide | exact xs_ (by decide) | exact xc_ (by decide) | exact x31_ (by decide) | omega) (by unfold inR; omega) ?_
      refine r_bipush hC dX6_keep_31 rfl ?_
      refine r_iload_n hC dX6_keep_33 rfl ?_
      refine z_inv3 hM dX6_keep_34 vl_RX6_173 rfl rfl rfl (Nat.le_of_ble_eq_true rfl) (Nat.le_of_ble_eq_true rfl) ?_
      refine y_set (by first | assumption | decide | exact xs_ (by decide) | exact xc_ (by decide) | exact x31_ (by decide) | omega) (by first | assumption | decide | exact xs_ (by decide) | exact xc_ (by decide) | exact x31_ (by decide) | omega) ⟨fun h => by omega, fun h => by omega⟩ ?_
      obtain ⟨ρ8, e_ρ8⟩ : ∃ zz_, zz_ = mu ρ6 31 0 ((22 * (x + 4)) + 21) l := ⟨_, rfl⟩
      rw [← e_ρ8]
      have Sρ8 : SB t σ0 (mu (cpM V l (x + 4)) 7 (x + 4) 0 vc7) ρ8 := by rw [e_ρ8, show ((22 * (x + 4)) + 21) = 22 * (x + 4) + 21 from by omega]; exact Rρ6.1.px (by first | assumption | decide | exact xs_ (by decide) | exact xc_ (by decide) | exact x31_ (by decide) | omega)
      have r21_ρ8 : ρ8 31 0 (22 * (x + 4) + 21) = l := by rw [e_ρ8, show ((22 * (x + 4)) + 21) = 22 * (x + 4) + 21 from by omega]; exact mu_self _ _ _ _ _
      have Yρ8 : FX (x + 4) (mu (cpM V l (x + 4)) 7 (x + 4) 0 vc7) ρ8 := (fx_ρ6).e (fun m a b c => by rw [e_ρ8]; exact mu_ne (by first | assumption | decide | exact xs_ (by decide) | exact xc_ (by decide) | exact x31_ (by decide) | omega)) (fun m y c => rfl)
      have Kρ8 : KF t (mu (cpM V l (x + 4)) 7 (x + 4) 0 vc7) ρ8 := by rw [e_ρ8]; exact (Rρ6.2.1).e (fun l a b => ⟨mu_ne (by first | assumption | decide | exact xs_ (by decide) | exact xc_ (by decide) | exact x31_ (by decide) | omega), mu_ne (by first | assumption | decide | exact xs_ (by decide) | exact xc_ (by decide) | exact x31_ (by decide) | omega)⟩)
      clear e_ρ8
      have hx0 : V 7 l 0 = l := hG.1.1 l (by first | assumption | decide | exact xs_ (by decide) | exact xc_ (by decide) | exact x31_ (by decide) | omega) (by first | assumption | decide | exact xs_ (by decide) | exact xc_ (by decide) | exact x31_ (by decide) | omega)
      have hV : mu (mu (cpM V l (x + 4)) 7 (x + 4) 0 vc7) 7 (x + 4) 0 l = (cpM V l (x + 4)) := mu_back (cpM_0.trans hx0)
      have zS := (Sρ8).v0 (b := (x + 4)) (a := l)
      clear Sρ8
      rw [hV] at zS
      have zK : KF t (cpM V l (x + 4)) ρ8 := (Kρ8).v (fun m => (mu_ne (by first | assumption | decide | exact xs_ (by decide) | exact xc_ (by decide) | exact x31_ (by decide) | omega)).symm)
      clear Kρ8
      have zF := (Yρ8).fb r21_ρ8
      clear Yρ8
      rw [hV] at zF
      refine r_aload_n hC dX6_keep_37 rfl ?_
      refine r_iload_n hC dX6_keep_38 rfl ?_
      refine z_inv1 hM dX6_keep_39 vl_RX6_116 rfl rfl rfl (Nat.le_of_ble_eq_true rfl) (Nat.le_of_ble_eq_true rfl) ?_
      refine y_heldOf (by first | assumption | decide | exact xs_ (by decide) | exact xc_ (by decide) | exact x31_ (by decide) | omega) (fun o9 => ?_)
      have e10 : ρ8 31 0 (22 * l + 5) = (V 7 l 6) := (zS.a7 (s := 6) (f := 5) (by first | assumption | decide | exact xs_ (by decide) | exact xc_ (by decide) | exact x31_ (by decide) | omega) (by first | assumption | decide | exact xs_ (by decide) | exact xc_ (by decide) | exact x31_ (by decide) | omega) (by first | assumption | decide | exact xs_ (by decide) | exact xc_ (by decide) | exact x31_ (by decide) | omega)).trans ((cpM_ne (by first | assumption | decide | exact xs_ (by decide) | exact xc_ (by decide) | exact x31_ (by decide) | omega)).trans (rfl))
      rw [e10] at o9 ⊢
      clear e10
      have qo9 : 0 ≤ (V 7 l 6) ∧ (V 7 l 6) ≤ 121 := o9.1 (by first | assumption | decide | exact xs_ (by decide) | exact xc_ (by decide) | exact x31_ (by decide) | omega)
      refine y_iret hK rfl dX6_keep_42 ?_
      have hM : kpM V l x = (cpM V l (x + 4)) := by
        exact if_pos ⟨by unfold opV; omega, by omega, by omega⟩
      have hRr : kpR V l x = (V 7 l 6) := by
        exact if_pos ⟨by unfold opV; omega, by omega, by omega⟩
      rw [hM] at k
      rw [hRr] at k
      exact k _ ⟨zS, zK, zF⟩
    · refine r_if_ne (tgt := 19) hC dX6_keep_14 rfl (fun h11 => by omega) (fun h11 => ?_)
      refine r_iconst hC dX6_keep_17 rfl ?_
      refine y_iret hK rfl dX6_keep_18 ?_
      have hM : kpM V l x = V := by
        exact if_neg (by unfold kpC opV; omega)
      have hRr : kpR V l x = (-1) := by
        exact if_neg (by unfold kpC opV; omega)
      rw [hM] at k
      rw [hRr] at k
      exact k _ ⟨hR.1, hR.2.1, hR.2.2⟩
  · unfold opV at h1
    refine r_if_eq (tgt := 17) hC dX6_keep_5 rfl (fun h12 => ?_) (fun h12 => by omega)
    refine r_iconst hC dX6_keep_17 rfl ?_
    refine y_iret hK rfl dX6_keep_18 ?_
    have hM : kpM V l x = V := by
      exact if_neg (by unfold kpC opV; omega)
    have hRr : kpR V l x = (-1) := by
      exact if_neg (by unfold kpC opV; omega)
    rw [hM] at k
    rw [hRr] at k
    exact k _ ⟨hR.1, hR.2.1, hR.2.2⟩
theorem y_back {eb : Bool} {t : Int} {V : Mm} {d : Nat} {P : Option Vl → Mm → Prop} {σ : Mm} {x : Int}  {σ0 : Mm} (ht : 6 ≤ t ∧ t ≤ 7) (hR : RS t σ0 V σ) (hG : GI V)  (k : ∀ ρ : Mm, RS t σ0 (bkM V x) ρ → P (some (vI (bkR V x))) ρ) : WT (true, eb, true) (d + 4) 255 [vR 30 0, vI x] σ P := by
  refine WT_in fun K hK => ?_
  have hK : StpY (true, eb, true) cX6_back RX6 (some .int) (WT (true, eb, true) (d + 3)) P K := hK
  have hM := hK.1
  have hC := hK.1.1
  show K 0 [some (vR 30 0), some (vI x), none] [] σ
  refine r_rngz hC (fun g0 => ?_)
  have r_x : -2147483648 ≤ x ∧ x ≤ 2147483647 := inR_le (g0 (vI x) (by simp))
  refine r_iload_n hC dX6_back_0 rfl ?_
  refine r_iconst hC dX6_back_1 rfl ?_
  refine r_iconst hC dX6_back_2 rfl ?_
  refine z_ins3 hM dX6_back_3 tl_RX6_76 rfl (Nat.le_of_ble_eq_true rfl) (Nat.le_of_ble_eq_true rfl) ?_
  refine m_isIn (fun h2 => ?_) (fun h2 => ?_)
  · refine r_if_eq (tgt := 20) hC dX6_back_6 rfl (fun h3 => by omega) (fun h3 => ?_)
    refine r_aload_n hC dX6_back_9 rfl ?_
    refine r_iconst hC dX6_back_10 rfl ?_
    refine r_iload_n hC dX6_back_11 rfl ?_
    refine r_iaddE hC ((x + 4)) dX6_back_12 (by first | assumption | decide | exact xs_ (by decide) | exact xc_ (by decide) | exact x31_ (by decide) | omega) (by unfold inR; omega) ?_
    refine r_iconst hC dX6_back_13 rfl ?_
    refine z_inv2 hM dX6_back_14 vl_RX6_80 rfl rfl rfl (Nat.le_of_ble_eq_true rfl) (Nat.le_of_ble_eq_true rfl) ?_
    refine y_of (by first | assumption | decide | exact xs_ (by decide) | exact xc_ (by decide) | exact x31_ (by decide) | omega) (by first | assumption | decide | exact xs_ (by decide) | exact xc_ (by decide) | exact x31_ (by decide) | omega) (by first | assumption | decide | exact xs_ (by decide) | exact xc_ (by decide) | exact x31_ (by decide) | omega) (fun o4 => ?_)
    have e5 : σ 31 0 (22 * (x + 4) + 0) = (V 7 (x + 4) 1) := (hR.1.a7 (s := 1) (f := 0) (by first | assumption | decide | exact xs_ (by decide) | exact xc_ (by decide) | exact x31_ (by decide) | omega) (by first | assumption | decide | exact xs_ (by decide) | exact xc_ (by decide) | exact x31_ (by decide) | omega) (by first | assumption | decide | exact xs_ (by decide) | exact xc_ (by decide) | exact x31_ (by decide) | omega)).trans (rfl)
    rw [e5] at o4 ⊢
    clear e5
    have qo4 : 0 ≤ (V 7 (x + 4) 1) ∧ (V 7 (x + 4) 1) ≤ 1 := by have := o4.2 (by first | assumption | decide | exact xs_ (by decide) | exact xc_ (by decide) | exact x31_ (by decide) | omega); omega
    refine r_if_ne (tgt := 22) hC dX6_back_17 rfl (fun h6 => ?_) (fun h6 => ?_)
    · have hbx := hG.2.1.2.2.2.2.1 (x + 4) (by first | assumption | decide | exact xs_ (by decide) | exact xc_ (by decide) | exact x31_ (by decide) | omega) (by first | assumption | decide | exact xs_ (by decide) | exact xc_ (by decide) | exact x31_ (by decide) | omega) (by first | assumption | decide | exact xs_ (by decide) | exact xc_ (by decide) | exact x31_ (by decide) | omega)
      have hfb : σ 31 0 (22 * (x + 4) + 21) = (V 7 (x + 4) 0) := hR.2.2 (x + 4) (by first | assumption | decide | exact xs_ (by decide) | exact xc_ (by decide) | exact x31_ (by decide) | omega) (by first | assumption | decide | exact xs_ (by decide) | exact xc_ (by decide) | exact x31_ (by decide) | omega) (by first | assumption | decide | exact xs_ (by decide) | exact xc_ (by decide) | exact x31_ (by decide) | omega)
      refine r_aload_n hC dX6_back_22 rfl ?_
      refine r_iconst hC dX6_back_23 rfl ?_
      refine r_iload_n hC dX6_back_24 rfl ?_
      refine r_iaddE hC ((x + 4)) dX6_back_25 (by first | assumption | decide | exact xs_ (by decide) | exact xc_ (by decide) | exact x31_ (by decide) | omega) (by unfold inR; omega) ?_
      refine r_bipush hC dX6_back_26 rfl ?_
      refine z_inv2 hM dX6_back_28 vl_RX6_80 rfl rfl rfl (Nat.le_of_ble_eq_true rfl) (Nat.le_of_ble_eq_true rfl) ?_
      refine y_of (by first | assumption | decide | exact xs_ (by decide) | exact xc_ (by decide) | exact x31_ (by decide) | omega) (by first | assumption | decide | exact xs_ (by decide) | exact xc_ (by decide) | exact x31_ (by decide) | omega) (by first | assumption | decide | exact xs_ (by decide) | exact xc_ (by decide) | exact x31_ (by decide) | omega) (fun o7 => ?_)
      rw [hfb]
      refine r_istore_n hC dX6_back_31 rfl ?_
      refine r_aload_n hC dX6_back_32 rfl ?_
      refine r_iconst hC dX6_back_33 rfl ?_
      refine r_iload_n hC dX6_back_34 rfl ?_
      refine r_iaddE hC ((x + 4)) dX6_back_35 (by first | assumption | decide | exact xs_ (by decide) | exact xc_ (by decide) | exact x31_ (by decide) | omega) (by unfold inR; omega) ?_
      refine r_iload_n hC dX6_back_36 rfl ?_
      refine z_inv2 hM dX6_back_37 vl_RX6_292 rfl rfl rfl (Nat.le_of_ble_eq_true rfl) (Nat.le_of_ble_eq_true rfl) ?_
      refine y_copyLane (V := V) (by first | assumption | decide | exact xs_ (by decide) | exact xc_ (by decide) | exact x31_ (by decide) | omega) (by first | assumption | decide | exact xs_ (by decide) | exact xc_ (by decide) | exact x31_ (by decide) | omega) ht ⟨hR.1, hR.2.1, hR.2.2⟩ (by first | assumption | decide | exact xs_ (by decide) | exact xc_ (by decide) | exact x31_ (by decide) | omega) (fun vc9 ρ8 Rρ8 => ?_)
      have fx_ρ8 := (Rρ8.2.2).fx (V 7 (x + 4) 0)
      have hV : mu (mu (cpM V (x + 4) (V 7 (x + 4) 0)) 7 (V 7 (x + 4) 0) 0 vc9) 7 (V 7 (x + 4) 0) 0 ((cpM V (x + 4) (V 7 (x + 4) 0)) 7 (V 7 (x + 4) 0) 0) = (cpM V (x + 4) (V 7 (x + 4) 0)) := mu_back rfl
      have zS := (Rρ8.1).v0 (b := (V 7 (x + 4) 0)) (a := (cpM V (x + 4) (V 7 (x + 4) 0)) 7 (V 7 (x + 4) 0) 0)
      rw [hV] at zS
      have zK : KF t (cpM V (x + 4) (V 7 (x + 4) 0)) ρ8 := (Rρ8.2.1).v (fun m => (mu_ne (by first | assumption | decide | exact xs_ (by decide) | exact xc_ (by decide) | exact x31_ (by decide) | omega)).symm)
      have zF : FB (cpM V (x + 4) (V 7 (x + 4) 0)) ρ8 := (Rρ8.2.2).v (fun m y a b c => (mu_ne (by first | assumption | decide | exact xs_ (by decide) | exact xc_ (by decide) | exact x31_ (by decide) | omega)).symm)
      refine r_aload_n hC dX6_back_40 rfl ?_
      refine r_iload_n hC dX6_back_41 rfl ?_
      refine z_inv1 hM dX6_back_42 vl_RX6_176 rfl rfl rfl (Nat.le_of_ble_eq_true rfl) (Nat.le_of_ble_eq_true rfl) ?_
      refine y_endWatches (V := (cpM V (x + 4) (V 7 (x + 4) 0))) (by first | assumption | decide | exact xs_ (by decide) | exact xc_ (by decide) | exact x31_ (by decide) | omega) ht ⟨zS, zK, zF⟩ (fun ρ10 Rρ10 => ?_)
      refine r_aload_n hC dX6_back_45 rfl ?_
      refine r_iload_n hC dX6_back_46 rfl ?_
      refine z_inv1 hM dX6_back_47 vl_RX6_179 rfl rfl rfl (Nat.le_of_ble_eq_true rfl) (Nat.le_of_ble_eq_true rfl) ?_
      refine y_endLinks (V := (etA (cpM V (x + 4) (V 7 (x + 4) 0)) (V 7 (x + 4) 0) 8)) (by first | assumption | decide | exact xs_ (by decide) | exact xc_ (by decide) | exact x31_ (by decide) | omega) ht ⟨Rρ10.1, Rρ10.2.1, Rρ10.2.2⟩ (fun ρ11 Rρ11 => ?_)
      refine r_aload_n hC dX6_back_50 rfl ?_
      refine r_iload_n hC dX6_back_51 rfl ?_
      refine z_inv1 hM dX6_back_52 vl_RX6_116 rfl rfl rfl (Nat.le_of_ble_eq_true rfl) (Nat.le_of_ble_eq_true rfl) ?_
      refine y_heldOf (by first | assumption | decide | exact xs_ (by decide) | exact xc_ (by decide) | exact x31_ (by decide) | omega) (fun o12 => ?_)
      have e13 : ρ11 31 0 (22 * (V 7 (x + 4) 0) + 5) = (V 7 (x + 4) 6) := (Rρ11.1.a7 (s := 6) (f := 5) (by first | assumption | decide | exact xs_ (by decide) | exact xc_ (by decide) | exact x31_ (by decide) | omega) (by first | assumption | decide | exact xs_ (by decide) | exact xc_ (by decide) | exact x31_ (by decide) | omega) (by first | assumption | decide | exact xs_ (by decide) | exact xc_ (by decide) | exact x31_ (by decide) | omega)).trans (((if_neg (by first | assumption | decide | exact xs_ (by decide) | exact xc_ (by decide) | exact x31_ (by decide) | omega))).trans (((if_neg (by first | assumption | decide | exact xs_ (by decide) | exact xc_ (by decide) | exact x31_ (by decide) | omega))).trans (cpM_6)))
      rw [e13] at o12 ⊢
      clear e13
      have qo12 : 0 ≤ (V 7 (x + 4) 6) ∧ (V 7 (x + 4) 6) ≤ 121 := o12.1 (by first | assumption | decide | exact xs_ (by decide) | exact xc_ (by decide) | exact x31_ (by decide) | omega)
      refine y_iret hK rfl dX6_back_55 ?_
      have hM : bkM V x = (etB (etA (cpM V (x + 4) (V 7 (x + 4) 0)) (V 7 (x + 4) 0) 8) (V 7 (x + 4) 0) 4) := by
        exact if_pos ⟨by omega, by omega⟩
      have hRr : bkR V x = (V 7 (x + 4) 6) := by
        exact if_pos ⟨by omega, by omega⟩
      rw [hM] at k
      rw [hRr] at k
      exact k _ ⟨Rρ11.1, Rρ11.2.1, Rρ11.2.2⟩
    · refine r_iconst hC dX6_back_20 rfl ?_
      refine y_iret hK rfl dX6_back_21 ?_
      have hM : bkM V x = V := by
        exact if_neg (by first | assumption | decide | exact xs_ (by decide) | exact xc_ (by decide) | exact x31_ (by decide) | omega)
      have hRr : bkR V x = (-1) := by
        exact if_neg (by first | assumption | decide | exact xs_ (by decide) | exact xc_ (by decide) | exact x31_ (by decide) | omega)
      rw [hM] at k
      rw [hRr] at k
      exact k _ ⟨hR.1, hR.2.1, hR.2.2⟩
  · refine r_if_eq (tgt := 20) hC dX6_back_6 rfl (fun h14 => ?_) (fun h14 => by omega)
    refine r_iconst hC dX6_back_20 rfl ?_
    refine y_iret hK rfl dX6_back_21 ?_
    have hM : bkM V x = V := by
      exact if_neg (by first | assumption | decide | exact xs_ (by decide) | exact xc_ (by decide) | exact x31_ (by decide) | omega)
    have hRr : bkR V x = (-1) := by
      exact if_neg (by first | assumption | decide | exact xs_ (by decide) | exact xc_ (by decide) | exact x31_ (by decide) | omega)
    rw [hM] at k
    rw [hRr] at k
    exact k _ ⟨hR.1, hR.2.1, hR.2.2⟩
