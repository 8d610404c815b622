-- B: the reference's places, held against the class's: V is told in the class's places; t: the last LANE that is looked at (6, or 7 with the one that is tried)
abbrev P7 (s f : Int) : Prop := (s = 1 ∧ f = 0) ∨ (s = 2 ∧ f = 1) ∨ (s = 3 ∧ f = 2) ∨ (s = 4 ∧ f = 3) ∨ (s = 5 ∧ f = 4) ∨ (s = 6 ∧ f = 5) ∨ (s = 10 ∧ f = 6) ∨ (s = 12 ∧ f = 8) ∨ (s = 13 ∧ f = 9) ∨ (s = 14 ∧ f = 10) ∨ (s = 15 ∧ f = 11)
abbrev P11 (s f : Int) : Prop := (s = 0 ∧ f = 12) ∨ (s = 1 ∧ f = 13) ∨ (s = 2 ∧ f = 14) ∨ (s = 3 ∧ f = 15) ∨ (s = 4 ∧ f = 18) ∨ (s = 5 ∧ f = 19) ∨ (s = 6 ∧ f = 20)
/-- the reference holds what V says; the class's places are those of σ0 -/
def SB (t : Int) (σ0 V ρ : Mm) : Prop :=
  (∀ l s f : Int, 0 ≤ l → l ≤ t → P7 s f → ρ 31 0 (22 * l + f) = V 7 l s) ∧
  (∀ l s f : Int, 0 ≤ l → l ≤ t → P11 s f → ρ 31 0 (22 * l + f) = V 11 l s) ∧
  (∀ l y : Int, 0 ≤ l → l ≤ t → 0 ≤ y → y ≤ 120 → ρ 32 0 (121 * l + y) = V 8 l y ∧ ρ 33 0 (121 * l + y) = V 9 l y ∧ ρ 34 0 (121 * l + y) = V 10 l y) ∧
  (∀ w : Int, 0 ≤ w → w ≤ 7 → ρ 39 0 w = V 12 w 0 ∧ ρ 40 0 w = V 12 w 1 ∧ ρ 41 0 w = V 12 w 2 ∧ ρ 42 0 w = V 12 w 3 ∧ ρ 43 0 w = V 12 w 4 ∧ ρ 44 0 w = V 12 w 5) ∧
  (∀ i : Int, 0 ≤ i → i ≤ 3 → ρ 45 0 i = V 13 i 0 ∧ ρ 46 0 i = V 13 i 1 ∧ ρ 47 0 i = V 13 i 2 ∧ ρ 48 0 i = V 13 i 3) ∧
  (∀ j : Int, 0 ≤ j → j ≤ 15 → ρ 35 0 j = V 15 0 j) ∧
  (∀ j : Int, 0 ≤ j → j ≤ 7 → ρ 36 0 j = V 16 0 j) ∧
  (∀ (c : Nat) (x y : Int), c < 30 → ρ c x y = σ0 c x y)
/-- whether a FLIP goes on is told as it is in V -/
def KF (t : Int) (V ρ : Mm) : Prop := ∀ l : Int, 0 ≤ l → l ≤ t → ρ 31 0 (22 * l + 16) = (if V 11 l 3 = 0 then 0 else 1) ∧ ρ 31 0 (22 * l + 17) = 0
/-- from which LANE a BOX is -/
def FB (V ρ : Mm) : Prop := ∀ l : Int, 4 ≤ l → l ≤ 6 → V 7 l 1 = 1 → ρ 31 0 (22 * l + 21) = V 7 l 0
def RS (t : Int) (σ0 V ρ : Mm) : Prop := SB t σ0 V ρ ∧ KF t V ρ ∧ FB V ρ
theorem SB.a7 {t : Int} {σ0 V ρ : Mm} (h : SB t σ0 V ρ) {l s f : Int} (h0 : 0 ≤ l) (h1 : l ≤ t) (hp : P7 s f) : ρ 31 0 (22 * l + f) = V 7 l s := h.1 l s f h0 h1 hp
theorem SB.a70 {t : Int} {σ0 V ρ : Mm} (h : SB t σ0 V ρ) {l : Int} (h0 : 0 ≤ l) (h1 : l ≤ t) : ρ 31 0 (22 * l) = V 7 l 1 := by
  have := h.1 l 1 0 h0 h1 (Or.inl ⟨rfl, rfl⟩)
  rw [Int.add_zero] at this
  exact this
theorem SB.a11 {t : Int} {σ0 V ρ : Mm} (h : SB t σ0 V ρ) {l s f : Int} (h0 : 0 ≤ l) (h1 : l ≤ t) (hp : P11 s f) : ρ 31 0 (22 * l + f) = V 11 l s := h.2.1 l s f h0 h1 hp
theorem SB.a8 {t : Int} {σ0 V ρ : Mm} (h : SB t σ0 V ρ) {l y : Int} (h0 : 0 ≤ l) (h1 : l ≤ t) (h2 : 0 ≤ y) (h3 : y ≤ 120) : ρ 32 0 (121 * l + y) = V 8 l y := (h.2.2.1 l y h0 h1 h2 h3).1
theorem SB.a9 {t : Int} {σ0 V ρ : Mm} (h : SB t σ0 V ρ) {l y : Int} (h0 : 0 ≤ l) (h1 : l ≤ t) (h2 : 0 ≤ y) (h3 : y ≤ 120) : ρ 33 0 (121 * l + y) = V 9 l y := (h.2.2.1 l y h0 h1 h2 h3).2.1
theorem SB.a10 {t : Int} {σ0 V ρ : Mm} (h : SB t σ0 V ρ) {l y : Int} (h0 : 0 ≤ l) (h1 : l ≤ t) (h2 : 0 ≤ y) (h3 : y ≤ 120) : ρ 34 0 (121 * l + y) = V 10 l y := (h.2.2.1 l y h0 h1 h2 h3).2.2
theorem SB.w0 {t : Int} {σ0 V ρ : Mm} (h : SB t σ0 V ρ) {w : Int} (h0 : 0 ≤ w) (h1 : w ≤ 7) : ρ 39 0 w = V 12 w 0 := (h.2.2.2.1 w h0 h1).1
theorem SB.w1 {t : Int} {σ0 V ρ : Mm} (h : SB t σ0 V ρ) {w : Int} (h0 : 0 ≤ w) (h1 : w ≤ 7) : ρ 40 0 w = V 12 w 1 := (h.2.2.2.1 w h0 h1).2.1
theorem SB.w2 {t : Int} {σ0 V ρ : Mm} (h : SB t σ0 V ρ) {w : Int} (h0 : 0 ≤ w) (h1 : w ≤ 7) : ρ 41 0 w = V 12 w 2 := (h.2.2.2.1 w h0 h1).2.2.1
theorem SB.w3 {t : Int} {σ0 V ρ : Mm} (h : SB t σ0 V ρ) {w : Int} (h0 : 0 ≤ w) (h1 : w ≤ 7) : ρ 42 0 w = V 12 w 3 := (h.2.2.2.1 w h0 h1).2.2.2.1
theorem SB.w4 {t : Int} {σ0 V ρ : Mm} (h : SB t σ0 V ρ) {w : Int} (h0 : 0 ≤ w) (h1 : w ≤ 7) : ρ 43 0 w = V 12 w 4 := (h.2.2.2.1 w h0 h1).2.2.2.2.1
theorem SB.w5 {t : Int} {σ0 V ρ : Mm} (h : SB t σ0 V ρ) {w : Int} (h0 : 0 ≤ w) (h1 : w ≤ 7) : ρ 44 0 w = V 12 w 5 := (h.2.2.2.1 w h0 h1).2.2.2.2.2
theorem SB.k0 {t : Int} {σ0 V ρ : Mm} (h : SB t σ0 V ρ) {i : Int} (h0 : 0 ≤ i) (h1 : i ≤ 3) : ρ 45 0 i = V 13 i 0 := (h.2.2.2.2.1 i h0 h1).1
theorem SB.k1 {t : Int} {σ0 V ρ : Mm} (h : SB t σ0 V ρ) {i : Int} (h0 : 0 ≤ i) (h1 : i ≤ 3) : ρ 46 0 i = V 13 i 1 := (h.2.2.2.2.1 i h0 h1).2.1
theorem SB.k2 {t : Int} {σ0 V ρ : Mm} (h : SB t σ0 V ρ) {i : Int} (h0 : 0 ≤ i) (h1 : i ≤ 3) : ρ 47 0 i = V 13 i 2 := (h.2.2.2.2.1 i h0 h1).2.2.1
theorem SB.k3 {t : Int} {σ0 V ρ : Mm} (h : SB t σ0 V ρ) {i : Int} (h0 : 0 ≤ i) (h1 : i ≤ 3) : ρ 48 0 i = V 13 i 3 := (h.2.2.2.2.1 i h0 h1).2.2.2
theorem SB.t15 {t : Int} {σ0 V ρ : Mm} (h : SB t σ0 V ρ) {j : Int} (h0 : 0 ≤ j) (h1 : j ≤ 15) : ρ 35 0 j = V 15 0 j := h.2.2.2.2.2.1 j h0 h1
theorem SB.t16 {t : Int} {σ0 V ρ : Mm} (h : SB t σ0 V ρ) {j : Int} (h0 : 0 ≤ j) (h1 : j ≤ 7) : ρ 36 0 j = V 16 0 j := h.2.2.2.2.2.2.1 j h0 h1
theorem SB.cl {t : Int} {σ0 V ρ : Mm} (h : SB t σ0 V ρ) {c : Nat} (x y : Int) (hc : c < 30) : ρ c x y = σ0 c x y := h.2.2.2.2.2.2.2 c x y hc
abbrev Sc (c : Nat) : Prop := c = 30 ∨ c = 37 ∨ c = 38 ∨ (49 ≤ c ∧ c ≤ 52)
theorem SB.sc {t : Int} {σ0 V ρ ρ2 : Mm} (h : SB t σ0 V ρ) (e : ∀ (c : Nat) (x y : Int), ¬ Sc c → ρ2 c x y = ρ c x y) : SB t σ0 V ρ2 := by
  obtain ⟨q1, q2, q3, q4, q5, q6, q7, q8⟩ := h
  refine ⟨fun m u g x y z => ?_, fun m u g x y z => ?_, fun m u x y z k => ?_, fun k x y => ?_, fun k x y => ?_, fun k x y => ?_, fun k x y => ?_, fun c x y z => ?_⟩
  · rw [e _ _ _ (by omega)]; exact q1 m u g x y z
  · rw [e _ _ _ (by omega)]; exact q2 m u g x y z
  · rw [e _ _ _ (by omega), e _ _ _ (by omega), e _ _ _ (by omega)]; exact q3 m u x y z k
  · rw [e _ _ _ (by omega), e _ _ _ (by omega), e _ _ _ (by omega), e _ _ _ (by omega), e _ _ _ (by omega), e _ _ _ (by omega)]; exact q4 k x y
  · rw [e _ _ _ (by omega), e _ _ _ (by omega), e _ _ _ (by omega), e _ _ _ (by omega)]; exact q5 k x y
  · rw [e _ _ _ (by omega)]; exact q6 k x y
  · rw [e _ _ _ (by omega)]; exact q7 k x y
  · rw [e _ _ _ (by omega)]; exact q8 c x y z
theorem SB.v {t : Int} {σ0 V ρ W : Mm} (h : SB t σ0 V ρ) (e : ∀ (c : Nat) (x y : Int), c < 30 → W c x y = V c x y) : SB t σ0 W ρ := by
  obtain ⟨q1, q2, q3, q4, q5, q6, q7, q8⟩ := h
  refine ⟨fun m u g x y z => ?_, fun m u g x y z => ?_, fun m u x y z k => ?_, fun k x y => ?_, fun k x y => ?_, fun k x y => ?_, fun k x y => ?_, fun c x y z => ?_⟩
  · rw [e _ _ _ (by omega)]; exact q1 m u g x y z
  · rw [e _ _ _ (by omega)]; exact q2 m u g x y z
  · rw [e _ _ _ (by omega), e _ _ _ (by omega), e _ _ _ (by omega)]; exact q3 m u x y z k
  · rw [e _ _ _ (by omega), e _ _ _ (by omega), e _ _ _ (by omega), e _ _ _ (by omega), e _ _ _ (by omega), e _ _ _ (by omega)]; exact q4 k x y
  · rw [e _ _ _ (by omega), e _ _ _ (by omega), e _ _ _ (by omega), e _ _ _ (by omega)]; exact q5 k x y
  · rw [e _ _ _ (by omega)]; exact q6 k x y
  · rw [e _ _ _ (by omega)]; exact q7 k x y
  · exact q8 c x y z
theorem KF.sc {t : Int} {V ρ ρ2 : Mm} (h : KF t V ρ) (e : ∀ (c : Nat) (x y : Int), ¬ Sc c → ρ2 c x y = ρ c x y) : KF t V ρ2 := fun l a b => by
  rw [e _ _ _ (by omega), e _ _ _ (by omega)]; exact h l a b
theorem FB.sc {V ρ ρ2 : Mm} (h : FB V ρ) (e : ∀ (c : Nat) (x y : Int), ¬ Sc c → ρ2 c x y = ρ c x y) : FB V ρ2 := fun l a b c => by
  rw [e _ _ _ (by omega)]; exact h l a b c
theorem RS.sc {t : Int} {σ0 V ρ ρ2 : Mm} (h : RS t σ0 V ρ) (e : ∀ (c : Nat) (x y : Int), ¬ Sc c → ρ2 c x y = ρ c x y) : RS t σ0 V ρ2 := ⟨h.1.sc e, h.2.1.sc e, h.2.2.sc e⟩
theorem KF.v {t : Int} {V W ρ : Mm} (h : KF t V ρ) (e : ∀ l : Int, W 11 l 3 = V 11 l 3) : KF t W ρ := fun l a b => by rw [e]; exact h l a b
theorem KF.e {t : Int} {V ρ ρ2 : Mm} (h : KF t V ρ) (e : ∀ l : Int, 0 ≤ l → l ≤ t → ρ2 31 0 (22 * l + 16) = ρ 31 0 (22 * l + 16) ∧ ρ2 31 0 (22 * l + 17) = ρ 31 0 (22 * l + 17)) : KF t V ρ2 := fun l a b => by rw [(e l a b).1, (e l a b).2]; exact h l a b
theorem FB.v {V W ρ : Mm} (h : FB V ρ) (e : ∀ l y : Int, 4 ≤ l → l ≤ 6 → (y = 0 ∨ y = 1) → W 7 l y = V 7 l y) : FB W ρ := fun l a b c => by
  rw [e l 1 a b (by omega)] at c
  rw [e l 0 a b (by omega)]; exact h l a b c
theorem FB.e {V ρ ρ2 : Mm} (h : FB V ρ) (e : ∀ l : Int, 4 ≤ l → l ≤ 6 → ρ2 31 0 (22 * l + 21) = ρ 31 0 (22 * l + 21)) : FB V ρ2 := fun l a b c => by rw [e l a b]; exact h l a b c
theorem SB.p7 {t : Int} {σ0 V ρ : Mm} (h : SB t σ0 V ρ) {l s f a : Int} (h0 : 0 ≤ l) (h1 : l ≤ t) (hp : P7 s f) : SB t σ0 (mu V 7 l s a) (mu ρ 31 0 (22 * l + f) a) := by
  obtain ⟨q1, q2, q3, q4, q5, q6, q7, q8⟩ := h
  refine ⟨fun m u g x y z => ?_, fun m u g x y z => ?_, fun m u x y z k => ?_, fun k x y => ?_, fun k x y => ?_, fun k x y => ?_, fun k x y => ?_, fun c x y z => ?_⟩
  · by_cases e : m = l ∧ u = s
    · obtain ⟨rfl, rfl⟩ := e
      rw [show g = f from by omega, mu_self, mu_self]
    · rw [mu_ne (by omega), mu_ne (by omega)]; exact q1 m u g x y z
  · rw [mu_ne (by omega), mu_ne (by omega)]; exact q2 m u g x y z
  · rw [mu_ne (by omega), mu_ne (by omega), mu_ne (by omega), mu_ne (by omega), mu_ne (by omega), mu_ne (by omega)]; exact q3 m u x y z k
  · rw [mu_ne (by omega), mu_ne (by omega), mu_ne (by omega), mu_ne (by omega), mu_ne (by omega), mu_ne (by omega), mu_ne (by omega), mu_ne (by omega), mu_ne (by omega), mu_ne (by omega), mu_ne (by omega), mu_ne (by omega)]; exact q4 k x y
  · rw [mu_ne (by omega), mu_ne (by omega), mu_ne (by omega), mu_ne (by omega), mu_ne (by omega), mu_ne (by omega), mu_ne (by omega), mu_ne (by omega)]; exact q5 k x y
  · rw [mu_ne (by omega), mu_ne (by omega)]; exact q6 k x y
  · rw [mu_ne (by omega), mu_ne (by omega)]; exact q7 k x y
  · rw [mu_ne (by omega)]; exact q8 c x y z
theorem SB.p11 {t : Int} {σ0 V ρ : Mm} (h : SB t σ0 V ρ) {l s f a : Int} (h0 : 0 ≤ l) (h1 : l ≤ t) (hp : P11 s f) : SB t σ0 (mu V 11 l s a) (mu ρ 31 0 (22 * l + f) a) := by
  obtain ⟨q1, q2, q3, q4, q5, q6, q7, q8⟩ := h
  refine ⟨fun m u g x y z => ?_, fun m u g x y z => ?_, fun m u x y z k => ?_, fun k x y => ?_, fun k x y => ?_, fun k x y => ?_, fun k x y => ?_, fun c x y z => ?_⟩
  · rw [mu_ne (by omega), mu_ne (by omega)]; exact q1 m u g x y z
  · by_cases e : m = l ∧ u = s
    · obtain ⟨rfl, rfl⟩ := e
      rw [show g = f from by omega, mu_self, mu_self]
    · rw [mu_ne (by omega), mu_ne (by omega)]; exact q2 m u g x y z
  · rw [mu_ne (by omega), mu_ne (by omega), mu_ne (by omega), mu_ne (by omega), mu_ne (by omega), mu_ne (by omega)]; exact q3 m u x y z k
  · rw [mu_ne (by omega), mu_ne (by omega), mu_ne (by omega), mu_ne (by omega), mu_ne (by omega), mu_ne (by omega), mu_ne (by omega), mu_ne (by omega), mu_ne (by omega), mu_ne (by omega), mu_ne (by omega), mu_ne (by omega)]; exact q4 k x y
  · rw [mu_ne (by omega), mu_ne (by omega), mu_ne (by omega), mu_ne (by omega), mu_ne (by omega), mu_ne (by omega), mu_ne (by omega), mu_ne (by omega)]; exact q5 k x y
  · rw [mu_ne (by omega), mu_ne (by omega)]; exact q6 k x y
  · rw [mu_ne (by omega), mu_ne (by omega)]; exact q7 k x y
  · rw [mu_ne (by omega)]; exact q8 c x y z
theorem SB.p8 {t : Int} {σ0 V ρ : Mm} (h : SB t σ0 V ρ) {l w a : Int} (h0 : 0 ≤ l) (h1 : l ≤ t) (h2 : 0 ≤ w) (h3 : w ≤ 120) : SB t σ0 (mu V 8 l w a) (mu ρ 32 0 (121 * l + w) a) := by
  obtain ⟨q1, q2, q3, q4, q5, q6, q7, q8⟩ := h
  refine ⟨fun m u g x y z => ?_, fun m u g x y z => ?_, fun m u x y z k => ?_, fun k x y => ?_, fun k x y => ?_, fun k x y => ?_, fun k x y => ?_, fun c x y z => ?_⟩
  · rw [mu_ne (by omega), mu_ne (by omega)]; exact q1 m u g x y z
  · rw [mu_ne (by omega), mu_ne (by omega)]; exact q2 m u g x y z
  · by_cases e : m = l ∧ u = w
    · obtain ⟨rfl, rfl⟩ := e
      have q := q3 m u x y z k
      exact ⟨(mu_self _ _ _ _ _).trans (mu_self _ _ _ _ _).symm, ((mu_ne (by omega)).trans (q.2.1)).trans (mu_ne (by omega)).symm, ((mu_ne (by omega)).trans (q.2.2)).trans (mu_ne (by omega)).symm⟩
    · rw [mu_ne (by omega), mu_ne (by omega), mu_ne (by omega), mu_ne (by omega), mu_ne (by omega), mu_ne (by omega)]; exact q3 m u x y z k
  · rw [mu_ne (by omega), mu_ne (by omega), mu_ne (by omega), mu_ne (by omega), mu_ne (by omega), mu_ne (by omega), mu_ne (by omega), mu_ne (by omega), mu_ne (by omega), mu_ne (by omega), mu_ne (by omega), mu_ne (by omega)]; exact q4 k x y
  · rw [mu_ne (by omega), mu_ne (by omega), mu_ne (by omega), mu_ne (by omega), mu_ne (by omega), mu_ne (by omega), mu_ne (by omega), mu_ne (by omega)]; exact q5 k x y
  · rw [mu_ne (by omega), mu_ne (by omega)]; exact q6 k x y
  · rw [mu_ne (by omega), mu_ne (by omega)]; exact q7 k x y
  · rw [mu_ne (by omega)]; exact q8 c x y z
theorem SB.p9 {t : Int} {σ0 V ρ : Mm} (h : SB t σ0 V ρ) {l w a : Int} (h0 : 0 ≤ l) (h1 : l ≤ t) (h2 : 0 ≤ w) (h3 : w ≤ 120) : SB t σ0 (mu V 9 l w a) (mu ρ 33 0 (121 * l + w) a) := by
  obtain ⟨q1, q2, q3, q4, q5, q6, q7, q8⟩ := h
  refine ⟨fun m u g x y z => ?_, fun m u g x y z => ?_, fun m u x y z k => ?_, fun k x y => ?_, fun k x y => ?_, fun k x y => ?_, fun k x y => ?_, fun c x y z => ?_⟩
  · rw [mu_ne (by omega), mu_ne (by omega)]; exact q1 m u g x y z
  · rw [mu_ne (by omega), mu_ne (by omega)]; exact q2 m u g x y z
  · by_cases e : m = l ∧ u = w
    · obtain ⟨rfl, rfl⟩ := e
      have q := q3 m u x y z k
      exact ⟨((mu_ne (by omega)).trans (q.1)).trans (mu_ne (by omega)).symm, (mu_self _ _ _ _ _).trans (mu_self _ _ _ _ _).symm, ((mu_ne (by omega)).trans (q.2.2)).trans (mu_ne (by omega)).symm⟩
    · rw [mu_ne (by omega), mu_ne (by omega), mu_ne (by omega), mu_ne (by omega), mu_ne (by omega), mu_ne (by omega)]; exact q3 m u x y z k
  · rw [mu_ne (by omega), mu_ne (by omega), mu_ne (by omega), mu_ne (by omega), mu_ne (by omega), mu_ne (by omega), mu_ne (by omega), mu_ne (by omega), mu_ne (by omega), mu_ne (by omega), mu_ne (by omega), mu_ne (by omega)]; exact q4 k x y
  · rw [mu_ne (by omega), mu_ne (by omega), mu_ne (by omega), mu_ne (by omega), mu_ne (by omega), mu_ne (by omega), mu_ne (by omega), mu_ne (by omega)]; exact q5 k x y
  · rw [mu_ne (by omega), mu_ne (by omega)]; exact q6 k x y
  · rw [mu_ne (by omega), mu_ne (by omega)]; exact q7 k x y
  · rw [mu_ne (by omega)]; exact q8 c x y z
theorem SB.p10 {t : Int} {σ0 V ρ : Mm} (h : SB t σ0 V ρ) {l w a : Int} (h0 : 0 ≤ l) (h1 : l ≤ t) (h2 : 0 ≤ w) (h3 : w ≤ 120) : SB t σ0 (mu V 10 l w a) (mu ρ 34 0 (121 * l + w) a) := by
  obtain ⟨q1, q2, q3, q4, q5, q6, q7, q8⟩ := h
  refine ⟨fun m u g x y z => ?_, fun m u g x y z => ?_, fun m u x y z k => ?_, fun k x y => ?_, fun k x y => ?_, fun k x y => ?_, fun k x y => ?_, fun c x y z => ?_⟩
  · rw [mu_ne (by omega), mu_ne (by omega)]; exact q1 m u g x y z
  · rw [mu_ne (by omega), mu_ne (by omega)]; exact q2 m u g x y z
  · by_cases e : m = l ∧ u = w
    · obtain ⟨rfl, rfl⟩ := e
      have q := q3 m u x y z k
      exact ⟨((mu_ne (by omega)).trans (q.1)).trans (mu_ne (by omega)).symm, ((mu_ne (by omega)).trans (q.2.1)).trans (mu_ne (by omega)).symm, (mu_self _ _ _ _ _).trans (mu_self _ _ _ _ _).symm⟩
    · rw [mu_ne (by omega), mu_ne (by omega), mu_ne (by omega), mu_ne (by omega), mu_ne (by omega), mu_ne (by omega)]; exact q3 m u x y z k
  · rw [mu_ne (by omega), mu_ne (by omega), mu_ne (by omega), mu_ne (by omega), mu_ne (by omega), mu_ne (by omega), mu_ne (by omega), mu_ne (by omega), mu_ne (by omega), mu_ne (by omega), mu_ne (by omega), mu_ne (by omega)]; exact q4 k x y
  · rw [mu_ne (by omega), mu_ne (by omega), mu_ne (by omega), mu_ne (by omega), mu_ne (by omega), mu_ne (by omega), mu_ne (by omega), mu_ne (by omega)]; exact q5 k x y
  · rw [mu_ne (by omega), mu_ne (by omega)]; exact q6 k x y
  · rw [mu_ne (by omega), mu_ne (by omega)]; exact q7 k x y
  · rw [mu_ne (by omega)]; exact q8 c x y z
theorem SB.pw0 {t : Int} {σ0 V ρ : Mm} (h : SB t σ0 V ρ) {w a : Int} (h0 : 0 ≤ w) (h1 : w ≤ 7) : SB t σ0 (mu V 12 w 0 a) (mu ρ 39 0 w a) := by
  obtain ⟨q1, q2, q3, q4, q5, q6, q7, q8⟩ := h
  refine ⟨fun m u g x y z => ?_, fun m u g x y z => ?_, fun m u x y z k => ?_, fun k x y => ?_, fun k x y => ?_, fun k x y => ?_, fun k x y => ?_, fun c x y z => ?_⟩
  · rw [mu_ne (by omega), mu_ne (by omega)]; exact q1 m u g x y z
  · rw [mu_ne (by omega), mu_ne (by omega)]; exact q2 m u g x y z
  · rw [mu_ne (by omega), mu_ne (by omega), mu_ne (by omega), mu_ne (by omega), mu_ne (by omega), mu_ne (by omega)]; exact q3 m u x y z k
  · by_cases e : k = w
    · subst e
      have q := q4 k x y
      exact ⟨(mu_self _ _ _ _ _).trans (mu_self _ _ _ _ _).symm, ((mu_ne (by omega)).trans (q.2.1)).trans (mu_ne (by omega)).symm, ((mu_ne (by omega)).trans (q.2.2.1)).trans (mu_ne (by omega)).symm, ((mu_ne (by omega)).trans (q.2.2.2.1)).trans (mu_ne (by omega)).symm, ((mu_ne (by omega)).trans (q.2.2.2.2.1)).trans (mu_ne (by omega)).symm, ((mu_ne (by omega)).trans (q.2.2.2.2.2)).trans (mu_ne (by omega)).symm⟩
    · rw [mu_ne (by omega), mu_ne (by omega), mu_ne (by omega), mu_ne (by omega), mu_ne (by omega), mu_ne (by omega), mu_ne (by omega), mu_ne (by omega), mu_ne (by omega), mu_ne (by omega), mu_ne (by omega), mu_ne (by omega)]; exact q4 k x y
  · rw [mu_ne (by omega), mu_ne (by omega), mu_ne (by omega), mu_ne (by omega), mu_ne (by omega), mu_ne (by omega), mu_ne (by omega), mu_ne (by omega)]; exact q5 k x y
  · rw [mu_ne (by omega), mu_ne (by omega)]; exact q6 k x y
  · rw [mu_ne (by omega), mu_ne (by omega)]; exact q7 k x y
  · rw [mu_ne (by omega)]; exact q8 c x y z
theorem SB.pw1 {t : Int} {σ0 V ρ : Mm} (h : SB t σ0 V ρ) {w a : Int} (h0 : 0 ≤ w) (h1 : w ≤ 7) : SB t σ0 (mu V 12 w 1 a) (mu ρ 40 0 w a) := by
  obtain ⟨q1, q2, q3, q4, q5, q6, q7, q8⟩ := h
  refine ⟨fun m u g x y z => ?_, fun m u g x y z => ?_, fun m u x y z k => ?_, fun k x y => ?_, fun k x y => ?_, fun k x y => ?_, fun k x y => ?_, fun c x y z => ?_⟩
  · rw [mu_ne (by omega), mu_ne (by omega)]; exact q1 m u g x y z
  · rw [mu_ne (by omega), mu_ne (by omega)]; exact q2 m u g x y z
  · rw [mu_ne (by omega), mu_ne (by omega), mu_ne (by omega), mu_ne (by omega), mu_ne (by omega), mu_ne (by omega)]; exact q3 m u x y z k
  · by_cases e : k = w
    · subst e
      have q := q4 k x y
      exact ⟨((mu_ne (by omega)).trans (q.1)).trans (mu_ne (by omega)).symm, (mu_self _ _ _ _ _).trans (mu_self _ _ _ _ _).symm, ((mu_ne (by omega)).trans (q.2.2.1)).trans (mu_ne (by omega)).symm, ((mu_ne (by omega)).trans (q.2.2.2.1)).trans (mu_ne (by omega)).symm, ((mu_ne (by omega)).trans (q.2.2.2.2.1)).trans (mu_ne (by omega)).symm, ((mu_ne (by omega)).trans (q.2.2.2.2.2)).trans (mu_ne (by omega)).symm⟩
    · rw [mu_ne (by omega), mu_ne (by omega), mu_ne (by omega), mu_ne (by omega), mu_ne (by omega), mu_ne (by omega), mu_ne (by omega), mu_ne (by omega), mu_ne (by omega), mu_ne (by omega), mu_ne (by omega), mu_ne (by omega)]; exact q4 k x y
  · rw [mu_ne (by omega), mu_ne (by omega), mu_ne (by omega), mu_ne (by omega), mu_ne (by omega), mu_ne (by omega), mu_ne (by omega), mu_ne (by omega)]; exact q5 k x y
  · rw [mu_ne (by omega), mu_ne (by omega)]; exact q6 k x y
  · rw [mu_ne (by omega), mu_ne (by omega)]; exact q7 k x y
  · rw [mu_ne (by omega)]; exact q8 c x y z
theorem SB.pw2 {t : Int} {σ0 V ρ : Mm} (h : SB t σ0 V ρ) {w a : Int} (h0 : 0 ≤ w) (h1 : w ≤ 7) : SB t σ0 (mu V 12 w 2 a) (mu ρ 41 0 w a) := by
  obtain ⟨q1, q2, q3, q4, q5, q6, q7, q8⟩ := h
  refine ⟨fun m u g x y z => ?_, fun m u g x y z => ?_, fun m u x y z k => ?_, fun k x y => ?_, fun k x y => ?_, fun k x y => ?_, fun k x y => ?_, fun c x y z => ?_⟩
  · rw [mu_ne (by omega), mu_ne (by omega)]; exact q1 m u g x y z
  · rw [mu_ne (by omega), mu_ne (by omega)]; exact q2 m u g x y z
  · rw [mu_ne (by omega), mu_ne (by omega), mu_ne (by omega), mu_ne (by omega), mu_ne (by omega), mu_ne (by omega)]; exact q3 m u x y z k
  · by_cases e : k = w
    · subst e
      have q := q4 k x y
      exact ⟨((mu_ne (by omega)).trans (q.1)).trans (mu_ne (by omega)).symm, ((mu_ne (by omega)).trans (q.2.1)).trans (mu_ne (by omega)).symm, (mu_self _ _ _ _ _).trans (mu_self _ _ _ _ _).symm, ((mu_ne (by omega)).trans (q.2.2.2.1)).trans (mu_ne (by omega)).symm, ((mu_ne (by omega)).trans (q.2.2.2.2.1)).trans (mu_ne (by omega)).symm, ((mu_ne (by omega)).trans (q.2.2.2.2.2)).trans (mu_ne (by omega)).symm⟩
    · rw [mu_ne (by omega), mu_ne (by omega), mu_ne (by omega), mu_ne (by omega), mu_ne (by omega), mu_ne (by omega), mu_ne (by omega), mu_ne (by omega), mu_ne (by omega), mu_ne (by omega), mu_ne (by omega), mu_ne (by omega)]; exact q4 k x y
  · rw [mu_ne (by omega), mu_ne (by omega), mu_ne (by omega), mu_ne (by omega), mu_ne (by omega), mu_ne (by omega), mu_ne (by omega), mu_ne (by omega)]; exact q5 k x y
  · rw [mu_ne (by omega), mu_ne (by omega)]; exact q6 k x y
  · rw [mu_ne (by omega), mu_ne (by omega)]; exact q7 k x y
  · rw [mu_ne (by omega)]; exact q8 c x y z
theorem SB.pw3 {t : Int} {σ0 V ρ : Mm} (h : SB t σ0 V ρ) {w a : Int} (h0 : 0 ≤ w) (h1 : w ≤ 7) : SB t σ0 (mu V 12 w 3 a) (mu ρ 42 0 w a) := by
  obtain ⟨q1, q2, q3, q4, q5, q6, q7, q8⟩ := h
  refine ⟨fun m u g x y z => ?_, fun m u g x y z => ?_, fun m u x y z k => ?_, fun k x y => ?_, fun k x y => ?_, fun k x y => ?_, fun k x y => ?_, fun c x y z => ?_⟩
  · rw [mu_ne (by omega), mu_ne (by omega)]; exact q1 m u g x y z
  · rw [mu_ne (by omega), mu_ne (by omega)]; exact q2 m u g x y z
  · rw [mu_ne (by omega), mu_ne (by omega), mu_ne (by omega), mu_ne (by omega), mu_ne (by omega), mu_ne (by omega)]; exact q3 m u x y z k
  · by_cases e : k = w
    · subst e
      have q := q4 k x y
      exact ⟨((mu_ne (by omega)).trans (q.1)).trans (mu_ne (by omega)).symm, ((mu_ne (by omega)).trans (q.2.1)).trans (mu_ne (by omega)).symm, ((mu_ne (by omega)).trans (q.2.2.1)).trans (mu_ne (by omega)).symm, (mu_self _ _ _ _ _).trans (mu_self _ _ _ _ _).symm, ((mu_ne (by omega)).trans (q.2.2.2.2.1)).trans (mu_ne (by omega)).symm, ((mu_ne (by omega)).trans (q.2.2.2.2.2)).trans (mu_ne (by omega)).symm⟩
    · rw [mu_ne (by omega), mu_ne (by omega), mu_ne (by omega), mu_ne (by omega), mu_ne (by omega), mu_ne (by omega), mu_ne (by omega), mu_ne (by omega), mu_ne (by omega), mu_ne (by omega), mu_ne (by omega), mu_ne (by omega)]; exact q4 k x y
  · rw [mu_ne (by omega), mu_ne (by omega), mu_ne (by omega), mu_ne (by omega), mu_ne (by omega), mu_ne (by omega), mu_ne (by omega), mu_ne (by omega)]; exact q5 k x y
  · rw [mu_ne (by omega), mu_ne (by omega)]; exact q6 k x y
  · rw [mu_ne (by omega), mu_ne (by omega)]; exact q7 k x y
  · rw [mu_ne (by omega)]; exact q8 c x y z
theorem SB.pw4 {t : Int} {σ0 V ρ : Mm} (h : SB t σ0 V ρ) {w a : Int} (h0 : 0 ≤ w) (h1 : w ≤ 7) : SB t σ0 (mu V 12 w 4 a) (mu ρ 43 0 w a) := by
  obtain ⟨q1, q2, q3, q4, q5, q6, q7, q8⟩ := h
  refine ⟨fun m u g x y z => ?_, fun m u g x y z => ?_, fun m u x y z k => ?_, fun k x y => ?_, fun k x y => ?_, fun k x y => ?_, fun k x y => ?_, fun c x y z => ?_⟩
  · rw [mu_ne (by omega), mu_ne (by omega)]; exact q1 m u g x y z
  · rw [mu_ne (by omega), mu_ne (by omega)]; exact q2 m u g x y z
  · rw [mu_ne (by omega), mu_ne (by omega), mu_ne (by omega), mu_ne (by omega), mu_ne (by omega), mu_ne (by omega)]; exact q3 m u x y z k
  · by_cases e : k = w
    · subst e
      have q := q4 k x y
      exact ⟨((mu_ne (by omega)).trans (q.1)).trans (mu_ne (by omega)).symm, ((mu_ne (by omega)).trans (q.2.1)).trans (mu_ne (by omega)).symm, ((mu_ne (by omega)).trans (q.2.2.1)).trans (mu_ne (by omega)).symm, ((mu_ne (by omega)).trans (q.2.2.2.1)).trans (mu_ne (by omega)).symm, (mu_self _ _ _ _ _).trans (mu_self _ _ _ _ _).symm, ((mu_ne (by omega)).trans (q.2.2.2.2.2)).trans (mu_ne (by omega)).symm⟩
    · rw [mu_ne (by omega), mu_ne (by omega), mu_ne (by omega), mu_ne (by omega), mu_ne (by omega), mu_ne (by omega), mu_ne (by omega), mu_ne (by omega), mu_ne (by omega), mu_ne (by omega), mu_ne (by omega), mu_ne (by omega)]; exact q4 k x y
  · rw [mu_ne (by omega), mu_ne (by omega), mu_ne (by omega), mu_ne (by omega), mu_ne (by omega), mu_ne (by omega), mu_ne (by omega), mu_ne (by omega)]; exact q5 k x y
  · rw [mu_ne (by omega), mu_ne (by omega)]; exact q6 k x y
  · rw [mu_ne (by omega), mu_ne (by omega)]; exact q7 k x y
  · rw [mu_ne (by omega)]; exact q8 c x y z
theorem SB.pw5 {t : Int} {σ0 V ρ : Mm} (h : SB t σ0 V ρ) {w a : Int} (h0 : 0 ≤ w) (h1 : w ≤ 7) : SB t σ0 (mu V 12 w 5 a) (mu ρ 44 0 w a) := by
  obtain ⟨q1, q2, q3, q4, q5, q6, q7, q8⟩ := h
  refine ⟨fun m u g x y z => ?_, fun m u g x y z => ?_, fun m u x y z k => ?_, fun k x y => ?_, fun k x y => ?_, fun k x y => ?_, fun k x y => ?_, fun c x y z => ?_⟩
  · rw [mu_ne (by omega), mu_ne (by omega)]; exact q1 m u g x y z
  · rw [mu_ne (by omega), mu_ne (by omega)]; exact q2 m u g x y z
  · rw [mu_ne (by omega), mu_ne (by omega), mu_ne (by omega), mu_ne (by omega), mu_ne (by omega), mu_ne (by omega)]; exact q3 m u x y z k
  · by_cases e : k = w
    · subst e
      have q := q4 k x y
      exact ⟨((mu_ne (by omega)).trans (q.1)).trans (mu_ne (by omega)).symm, ((mu_ne (by omega)).trans (q.2.1)).trans (mu_ne (by omega)).symm, ((mu_ne (by omega)).trans (q.2.2.1)).trans (mu_ne (by omega)).symm, ((mu_ne (by omega)).trans (q.2.2.2.1)).trans (mu_ne (by omega)).symm, ((mu_ne (by omega)).trans (q.2.2.2.2.1)).trans (mu_ne (by omega)).symm, (mu_self _ _ _ _ _).trans (mu_self _ _ _ _ _).symm⟩
    · rw [mu_ne (by omega), mu_ne (by omega), mu_ne (by omega), mu_ne (by omega), mu_ne (by omega), mu_ne (by omega), mu_ne (by omega), mu_ne (by omega), mu_ne (by omega), mu_ne (by omega), mu_ne (by omega), mu_ne (by omega)]; exact q4 k x y
  · rw [mu_ne (by omega), mu_ne (by omega), mu_ne (by omega), mu_ne (by omega), mu_ne (by omega), mu_ne (by omega), mu_ne (by omega), mu_ne (by omega)]; exact q5 k x y
  · rw [mu_ne (by omega), mu_ne (by omega)]; exact q6 k x y
  · rw [mu_ne (by omega), mu_ne (by omega)]; exact q7 k x y
  · rw [mu_ne (by omega)]; exact q8 c x y z
theorem SB.pk0 {t : Int} {σ0 V ρ : Mm} (h : SB t σ0 V ρ) {w a : Int} (h0 : 0 ≤ w) (h1 : w ≤ 3) : SB t σ0 (mu V 13 w 0 a) (mu ρ 45 0 w a) := by
  obtain ⟨q1, q2, q3, q4, q5, q6, q7, q8⟩ := h
  refine ⟨fun m u g x y z => ?_, fun m u g x y z => ?_, fun m u x y z k => ?_, fun k x y => ?_, fun k x y => ?_, fun k x y => ?_, fun k x y => ?_, fun c x y z => ?_⟩
  · rw [mu_ne (by omega), mu_ne (by omega)]; exact q1 m u g x y z
  · rw [mu_ne (by omega), mu_ne (by omega)]; exact q2 m u g x y z
  · rw [mu_ne (by omega), mu_ne (by omega), mu_ne (by omega), mu_ne (by omega), mu_ne (by omega), mu_ne (by omega)]; exact q3 m u x y z k
  · rw [mu_ne (by omega), mu_ne (by omega), mu_ne (by omega), mu_ne (by omega), mu_ne (by omega), mu_ne (by omega), mu_ne (by omega), mu_ne (by omega), mu_ne (by omega), mu_ne (by omega), mu_ne (by omega), mu_ne (by omega)]; exact q4 k x y
  · by_cases e : k = w
    · subst e
      have q := q5 k x y
      exact ⟨(mu_self _ _ _ _ _).trans (mu_self _ _ _ _ _).symm, ((mu_ne (by omega)).trans (q.2.1)).trans (mu_ne (by omega)).symm, ((mu_ne (by omega)).trans (q.2.2.1)).trans (mu_ne (by omega)).symm, ((mu_ne (by omega)).trans (q.2.2.2)).trans (mu_ne (by omega)).symm⟩
    · rw [mu_ne (by omega), mu_ne (by omega), mu_ne (by omega), mu_ne (by omega), mu_ne (by omega), mu_ne (by omega), mu_ne (by omega), mu_ne (by omega)]; exact q5 k x y
  · rw [mu_ne (by omega), mu_ne (by omega)]; exact q6 k x y
  · rw [mu_ne (by omega), mu_ne (by omega)]; exact q7 k x y
  · rw [mu_ne (by omega)]; exact q8 c x y z
theorem SB.pk1 {t : Int} {σ0 V ρ : Mm} (h : SB t σ0 V ρ) {w a : Int} (h0 : 0 ≤ w) (h1 : w ≤ 3) : SB t σ0 (mu V 13 w 1 a) (mu ρ 46 0 w a) := by
  obtain ⟨q1, q2, q3, q4, q5, q6, q7, q8⟩ := h
  refine ⟨fun m u g x y z => ?_, fun m u g x y z => ?_, fun m u x y z k => ?_, fun k x y => ?_, fun k x y => ?_, fun k x y => ?_, fun k x y => ?_, fun c x y z => ?_⟩
  · rw [mu_ne (by omega), mu_ne (by omega)]; exact q1 m u g x y z
  · rw [mu_ne (by omega), mu_ne (by omega)]; exact q2 m u g x y z
  · rw [mu_ne (by omega), mu_ne (by omega), mu_ne (by omega), mu_ne (by omega), mu_ne (by omega), mu_ne (by omega)]; exact q3 m u x y z k
  · rw [mu_ne (by omega), mu_ne (by omega), mu_ne (by omega), mu_ne (by omega), mu_ne (by omega), mu_ne (by omega), mu_ne (by omega), mu_ne (by omega), mu_ne (by omega), mu_ne (by omega), mu_ne (by omega), mu_ne (by omega)]; exact q4 k x y
  · by_cases e : k = w
    · subst e
      have q := q5 k x y
      exact ⟨((mu_ne (by omega)).trans (q.1)).trans (mu_ne (by omega)).symm, (mu_self _ _ _ _ _).trans (mu_self _ _ _ _ _).symm, ((mu_ne (by omega)).trans (q.2.2.1)).trans (mu_ne (by omega)).symm, ((mu_ne (by omega)).trans (q.2.2.2)).trans (mu_ne (by omega)).symm⟩
    · rw [mu_ne (by omega), mu_ne (by omega), mu_ne (by omega), mu_ne (by omega), mu_ne (by omega), mu_ne (by omega), mu_ne (by omega), mu_ne (by omega)]; exact q5 k x y
  · rw [mu_ne (by omega), mu_ne (by omega)]; exact q6 k x y
  · rw [mu_ne (by omega), mu_ne (by omega)]; exact q7 k x y
  · rw [mu_ne (by omega)]; exact q8 c x y z
theorem SB.pk2 {t : Int} {σ0 V ρ : Mm} (h : SB t σ0 V ρ) {w a : Int} (h0 : 0 ≤ w) (h1 : w ≤ 3) : SB t σ0 (mu V 13 w 2 a) (mu ρ 47 0 w a) := by
  obtain ⟨q1, q2, q3, q4, q5, q6, q7, q8⟩ := h
  refine ⟨fun m u g x y z => ?_, fun m u g x y z => ?_, fun m u x y z k => ?_, fun k x y => ?_, fun k x y => ?_, fun k x y => ?_, fun k x y => ?_, fun c x y z => ?_⟩
  · rw [mu_ne (by omega), mu_ne (by omega)]; exact q1 m u g x y z
  · rw [mu_ne (by omega), mu_ne (by omega)]; exact q2 m u g x y z
  · rw [mu_ne (by omega), mu_ne (by omega), mu_ne (by omega), mu_ne (by omega), mu_ne (by omega), mu_ne (by omega)]; exact q3 m u x y z k
  · rw [mu_ne (by omega), mu_ne (by omega), mu_ne (by omega), mu_ne (by omega), mu_ne (by omega), mu_ne (by omega), mu_ne (by omega), mu_ne (by omega), mu_ne (by omega), mu_ne (by omega), mu_ne (by omega), mu_ne (by omega)]; exact q4 k x y
  · by_cases e : k = w
    · subst e
      have q := q5 k x y
      exact ⟨((mu_ne (by omega)).trans (q.1)).trans (mu_ne (by omega)).symm, ((mu_ne (by omega)).trans (q.2.1)).trans (mu_ne (by omega)).symm, (mu_self _ _ _ _ _).trans (mu_self _ _ _ _ _).symm, ((mu_ne (by omega)).trans (q.2.2.2)).trans (mu_ne (by omega)).symm⟩
    · rw [mu_ne (by omega), mu_ne (by omega), mu_ne (by omega), mu_ne (by omega), mu_ne (by omega), mu_ne (by omega), mu_ne (by omega), mu_ne (by omega)]; exact q5 k x y
  · rw [mu_ne (by omega), mu_ne (by omega)]; exact q6 k x y
  · rw [mu_ne (by omega), mu_ne (by omega)]; exact q7 k x y
  · rw [mu_ne (by omega)]; exact q8 c x y z
theorem SB.pk3 {t : Int} {σ0 V ρ : Mm} (h : SB t σ0 V ρ) {w a : Int} (h0 : 0 ≤ w) (h1 : w ≤ 3) : SB t σ0 (mu V 13 w 3 a) (mu ρ 48 0 w a) := by
  obtain ⟨q1, q2, q3, q4, q5, q6, q7, q8⟩ := h
  refine ⟨fun m u g x y z => ?_, fun m u g x y z => ?_, fun m u x y z k => ?_, fun k x y => ?_, fun k x y => ?_, fun k x y => ?_, fun k x y => ?_, fun c x y z => ?_⟩
  · rw [mu_ne (by omega), mu_ne (by omega)]; exact q1 m u g x y z
  · rw [mu_ne (by omega), mu_ne (by omega)]; exact q2 m u g x y z
  · rw [mu_ne (by omega), mu_ne (by omega), mu_ne (by omega), mu_ne (by omega), mu_ne (by omega), mu_ne (by omega)]; exact q3 m u x y z k
  · rw [mu_ne (by omega), mu_ne (by omega), mu_ne (by omega), mu_ne (by omega), mu_ne (by omega), mu_ne (by omega), mu_ne (by omega), mu_ne (by omega), mu_ne (by omega), mu_ne (by omega), mu_ne (by omega), mu_ne (by omega)]; exact q4 k x y
  · by_cases e : k = w
    · subst e
      have q := q5 k x y
      exact ⟨((mu_ne (by omega)).trans (q.1)).trans (mu_ne (by omega)).symm, ((mu_ne (by omega)).trans (q.2.1)).trans (mu_ne (by omega)).symm, ((mu_ne (by omega)).trans (q.2.2.1)).trans (mu_ne (by omega)).symm, (mu_self _ _ _ _ _).trans (mu_self _ _ _ _ _).symm⟩
    · rw [mu_ne (by omega), mu_ne (by omega), mu_ne (by omega), mu_ne (by omega), mu_ne (by omega), mu_ne (by omega), mu_ne (by omega), mu_ne (by omega)]; exact q5 k x y
  · rw [mu_ne (by omega), mu_ne (by omega)]; exact q6 k x y
  · rw [mu_ne (by omega), mu_ne (by omega)]; exact q7 k x y
  · rw [mu_ne (by omega)]; exact q8 c x y z
theorem SB.p15 {t : Int} {σ0 V ρ : Mm} (h : SB t σ0 V ρ) {w a : Int} (h0 : 0 ≤ w) (h1 : w ≤ 15) : SB t σ0 (mu V 15 0 w a) (mu ρ 35 0 w a) := by
  obtain ⟨q1, q2, q3, q4, q5, q6, q7, q8⟩ := h
  refine ⟨fun m u g x y z => ?_, fun m u g x y z => ?_, fun m u x y z k => ?_, fun k x y => ?_, fun k x y => ?_, fun k x y => ?_, fun k x y => ?_, fun c x y z => ?_⟩
  · rw [mu_ne (by omega), mu_ne (by omega)]; exact q1 m u g x y z
  · rw [mu_ne (by omega), mu_ne (by omega)]; exact q2 m u g x y z
  · rw [mu_ne (by omega), mu_ne (by omega), mu_ne (by omega), mu_ne (by omega), mu_ne (by omega), mu_ne (by omega)]; exact q3 m u x y z k
  · rw [mu_ne (by omega), mu_ne (by omega), mu_ne (by omega), mu_ne (by omega), mu_ne (by omega), mu_ne (by omega), mu_ne (by omega), mu_ne (by omega), mu_ne (by omega), mu_ne (by omega), mu_ne (by omega), mu_ne (by omega)]; exact q4 k x y
  · rw [mu_ne (by omega), mu_ne (by omega), mu_ne (by omega), mu_ne (by omega), mu_ne (by omega), mu_ne (by omega), mu_ne (by omega), mu_ne (by omega)]; exact q5 k x y
  · by_cases e : k = w
    · subst e
      have q := q6 k x y
      exact (mu_self _ _ _ _ _).trans (mu_self _ _ _ _ _).symm
    · rw [mu_ne (by omega), mu_ne (by omega)]; exact q6 k x y
  · rw [mu_ne (by omega), mu_ne (by omega)]; exact q7 k x y
  · rw [mu_ne (by omega)]; exact q8 c x y z
theorem SB.p16 {t : Int} {σ0 V ρ : Mm} (h : SB t σ0 V ρ) {w a : Int} (h0 : 0 ≤ w) (h1 : w ≤ 7) : SB t σ0 (mu V 16 0 w a) (mu ρ 36 0 w a) := by
  obtain ⟨q1, q2, q3, q4, q5, q6, q7, q8⟩ := h
  refine ⟨fun m u g x y z => ?_, fun m u g x y z => ?_, fun m u x y z k => ?_, fun k x y => ?_, fun k x y => ?_, fun k x y => ?_, fun k x y => ?_, fun c x y z => ?_⟩
  · rw [mu_ne (by omega), mu_ne (by omega)]; exact q1 m u g x y z
  · rw [mu_ne (by omega), mu_ne (by omega)]; exact q2 m u g x y z
  · rw [mu_ne (by omega), mu_ne (by omega), mu_ne (by omega), mu_ne (by omega), mu_ne (by omega), mu_ne (by omega)]; exact q3 m u x y z k
  · rw [mu_ne (by omega), mu_ne (by omega), mu_ne (by omega), mu_ne (by omega), mu_ne (by omega), mu_ne (by omega), mu_ne (by omega), mu_ne (by omega), mu_ne (by omega), mu_ne (by omega), mu_ne (by omega), mu_ne (by omega)]; exact q4 k x y
  · rw [mu_ne (by omega), mu_ne (by omega), mu_ne (by omega), mu_ne (by omega), mu_ne (by omega), mu_ne (by omega), mu_ne (by omega), mu_ne (by omega)]; exact q5 k x y
  · rw [mu_ne (by omega), mu_ne (by omega)]; exact q6 k x y
  · by_cases e : k = w
    · subst e
      have q := q7 k x y
      exact (mu_self _ _ _ _ _).trans (mu_self _ _ _ _ _).symm
    · rw [mu_ne (by omega), mu_ne (by omega)]; exact q7 k x y
  · rw [mu_ne (by omega)]; exact q8 c x y z
/-- what the reference alone holds -/
theorem SB.px {t : Int} {σ0 V ρ : Mm} (h : SB t σ0 V ρ) {l f a : Int} (hf : f = 16 ∨ f = 17 ∨ f = 21 ∨ f = 7) : SB t σ0 V (mu ρ 31 0 (22 * l + f) a) := by
  obtain ⟨q1, q2, q3, q4, q5, q6, q7, q8⟩ := h
  refine ⟨fun m u g x y z => ?_, fun m u g x y z => ?_, fun m u x y z k => ?_, fun k x y => ?_, fun k x y => ?_, fun k x y => ?_, fun k x y => ?_, fun c x y z => ?_⟩
  · rw [mu_ne (by omega)]; exact q1 m u g x y z
  · rw [mu_ne (by omega)]; exact q2 m u g x y z
  · rw [mu_ne (by omega), mu_ne (by omega), mu_ne (by omega)]; exact q3 m u x y z k
  · rw [mu_ne (by omega), mu_ne (by omega), mu_ne (by omega), mu_ne (by omega), mu_ne (by omega), mu_ne (by omega)]; exact q4 k x y
  · rw [mu_ne (by omega), mu_ne (by omega), mu_ne (by omega), mu_ne (by omega)]; exact q5 k x y
  · rw [mu_ne (by omega)]; exact q6 k x y
  · rw [mu_ne (by omega)]; exact q7 k x y
  · rw [mu_ne (by omega)]; exact q8 c x y z
theorem cmN_t {tl tl2 tc tc2 : Int → Int} (h16 : ∀ j : Int, 0 ≤ j → j ≤ 7 → tl j = tl2 j) (h15 : ∀ j : Int, 0 ≤ j → j ≤ 15 → tc j = tc2 j) (hc : ∀ j : Int, 0 ≤ j → j < 16 → 0 ≤ tc j ∧ tc j ≤ 3) (o : Int) (v : Int → Int) (n : Nat) (k : Int) : cmN tl tc o v n k = cmN tl2 tc2 o v n k := by
  have hl : ∀ (s : Int) (m : Nat), ltr tl v s m = ltr tl2 v s m := fun s m => by
    induction m with
    | zero => rfl
    | succ m ih =>
      show lnx tl (v m) (ltr tl v s m) = lnx tl2 (v m) (ltr tl2 v s m)
      rw [ih]
      unfold lnx
      rw [h16 _ (by omega) (by omega)]
  have ht : ∀ m : Nat, tbl tc v m = tbl tc2 v m := fun m => by
    induction m with
    | zero => rfl
    | succ m ih =>
      show (if m = 0 then v 0 % 4 else tc (4 * tbl tc v m + v m % 4)) = (if m = 0 then v 0 % 4 else tc2 (4 * tbl tc2 v m + v m % 4))
      have hb := tbl_b (u := v) hc m
      rw [← ih, h15 _ (by omega) (by omega)]
  unfold cmN
  rw [hl 0, hl 1, hl 2, hl 3, hl k, ht]
theorem cm_t {tl tl2 tc tc2 : Int → Int} (h16 : ∀ j : Int, 0 ≤ j → j ≤ 7 → tl j = tl2 j) (h15 : ∀ j : Int, 0 ≤ j → j ≤ 15 → tc j = tc2 j) (hc : ∀ j : Int, 0 ≤ j → j < 16 → 0 ≤ tc j ∧ tc j ≤ 3) (o : Int) (v : Int → Int) (n : Nat) (k : Int) : cm tl tc o v n k = cm tl2 tc2 o v n k := by
  unfold cm
  rw [cmN_t h16 h15 hc]
theorem WT_dn {eb : Bool} {d M : Nat} {as : List Vl} {σ : Mm} {P : Option Vl → Mm → Prop} (h : ∀ ρ : Mm, (∀ (c : Nat) (i j : Int), Tk (true, eb, false) c j → ρ c i j = σ c i j) → WT (true, eb, true) d M as ρ P) : WT (true, eb, false) d M as σ P := by
  refine WT_loose (true, eb, true) (fun q => q) (fun q => q) (fun c j q => ?_) (fun ρ hL hF hT hO => ?_)
  · rcases q with q | q | q | q
    · exact Or.inl q
    · exact Or.inr (Or.inl q)
    · exact Or.inr (Or.inr (Or.inl q))
    · cases q.1
  · intro τ hA
    refine WP.mono (fun r τ2 hp => ?_) _ _ _ _ (h ρ hT τ hA)
    obtain ⟨ρ2, h1, h2⟩ := hp
    exact ⟨ρ2, ⟨ρ2, h1, fun q => Or.inl q, fun q => Or.inl q, fun _ _ _ _ => rfl⟩, h2⟩
