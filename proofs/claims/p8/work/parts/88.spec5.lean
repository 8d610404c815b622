-- B: what the reference's rows become
def ceM (V : Mm) (l a m b : Int) : Mm := mu (mu (mu V 8 m b (V 8 l a)) 9 m b (V 9 l a)) 10 m b (V 10 l a)
def suM (V : Mm) (l a h : Int) : Mm := fun c x y => if x = l ∧ (c = 8 ∨ c = 9 ∨ c = 10) ∧ a < y ∧ y ≤ h then V c l (y - 1) else V c x y
def sdM (V : Mm) (l a h : Int) : Mm := fun c x y => if x = l ∧ (c = 8 ∨ c = 9 ∨ c = 10) ∧ a ≤ y ∧ y < h then V c l (y + 1) else V c x y
theorem suM_0 {V : Mm} {l a h : Int} (q : h ≤ a) : suM V l a h = V := by
  funext c x y
  exact if_neg (by omega)
theorem suM_in {V : Mm} {l a h x y : Int} {c : Nat} (q : x = l ∧ (c = 8 ∨ c = 9 ∨ c = 10) ∧ a < y ∧ y ≤ h) : suM V l a h c x y = V c l (y - 1) := if_pos q
theorem suM_ne {V : Mm} {l a h x y : Int} {c : Nat} (q : ¬ (x = l ∧ (c = 8 ∨ c = 9 ∨ c = 10) ∧ a < y ∧ y ≤ h)) : suM V l a h c x y = V c x y := if_neg q
theorem sdM_0 {V : Mm} {l a h : Int} (q : h ≤ a) : sdM V l a h = V := by
  funext c x y
  exact if_neg (by omega)
theorem sdM_in {V : Mm} {l a h x y : Int} {c : Nat} (q : x = l ∧ (c = 8 ∨ c = 9 ∨ c = 10) ∧ a ≤ y ∧ y < h) : sdM V l a h c x y = V c l (y + 1) := if_pos q
theorem sdM_ne {V : Mm} {l a h x y : Int} {c : Nat} (q : ¬ (x = l ∧ (c = 8 ∨ c = 9 ∨ c = 10) ∧ a ≤ y ∧ y < h)) : sdM V l a h c x y = V c x y := if_neg q
theorem suM_s {V : Mm} {l i h : Int} (hi : i ≤ h) : ceM (suM V l i h) l (i - 1) l i = suM V l (i - 1) h := by
  funext c x y
  unfold ceM
  by_cases e : x = l ∧ y = i ∧ (c = 8 ∨ c = 9 ∨ c = 10)
  · obtain ⟨rfl, rfl, e⟩ := e
    rw [suM_in (h := h) (a := y - 1) ⟨rfl, e, by omega, by omega⟩]
    rcases e with rfl | rfl | rfl
    · rw [mu_ne (by omega), mu_ne (by omega), mu_self, suM_ne (by omega)]
    · rw [mu_ne (by omega), mu_self, suM_ne (by omega)]
    · rw [mu_self, suM_ne (by omega)]
  · rw [mu_ne (by omega), mu_ne (by omega), mu_ne (by omega)]
    by_cases q : x = l ∧ (c = 8 ∨ c = 9 ∨ c = 10) ∧ i < y ∧ y ≤ h
    · rw [suM_in q, suM_in (by omega)]
    · rw [suM_ne q, suM_ne (by omega)]
theorem sdM_s {V : Mm} {l a i h : Int} (ha : a ≤ i) : ceM (sdM V l a i) l (i + 1) l i = sdM V l a (i + 1) := by
  funext c x y
  unfold ceM
  by_cases e : x = l ∧ y = i ∧ (c = 8 ∨ c = 9 ∨ c = 10)
  · obtain ⟨rfl, rfl, e⟩ := e
    rw [sdM_in (h := y + 1) (a := a) ⟨rfl, e, by omega, by omega⟩]
    rcases e with rfl | rfl | rfl
    · rw [mu_ne (by omega), mu_ne (by omega), mu_self, sdM_ne (by omega)]
    · rw [mu_ne (by omega), mu_self, sdM_ne (by omega)]
    · rw [mu_self, sdM_ne (by omega)]
  · rw [mu_ne (by omega), mu_ne (by omega), mu_ne (by omega)]
    by_cases q : x = l ∧ (c = 8 ∨ c = 9 ∨ c = 10) ∧ a ≤ y ∧ y < i
    · rw [sdM_in q, sdM_in (by omega)]
    · rw [sdM_ne q, sdM_ne (by omega)]
/-- in order of the times -/
def So (f : Int → Int) (h : Int) : Prop := ∀ j : Int, 0 ≤ j → j + 1 < h → f j ≤ f (j + 1)
theorem So.le {f : Int → Int} {h : Int} (s : So f h) {i : Int} (h0 : 0 ≤ i) : ∀ n : Nat, i + n < h → f i ≤ f (i + n)
  | 0, _ => by rw [show i + ((0 : Nat) : Int) = i from by omega]; exact Int.le_refl _
  | n + 1, q => by
    have a := s.le h0 n (by omega)
    have b := s (i + n) (by omega) (by omega)
    rw [show i + ((n + 1 : Nat) : Int) = i + n + 1 from by omega]
    omega
theorem So.le2 {f : Int → Int} {h : Int} (s : So f h) {i j : Int} (h0 : 0 ≤ i) (h1 : i ≤ j) (h2 : j < h) : f i ≤ f j := by
  have := s.le h0 (j - i).toNat (by omega)
  rw [show i + ((j - i).toNat : Int) = j from by omega] at this
  exact this
theorem hc_up {f : Int → Int} {t h i : Int} (s : So f h) (h0 : 0 ≤ i) (h1 : i ≤ h) (ha : ∀ j : Int, 0 ≤ j → j < i → f j ≤ t) (he : i = h ∨ t < f i) : hc f t h.toNat = i := by
  have key : ∀ n : Nat, i ≤ (n : Int) → (n : Int) ≤ h → hc f t n = i := fun n => by
    induction n with
    | zero => intro a b; show (0 : Int) = i; omega
    | succ n ih =>
      intro a b
      show (if f n ≤ t then (n : Int) + 1 else hc f t n) = i
      by_cases e : i = ((n + 1 : Nat) : Int)
      · rw [if_pos (ha n (by omega) (by omega))]; omega
      · have hb : t < f n := by
          rcases he with q | q
          · omega
          · have := s.le2 h0 (show i ≤ (n : Int) by omega) (by omega)
            omega
        rw [if_neg (by omega)]
        exact ih (by omega) (by omega)
  exact key h.toNat (by omega) (by omega)
