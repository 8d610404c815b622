-- B: the reference's steps, in the class's words
/-- as KF, but for one LANE -/
def KX (t l : Int) (V ρ : Mm) : Prop := ∀ m : Int, 0 ≤ m → m ≤ t → m ≠ l → ρ 31 0 (22 * m + 16) = (if V 11 m 3 = 0 then 0 else 1) ∧ ρ 31 0 (22 * m + 17) = 0
theorem KF.kx {t : Int} {V ρ : Mm} (h : KF t V ρ) (l : Int) : KX t l V ρ := fun m a b _ => h m a b
theorem KX.kf {t l : Int} {V ρ : Mm} (h : KX t l V ρ) (h16 : ρ 31 0 (22 * l + 16) = (if V 11 l 3 = 0 then 0 else 1)) (h17 : ρ 31 0 (22 * l + 17) = 0) : KF t V ρ := fun m a b => by
  by_cases e : m = l
  · subst e; exact ⟨h16, h17⟩
  · exact h m a b e
theorem KX.e {t l : Int} {V W ρ ρ2 : Mm} (h : KX t l V ρ) (e : ∀ m : Int, 0 ≤ m → m ≤ t → m ≠ l → ρ2 31 0 (22 * m + 16) = ρ 31 0 (22 * m + 16) ∧ ρ2 31 0 (22 * m + 17) = ρ 31 0 (22 * m + 17)) (ev : ∀ m : Int, m ≠ l → W 11 m 3 = V 11 m 3) : KX t l W ρ2 := fun m a b c => by rw [(e m a b c).1, (e m a b c).2, ev m c]; exact h m a b c
theorem rem_sd {V : Mm} {l a : Int} : remM V l a = mu (sdM V l a (V 7 l 6 - 1)) 7 l 6 (V 7 l 6 - 1) := by
  funext c x y
  unfold remM remR
  by_cases hx : x = l
  · subst hx
    rw [if_pos rfl]
    by_cases h : c = 8 ∨ c = 9 ∨ c = 10
    · rw [if_pos h, mu_ne (by omega)]
      by_cases e : a ≤ y ∧ y < V 7 x 6 - 1
      · rw [if_pos e, sdM_in ⟨rfl, h, e⟩]
      · rw [if_neg e, sdM_ne (fun q => e q.2.2)]
    · rw [if_neg h]
      by_cases e : c = 7 ∧ y = 6
      · obtain ⟨rfl, rfl⟩ := e
        rw [if_pos ⟨rfl, rfl⟩, mu_self]
      · rw [if_neg e, mu_ne (by omega), sdM_ne (fun q => h q.2.1)]
  · rw [if_neg hx, mu_ne (by omega), sdM_ne (fun q => hx q.1)]
theorem ins_su {V : Mm} {l a t v z : Int} (ha : 0 ≤ a ∧ a ≤ V 7 l 6) : insM V l a t v = mu (mu (mu (mu (mu (mu (mu (suM V l a (V 7 l 6)) 8 l a t) 9 l a v) 10 l a (V 7 l 12)) 7 l 6 (V 7 l 6 + 1)) 7 l 12 (wr (V 7 l 12 + 1))) 7 l 14 (V 7 l 6 - a)) 7 l 10 (max (V 7 l 10) t) := by
  funext c x y
  by_cases hx : x = l
  · subst hx
    unfold insM insR
    rw [if_pos rfl]
    by_cases h7 : c = 7
    · subst h7
      rw [if_neg (by omega), if_neg (by omega), if_neg (by omega), if_pos rfl]
      by_cases e6 : y = 6
      · subst e6
        rw [if_pos rfl, mu_ne (by omega), mu_ne (by omega), mu_ne (by omega), mu_self]
      rw [if_neg e6]
      by_cases e12 : y = 12
      · subst e12
        rw [if_pos rfl, mu_ne (by omega), mu_ne (by omega), mu_self]
      rw [if_neg e12]
      by_cases e10 : y = 10
      · subst e10
        rw [if_pos rfl, mu_self]
      rw [if_neg e10]
      by_cases e14 : y = 14
      · subst e14
        rw [if_pos rfl, mu_ne (by omega), mu_self]
      · rw [if_neg e14, mu_ne (by omega), mu_ne (by omega), mu_ne (by omega), mu_ne (by omega), mu_ne (by omega), mu_ne (by omega), mu_ne (by omega), suM_ne (by omega)]
    · rw [mu_ne (by omega), mu_ne (by omega), mu_ne (by omega), mu_ne (by omega)]
      by_cases ey : y = a
      · subst ey
        by_cases h8 : c = 8
        · subst h8; rw [if_pos rfl, if_pos rfl, mu_ne (by omega), mu_ne (by omega), mu_self]
        by_cases h9 : c = 9
        · subst h9; rw [if_neg h8, if_pos rfl, if_pos rfl, mu_ne (by omega), mu_self]
        by_cases h10 : c = 10
        · subst h10; rw [if_neg h8, if_neg h9, if_pos rfl, if_pos rfl, mu_self]
        · rw [if_neg h8, if_neg h9, if_neg h10, if_neg h7, mu_ne (by omega), mu_ne (by omega), mu_ne (by omega), suM_ne (by omega)]
      · rw [mu_ne (by omega), mu_ne (by omega), mu_ne (by omega)]
        by_cases e : a < y ∧ y ≤ V 7 x 6
        · by_cases h8 : c = 8
          · subst h8; rw [if_pos rfl, if_neg ey, if_pos e, suM_in (by omega)]
          by_cases h9 : c = 9
          · subst h9; rw [if_neg h8, if_pos rfl, if_neg ey, if_pos e, suM_in (by omega)]
          by_cases h10 : c = 10
          · subst h10; rw [if_neg h8, if_neg h9, if_pos rfl, if_neg ey, if_pos e, suM_in (by omega)]
          · rw [if_neg h8, if_neg h9, if_neg h10, if_neg h7, suM_ne (by omega)]
        · rw [suM_ne (by omega)]
          by_cases h8 : c = 8
          · subst h8; rw [if_pos rfl, if_neg ey, if_neg e]
          by_cases h9 : c = 9
          · subst h9; rw [if_neg h8, if_pos rfl, if_neg ey, if_neg e]
          by_cases h10 : c = 10
          · subst h10; rw [if_neg h8, if_neg h9, if_pos rfl, if_neg ey, if_neg e]
          · rw [if_neg h8, if_neg h9, if_neg h10, if_neg h7]
  · unfold insM
    rw [if_neg hx, mu_ne (by omega), mu_ne (by omega), mu_ne (by omega), mu_ne (by omega), mu_ne (by omega), mu_ne (by omega), mu_ne (by omega), suM_ne (by omega)]
theorem mu_same {V : Mm} {c : Nat} {x y a : Int} (h : V c x y = a) : mu V c x y a = V := by
  funext c2 x2 y2
  by_cases e : c2 = c ∧ x2 = x ∧ y2 = y
  · obtain ⟨rfl, rfl, rfl⟩ := e
    rw [mu_self, h]
  · rw [mu_ne e]
/-- a WATCH looked at -/
theorem noM_1 {V : Mm} {w t : Int} (h : V 12 w 3 = 0) : noM V w 1 t = mu (mu (mu V 12 w 4 (wr (V 12 w 4 + 1))) 12 w 5 t) 12 w 3 1 :=
  noM_eq (fun c x y q => by rw [mu_ne (by omega), mu_ne (by omega), mu_ne (by omega)]) (by rw [mu_self]) (by rw [mu_ne (by omega), mu_ne (by omega), mu_self, if_pos ⟨rfl, h⟩]) (by rw [mu_ne (by omega), mu_self, if_pos ⟨rfl, h⟩])
theorem noM_0 {V : Mm} {w z t : Int} (h : ¬ (z = 1 ∧ V 12 w 3 = 0)) : noM V w z t = mu V 12 w 3 z :=
  noM_eq (fun c x y q => by rw [mu_ne (by omega)]) (by rw [mu_self]) (by rw [mu_ne (by omega), if_neg h]) (by rw [mu_ne (by omega), if_neg h])
theorem rgK_nf {V : Mm} {i w : Int} (h : V 12 w 0 ≠ i) : rgK V i (w + 1) = rgK V i w := by
  funext c x y
  exact rgK_no h c x y
theorem rgK_ne {V : Mm} {i n x y : Int} {c : Nat} (h : ¬ (c = 12 ∧ 3 ≤ y ∧ y ≤ 5)) : rgK V i n c x y = V c x y := by
  unfold rgK
  split
  · rename_i q
    rw [if_neg (by omega), if_neg (by omega), if_neg (by omega), q.1]
  · rfl
theorem rgK_yf {V : Mm} {i w : Int} (h0 : 0 ≤ w) (h : V 12 w 0 = i) : noM (rgK V i w) w (isR V i w) (V 7 i 10) = rgK V i (w + 1) := by
  funext c x y
  by_cases hc : c = 12
  · subst hc
    exact rgK_yes h0 h (fun _ _ => rfl) rfl rfl x y
  · rw [noM_ne (by omega), rgK_ne (by omega), rgK_ne (by omega)]
theorem rgK_0f {V : Mm} {i : Int} : rgK V i 0 = V := by
  funext c x y
  exact rgK_0 rfl c x y
theorem isR_rc {V : Mm} {l w : Int} : isR V l w = rc1 V l (V 12 w 1) (V 12 w 2) := rfl
theorem rc1_g {V W : Mm} {l w b : Int} (h16 : W 16 0 = V 16 0) (h15 : W 15 0 = V 15 0) (h7 : ∀ y : Int, W 7 l y = V 7 l y) (h9 : W 9 l = V 9 l) : rc1 W l w b = rc1 V l w b := by
  unfold rc1 nmV
  rw [h16, h15, h9, h7, h7]
