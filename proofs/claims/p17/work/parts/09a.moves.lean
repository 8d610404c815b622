-- B: what the movers come to, in the class's places (V: a memory, i: a LANE)
def su (V : Mm) (k : Nat) (i : Int) (f : Int → Int) : Mm := fun c x y => if c = k ∧ x = i then f y else V c x y
theorem su_ne {V : Mm} {k c : Nat} {i x y : Int} {f : Int → Int} (h : ¬ (c = k ∧ x = i)) : su V k i f c x y = V c x y := if_neg h
theorem su_at {V : Mm} {k : Nat} {i y : Int} {f : Int → Int} : su V k i f k i y = f y := if_pos ⟨rfl, rfl⟩
theorem cpy_ne {τ : Mm} {c0 c1 c : Nat} {i0 i1 sp dp n x y : Int} (h : c ≠ c1) : cpy τ c0 i0 sp c1 i1 dp n c x y = τ c x y := if_neg (fun q => h q.1)
def r7 (a0 a1 a2 a3 a4 a5 a6 : Int) (g : Int → Int) : Int → Int := fun y => if y = 0 then a0 else if y = 1 then a1 else if y = 2 then a2 else if y = 3 then a3 else if y = 4 then a4 else if y = 5 then a5 else if y = 6 then a6 else g y
theorem mu7 {σ : Mm} {k : Nat} {i a0 a1 a2 a3 a4 a5 a6 : Int} {ρ : Mm} (g : Gx (fun c x y => c = k ∧ x = i ∧ 0 ≤ y ∧ y ≤ 6) σ ρ) (h0 : ρ k i 0 = a0) (h1 : ρ k i 1 = a1) (h2 : ρ k i 2 = a2) (h3 : ρ k i 3 = a3) (h4 : ρ k i 4 = a4) (h5 : ρ k i 5 = a5) (h6 : ρ k i 6 = a6) : ρ = su σ k i (r7 a0 a1 a2 a3 a4 a5 a6 (σ k i)) := by
  funext c x y
  by_cases hc : c = k ∧ x = i
  · obtain ⟨rfl, rfl⟩ := hc
    rw [su_at]
    unfold r7
    by_cases e0 : y = 0
    · subst e0; rw [if_pos rfl]; exact h0
    rw [if_neg e0]
    by_cases e1 : y = 1
    · subst e1; rw [if_pos rfl]; exact h1
    rw [if_neg e1]
    by_cases e2 : y = 2
    · subst e2; rw [if_pos rfl]; exact h2
    rw [if_neg e2]
    by_cases e3 : y = 3
    · subst e3; rw [if_pos rfl]; exact h3
    rw [if_neg e3]
    by_cases e4 : y = 4
    · subst e4; rw [if_pos rfl]; exact h4
    rw [if_neg e4]
    by_cases e5 : y = 5
    · subst e5; rw [if_pos rfl]; exact h5
    rw [if_neg e5]
    by_cases e6 : y = 6
    · subst e6; rw [if_pos rfl]; exact h6
    rw [if_neg e6]
    exact g _ _ _ (by omega)
  · rw [su_ne hc]
    exact g _ _ _ (fun q => hc ⟨q.1, q.2.1⟩)
/-- how many are of a time or one ahead of it, seen from the newest -/
def hc (f : Int → Int) (t : Int) : Nat → Int
  | 0 => 0
  | n + 1 => if f n ≤ t then (n : Int) + 1 else hc f t n
def hU (V : Mm) (i t : Int) : Int := hc (V 8 i) t (V 7 i 6).toNat
theorem hc_b (f : Int → Int) (t : Int) : ∀ n : Nat, 0 ≤ hc f t n ∧ hc f t n ≤ n
  | 0 => ⟨Int.le_refl _, Int.le_refl _⟩
  | n + 1 => by
    have ih := hc_b f t n
    show 0 ≤ (if f n ≤ t then (n : Int) + 1 else hc f t n) ∧ (if f n ≤ t then (n : Int) + 1 else hc f t n) ≤ _
    split <;> omega
theorem hU_b {V : Mm} {i t : Int} (h : 0 ≤ V 7 i 6) : 0 ≤ hU V i t ∧ hU V i t ≤ V 7 i 6 := by
  have := hc_b (V 8 i) t (V 7 i 6).toNat
  unfold hU
  omega
-- FRONT, MIDDLE, BACK: the end of a MOVE that took c
def emL (f : Int → Int) : Int := if f 1 = 0 ∧ f 2 > f 0 then f 2 + f 0 else f 3
def emM (f : Int → Int) : Int := if f 1 = 0 ∧ f 2 > f 0 then f 2 else f 1
def emT (c : Int) (f : Int → Int) : Int := (if f 1 = 0 ∧ f 2 > f 0 then c - 1 else c) + min 3 (emL f)
def emR (c : Int) (f : Int → Int) : Int → Int := r7 (if emL f - min 3 (emL f) = 0 then f 0 + emM f else f 0) (if emL f - min 3 (emL f) = 0 then 0 else emM f) (if f 1 = 0 ∧ f 2 > f 0 then 0 else f 2) (emL f - min 3 (emL f)) (emT c f) (wr (f 5 + emT c f)) (max (f 6) (emT c f)) f
def ft (f : Int → Int) (j a : Int) : Int → Int := fun y => if y = j then a else f y
def adR (f : Int → Int) : Int → Int := emR (if f 2 > 0 then 1 else 0) (ft f 2 (f 2 + 1))
def dfR (f : Int → Int) : Int → Int := emR 0 (ft (ft f 0 (f 0 - 1)) 3 (if f 3 > 0 then f 3 - 1 else f 3))
def lyR (h : Int) (f : Int → Int) : Int → Int := r7 h 0 0 0 (max 0 (h - 1)) (wr (f 5 + max 0 (h - 1))) (f 6) f
def zrR (f : Int → Int) : Int → Int := r7 0 0 0 0 0 0 0 f
def adM (V : Mm) (i : Int) : Mm := su V 11 i (adR (V 11 i))
def dfM (V : Mm) (i : Int) : Mm := su V 11 i (dfR (V 11 i))
def lyM (V : Mm) (i h : Int) : Mm := su V 11 i (lyR h (V 11 i))
-- what lies in a row: one more, one less
def insR (f : Int → Int) (a h x : Int) : Int → Int := fun y => if y = a then x else if a < y ∧ y ≤ h then f (y - 1) else f y
def remR (f : Int → Int) (e h : Int) : Int → Int := fun y => if e ≤ y ∧ y < h - 1 then f (y + 1) else f y
def insM (V : Mm) (i a t v : Int) : Mm := fun c x y => if x = i then (if c = 8 then insR (V 8 i) a (V 7 i 6) t y else if c = 9 then insR (V 9 i) a (V 7 i 6) v y else if c = 10 then insR (V 10 i) a (V 7 i 6) (V 7 i 12) y else if c = 7 then (if y = 6 then V 7 i 6 + 1 else if y = 12 then wr (V 7 i 12 + 1) else if y = 10 then max (V 7 i 10) t else if y = 14 then V 7 i 6 - a else V 7 i y) else V c x y) else V c x y
def remM (V : Mm) (i e : Int) : Mm := fun c x y => if x = i then (if c = 8 ∨ c = 9 ∨ c = 10 then remR (V c i) e (V 7 i 6) y else if c = 7 ∧ y = 6 then V 7 i 6 - 1 else V c x y) else V c x y
-- WATCHES
def rch (a b : Int) : Prop := a ≠ NO ∧ b ≤ a
def nmV (V : Mm) (i w : Int) : Int := cm (V 16 0) (V 15 0) (V 7 i 2) (V 9 i) (V 7 i 6).toNat w
def isR (V : Mm) (i w : Int) : Int := if nmV V i (V 12 w 1) ≠ NO ∧ V 12 w 2 ≤ nmV V i (V 12 w 1) then 1 else 0
def rgM (V : Mm) (i : Int) : Mm := fun c w y => if c = 12 ∧ (0 ≤ w ∧ w < 8) ∧ V 12 w 0 = i then (if y = 3 then isR V i w else if y = 4 then (if isR V i w = 1 ∧ V 12 w 3 = 0 then wr (V 12 w 4 + 1) else V 12 w 4) else if y = 5 then (if isR V i w = 1 ∧ V 12 w 3 = 0 then V 7 i 10 else V 12 w 5) else V 12 w y) else V c w y
def dpM (V : Mm) (i : Int) : Mm := rgM (dfM (mu (remM V i 0) 7 i 13 (wr (V 7 i 13 + 1))) i) i
abbrev goV (V : Mm) (i : Int) : Prop := (V 7 i 3 = 1 ∧ V 7 i 4 < V 7 i 6) ∨ (V 7 i 3 = 2 ∧ 0 < V 7 i 6 ∧ V 8 i 0 ≤ wr (V 7 i 10 - V 7 i 4))
def drps (i : Int) : Nat → Mm → Mm
  | 0, V => V
  | n + 1, V => if goV V i then drps i n (dpM V i) else V
def dpN (i : Int) : Nat → Mm → Mm
  | 0, V => V
  | n + 1, V => dpN i n (dpM V i)
def enM (V : Mm) (i t v : Int) : Mm := rgM (if hU V i t = V 7 i 6 then adM (insM V i (hU V i t) t v) i else lyM (insM V i (hU V i t) t v) i (V 7 i 6 + 1)) i
def plM (V : Mm) (i t v : Int) : Mm := drps i (V 7 i 6 + 1).toNat (enM V i t v)
-- LINKS
def ses (T : Int → Int) (g : Int) : Nat → Int
  | 0 => 0
  | n + 1 => if wr (T (n + 1) - T n) > g then (n : Int) + 1 else ses T g n
def gvN (V : Mm) (i : Int) : Int := cm (V 16 0) (V 15 0) (V 7 i 2) (fun j => V 9 i (ses (V 8 i) (V 13 i 1) (V 7 i 6 - 1).toNat + j)) (V 7 i 6 - ses (V 8 i) (V 13 i 1) (V 7 i 6 - 1).toNat).toNat (V 13 i 2)
abbrev fuV (V : Mm) (i : Int) : Prop := V 7 i 3 ≠ 1 ∧ 120 ≤ V 7 i 6
abbrev ltV (V : Mm) (i t : Int) : Prop := t < wr (V 7 i 10 - V 7 i 5)
abbrev gvC (V : Mm) (i t : Int) : Prop := (0 ≤ V 13 i 0 ∧ V 13 i 0 ≤ 3 ∧ V 7 (V 13 i 0) 1 = 1) ∧ 1 ≤ V 7 i 6 ∧ wr (t - V 8 i (V 7 i 6 - 1)) > V 13 i 1 ∧ ¬ fuV V (V 13 i 0) ∧ gvN V i ≠ NO ∧ ¬ ltV V (V 13 i 0) (V 8 i (V 7 i 6 - 1))
def gvM (V : Mm) (i t : Int) : Mm := if gvC V i t then plM (mu V 13 i 3 (wr (V 13 i 3 + 1))) (V 13 i 0) (V 8 i (V 7 i 6 - 1)) (max (-1000) (min 1000 (gvN V i))) else V
def ntM (V : Mm) : Mm := fun c x y => if c = 7 ∧ (0 ≤ x ∧ x ≤ 3) ∧ y = 15 then max (V 7 x 15) (V 7 x 6) else V c x y
theorem lcmp_f (a b : Int) : (-1 ≤ lcmp a b ∧ lcmp a b ≤ 1) ∧ (lcmp a b ≤ 0 ↔ a ≤ b) ∧ (lcmp a b < 0 ↔ a < b) := by
  unfold lcmp
  split
  · omega
  · split <;> omega
theorem mu_row {V : Mm} {k : Nat} {i j a : Int} : mu V k i j a k i = ft (V k i) j a := by
  funext y
  unfold mu ft
  by_cases h : y = j
  · rw [if_pos ⟨rfl, rfl, h⟩, if_pos h]
  · rw [if_neg (fun q => h q.2.2), if_neg h]
theorem su_mu {V : Mm} {k : Nat} {i j a : Int} {f : Int → Int} : su (mu V k i j a) k i f = su V k i f := by
  funext c x y
  unfold su
  by_cases h : c = k ∧ x = i
  · rw [if_pos h, if_pos h]
  · rw [if_neg h, if_neg h, mu_ne (fun q => h ⟨q.1, q.2.1⟩)]
theorem adM_1 {V : Mm} {i : Int} (h : V 11 i 2 > 0) : adM V i = su (mu V 11 i 2 (V 11 i 2 + 1)) 11 i (emR 1 ((mu V 11 i 2 (V 11 i 2 + 1)) 11 i)) := by
  rw [su_mu, mu_row]
  unfold adM adR
  rw [if_pos h]
theorem adM_0 {V : Mm} {i : Int} (h : ¬ V 11 i 2 > 0) : adM V i = su (mu V 11 i 2 (V 11 i 2 + 1)) 11 i (emR 0 ((mu V 11 i 2 (V 11 i 2 + 1)) 11 i)) := by
  rw [su_mu, mu_row]
  unfold adM adR
  rw [if_neg h]
theorem ft_self (f : Int → Int) (j : Int) : ft f j (f j) = f := by
  funext y
  unfold ft
  split
  · rename_i h; rw [h]
  · rfl
theorem dfM_1 {V : Mm} {i : Int} (h : V 11 i 3 > 0) : dfM V i = su (mu (mu V 11 i 0 (V 11 i 0 - 1)) 11 i 3 (V 11 i 3 - 1)) 11 i (emR 0 ((mu (mu V 11 i 0 (V 11 i 0 - 1)) 11 i 3 (V 11 i 3 - 1)) 11 i)) := by
  rw [su_mu, mu_row, su_mu, mu_row]
  unfold dfM dfR
  rw [if_pos h]
theorem dfM_0 {V : Mm} {i : Int} (h : ¬ V 11 i 3 > 0) : dfM V i = su (mu V 11 i 0 (V 11 i 0 - 1)) 11 i (emR 0 ((mu V 11 i 0 (V 11 i 0 - 1)) 11 i)) := by
  rw [su_mu, mu_row]
  unfold dfM dfR
  rw [if_neg h, show V 11 i 3 = ft (V 11 i) 0 (V 11 i 0 - 1) 3 from rfl, ft_self]
theorem cpy_in {τ : Mm} {c0 c1 : Nat} {i0 i1 sp dp n j : Int} (h : dp ≤ j ∧ j < dp + n) : cpy τ c0 i0 sp c1 i1 dp n c1 i1 j = τ c0 i0 (sp + (j - dp)) := if_pos ⟨rfl, rfl, h⟩
theorem cpy_ni {τ : Mm} {c0 c1 c : Nat} {i0 i1 sp dp n x y : Int} (h : ¬ (c = c1 ∧ x = i1)) : cpy τ c0 i0 sp c1 i1 dp n c x y = τ c x y := if_neg (fun q => h ⟨q.1, q.2.1⟩)
theorem insM_eq {V : Mm} {i a t v n w z : Int} (hn : n = V 7 i 6 - a) (ha : 0 ≤ a ∧ a ≤ V 7 i 6) (hw : w = wr (V 7 i 12 + 1)) (hz : z = max (V 7 i 10) t) : insM V i a t v = mu (mu (mu (mu (mu (mu (cpy (cpy (cpy (mu V 7 i 14 n) 8 i a 8 i (a + 1) n) 9 i a 9 i (a + 1) n) 10 i a 10 i (a + 1) n) 8 i a t) 9 i a v) 10 i a (V 7 i 12)) 7 i 6 (V 7 i 6 + 1)) 7 i 12 w) 7 i 10 z := by
  subst hn hw hz
  funext c x y
  by_cases hx : x = i
  · subst hx
    unfold insM
    rw [if_pos rfl]
    by_cases h8 : c = 8
    · subst h8
      rw [if_pos rfl, mu_ne (by omega), mu_ne (by omega), mu_ne (by omega), mu_ne (by omega), mu_ne (by omega)]
      unfold insR
      by_cases e1 : y = a
      · subst e1; rw [if_pos rfl, mu_self]
      · rw [if_neg e1, mu_ne (by omega), cpy_ne (by omega), cpy_ne (by omega)]
        by_cases e2 : a < y ∧ y ≤ V 7 x 6
        · rw [if_pos e2, cpy_in (by omega), show a + (y - (a + 1)) = y - 1 from by omega, mu_ne (by omega)]
        · rw [if_neg e2, cpy_off (by omega), mu_ne (by omega)]
    rw [if_neg h8]
    by_cases h9 : c = 9
    · subst h9
      rw [if_pos rfl, mu_ne (by omega), mu_ne (by omega), mu_ne (by omega), mu_ne (by omega)]
      unfold insR
      by_cases e1 : y = a
      · subst e1; rw [if_pos rfl, mu_self]
      · rw [if_neg e1, mu_ne (by omega), mu_ne (by omega), cpy_ne (by omega)]
        by_cases e2 : a < y ∧ y ≤ V 7 x 6
        · rw [if_pos e2, cpy_in (by omega), show a + (y - (a + 1)) = y - 1 from by omega, cpy_ne (by omega), mu_ne (by omega)]
        · rw [if_neg e2, cpy_off (by omega), cpy_ne (by omega), mu_ne (by omega)]
    rw [if_neg h9]
    by_cases h10 : c = 10
    · subst h10
      rw [if_pos rfl, mu_ne (by omega), mu_ne (by omega), mu_ne (by omega)]
      unfold insR
      by_cases e1 : y = a
      · subst e1; rw [if_pos rfl, mu_self]
      · rw [if_neg e1, mu_ne (by omega), mu_ne (by omega), mu_ne (by omega)]
        by_cases e2 : a < y ∧ y ≤ V 7 x 6
        · rw [if_pos e2, cpy_in (by omega), show a + (y - (a + 1)) = y - 1 from by omega, cpy_ne (by omega), cpy_ne (by omega), mu_ne (by omega)]
        · rw [if_neg e2, cpy_off (by omega), cpy_ne (by omega), cpy_ne (by omega), mu_ne (by omega)]
    rw [if_neg h10]
    by_cases h7 : c = 7
    · subst h7
      rw [if_pos rfl]
      by_cases e6 : y = 6
      · subst e6
        rw [if_pos rfl, mu_ne (by omega), mu_ne (by omega), mu_self]
      rw [if_neg e6]
      by_cases e12 : y = 12
      · subst e12
        rw [if_pos rfl, mu_ne (by omega), mu_self]
      rw [if_neg e12]
      by_cases e10 : y = 10
      · subst e10
        rw [if_pos rfl, mu_self]
      rw [if_neg e10]
      rw [mu_ne (by omega), mu_ne (by omega), mu_ne (by omega), mu_ne (by omega), mu_ne (by omega), mu_ne (by omega), cpy_ne (by omega), cpy_ne (by omega), cpy_ne (by omega)]
      by_cases e14 : y = 14
      · subst e14
        rw [if_pos rfl, mu_self]
      · rw [if_neg e14, mu_ne (by omega)]
    · rw [if_neg h7, mu_ne (by omega), mu_ne (by omega), mu_ne (by omega), mu_ne (by omega), mu_ne (by omega), mu_ne (by omega), cpy_ne (by omega), cpy_ne (by omega), cpy_ne (by omega), mu_ne (by omega)]
  · unfold insM
    rw [if_neg hx, mu_ne (by omega), mu_ne (by omega), mu_ne (by omega), mu_ne (by omega), mu_ne (by omega), mu_ne (by omega)]
    rw [cpy_ni (by omega), cpy_ni (by omega), cpy_ni (by omega), mu_ne (by omega)]
theorem remM_eq {V : Mm} {i a : Int} (ha : 0 ≤ a ∧ a < V 7 i 6) : remM V i a = mu (cpy (cpy (cpy V 8 i (a + 1) 8 i a (V 7 i 6 - a - 1)) 9 i (a + 1) 9 i a (V 7 i 6 - a - 1)) 10 i (a + 1) 10 i a (V 7 i 6 - a - 1)) 7 i 6 (V 7 i 6 - 1) := by
  funext c x y
  unfold remM
  by_cases hx : x = i
  · subst hx
    rw [if_pos rfl]
    by_cases h : c = 8 ∨ c = 9 ∨ c = 10
    · rw [if_pos h, mu_ne (by omega)]
      unfold remR
      by_cases e : a ≤ y ∧ y < V 7 x 6 - 1
      · rw [if_pos e]
        rcases h with rfl | rfl | rfl
        · rw [cpy_ne (by omega), cpy_ne (by omega), cpy_in (by omega), show a + 1 + (y - a) = y + 1 from by omega]
        · rw [cpy_ne (by omega), cpy_in (by omega), show a + 1 + (y - a) = y + 1 from by omega, cpy_ne (by omega)]
        · rw [cpy_in (by omega), show a + 1 + (y - a) = y + 1 from by omega, cpy_ne (by omega), cpy_ne (by omega)]
      · rw [if_neg e]
        rcases h with rfl | rfl | rfl
        · rw [cpy_ne (by omega), cpy_ne (by omega), cpy_off (by omega)]
        · rw [cpy_ne (by omega), cpy_off (by omega), cpy_ne (by omega)]
        · rw [cpy_off (by omega), cpy_ne (by omega), cpy_ne (by omega)]
    · rw [if_neg h]
      by_cases e : c = 7 ∧ y = 6
      · obtain ⟨rfl, rfl⟩ := e
        rw [if_pos ⟨rfl, rfl⟩, mu_self]
      · rw [if_neg e, mu_ne (by omega), cpy_ne (by omega), cpy_ne (by omega), cpy_ne (by omega)]
  · rw [if_neg hx, mu_ne (by omega), cpy_ni (by omega), cpy_ni (by omega), cpy_ni (by omega)]
theorem insM_ne {V : Mm} {i a t v x y : Int} {c : Nat} (h : ¬ (x = i ∧ (c = 8 ∨ c = 9 ∨ c = 10 ∨ (c = 7 ∧ (y = 6 ∨ y = 12 ∨ y = 10 ∨ y = 14))))) : insM V i a t v c x y = V c x y := by
  unfold insM
  by_cases hx : x = i
  · subst hx
    rw [if_pos rfl, if_neg (by omega), if_neg (by omega), if_neg (by omega)]
    split
    · rename_i h7
      subst h7
      rw [if_neg (by omega), if_neg (by omega), if_neg (by omega), if_neg (by omega)]
    · rfl
  · rw [if_neg hx]
theorem insM_6 {V : Mm} {i a t v : Int} : insM V i a t v 7 i 6 = V 7 i 6 + 1 := by
  unfold insM
  rw [if_pos rfl, if_neg (by omega), if_neg (by omega), if_neg (by omega), if_pos rfl, if_pos rfl]
theorem remM_ne {V : Mm} {i a x y : Int} {c : Nat} (h : ¬ (x = i ∧ (c = 8 ∨ c = 9 ∨ c = 10 ∨ (c = 7 ∧ y = 6)))) : remM V i a c x y = V c x y := by
  unfold remM
  by_cases hx : x = i
  · subst hx
    rw [if_pos rfl, if_neg (by omega), if_neg (by omega)]
  · rw [if_neg hx]
theorem remM_6 {V : Mm} {i a : Int} : remM V i a 7 i 6 = V 7 i 6 - 1 := by
  unfold remM
  rw [if_pos rfl, if_neg (by omega), if_pos ⟨rfl, rfl⟩]
theorem rgM_ne {V : Mm} {i w y : Int} {c : Nat} (h : ¬ (c = 12 ∧ 3 ≤ y ∧ y ≤ 5)) : rgM V i c w y = V c w y := by
  unfold rgM
  split
  · rename_i q
    rw [if_neg (by omega), if_neg (by omega), if_neg (by omega), q.1]
  · rfl
theorem adM_ne {V : Mm} {i x y : Int} {c : Nat} (h : ¬ (c = 11 ∧ x = i)) : adM V i c x y = V c x y := su_ne h
theorem dfM_ne {V : Mm} {i x y : Int} {c : Nat} (h : ¬ (c = 11 ∧ x = i)) : dfM V i c x y = V c x y := su_ne h
theorem lyM_ne {V : Mm} {i hh x y : Int} {c : Nat} (h : ¬ (c = 11 ∧ x = i)) : lyM V i hh c x y = V c x y := su_ne h
theorem dpM_ne {V : Mm} {i x y : Int} {c : Nat} (h : ¬ (c = 12 ∧ 3 ≤ y ∧ y ≤ 5) ∧ ¬ (c = 11 ∧ x = i) ∧ ¬ (x = i ∧ (c = 8 ∨ c = 9 ∨ c = 10 ∨ (c = 7 ∧ (y = 6 ∨ y = 13))))) : dpM V i c x y = V c x y := by
  unfold dpM
  rw [rgM_ne h.1, dfM_ne h.2.1, mu_ne (by omega), remM_ne (by omega)]
theorem dpM_6 {V : Mm} {i : Int} : dpM V i 7 i 6 = V 7 i 6 - 1 := by
  unfold dpM
  rw [rgM_ne (by omega), dfM_ne (by omega), mu_ne (by omega), remM_6]
theorem r7_0 {a0 a1 a2 a3 a4 a5 a6 : Int} {g : Int → Int} : r7 a0 a1 a2 a3 a4 a5 a6 g 0 = a0 := if_pos rfl
theorem r7_1 {a0 a1 a2 a3 a4 a5 a6 : Int} {g : Int → Int} : r7 a0 a1 a2 a3 a4 a5 a6 g 1 = a1 := (if_neg (by decide)).trans (if_pos rfl)
theorem r7_2 {a0 a1 a2 a3 a4 a5 a6 : Int} {g : Int → Int} : r7 a0 a1 a2 a3 a4 a5 a6 g 2 = a2 := (if_neg (by decide)).trans ((if_neg (by decide)).trans (if_pos rfl))
theorem r7_3 {a0 a1 a2 a3 a4 a5 a6 : Int} {g : Int → Int} : r7 a0 a1 a2 a3 a4 a5 a6 g 3 = a3 := (if_neg (by decide)).trans ((if_neg (by decide)).trans ((if_neg (by decide)).trans (if_pos rfl)))
/-- what FRONT, MIDDLE, BACK and the STEPS left keep, h being held -/
def FI (f : Int → Int) (h : Int) : Prop := (0 ≤ f 0 ∧ 0 ≤ f 1 ∧ 0 ≤ f 2 ∧ 0 ≤ f 3) ∧ f 0 + f 1 + f 2 = h ∧ (f 3 = 0 ↔ f 1 = 0) ∧ (f 3 = 0 ∨ f 3 ≤ 2 * f 0 - 2) ∧ 3 * f 2 + f 3 ≤ 3 * (f 0 + f 1) ∧ (f 1 ≠ 0 ∨ f 2 ≤ f 0)
theorem FI_ad {f : Int → Int} {h : Int} (p : FI f h) : FI (adR f) (h + 1) := by
  have a0 : ft f 2 (f 2 + 1) 0 = f 0 := if_neg (by decide)
  have a1 : ft f 2 (f 2 + 1) 1 = f 1 := if_neg (by decide)
  have a2 : ft f 2 (f 2 + 1) 2 = f 2 + 1 := if_pos rfl
  have a3 : ft f 2 (f 2 + 1) 3 = f 3 := if_neg (by decide)
  unfold FI at p
  unfold FI adR emR
  rw [r7_0, r7_1, r7_2, r7_3]
  simp only [emL, emM, a0, a1, a2, a3]
  by_cases hb : f 1 = 0 ∧ f 2 + 1 > f 0
  · simp only [if_pos hb]
    by_cases hz : f 2 + 1 + f 0 - min 3 (f 2 + 1 + f 0) = 0
    · simp only [if_pos hz, if_pos hb, emM, a0, a1, a2, a3, iff_true]; omega
    · simp only [if_neg hz, a0, a1, a2, a3]; omega
  · simp only [if_neg hb]
    by_cases hz : f 3 - min 3 (f 3) = 0
    · simp only [if_pos hz, if_neg hb, emM, a0, a1, a2, a3, iff_true]; omega
    · simp only [if_neg hz, a0, a1, a2, a3]; omega
theorem FI_df {f : Int → Int} {h : Int} (p : FI f h) (h1 : 1 ≤ h) : FI (dfR f) (h - 1) := by
  have a0 : ft (ft f 0 (f 0 - 1)) 3 (if f 3 > 0 then f 3 - 1 else f 3) 0 = f 0 - 1 := (if_neg (by decide)).trans (if_pos rfl)
  have a1 : ft (ft f 0 (f 0 - 1)) 3 (if f 3 > 0 then f 3 - 1 else f 3) 1 = f 1 := (if_neg (by decide)).trans (if_neg (by decide))
  have a2 : ft (ft f 0 (f 0 - 1)) 3 (if f 3 > 0 then f 3 - 1 else f 3) 2 = f 2 := (if_neg (by decide)).trans (if_neg (by decide))
  have a3 : ft (ft f 0 (f 0 - 1)) 3 (if f 3 > 0 then f 3 - 1 else f 3) 3 = (if f 3 > 0 then f 3 - 1 else f 3) := if_pos rfl
  unfold FI at p
  unfold FI dfR emR
  rw [r7_0, r7_1, r7_2, r7_3]
  simp only [emL, emM, a0, a1, a2, a3]
  by_cases hb : f 1 = 0 ∧ f 2 > f 0 - 1
  · simp only [if_pos hb]
    by_cases hz : f 2 + (f 0 - 1) - min 3 (f 2 + (f 0 - 1)) = 0
    · simp only [if_pos hz, if_pos hb, emM, a0, a1, a2, a3, iff_true]; omega
    · simp only [if_neg hz, a0, a1, a2, a3]; omega
  · simp only [if_neg hb]
    by_cases hl : f 3 > 0
    · simp only [if_pos hl]
      by_cases hz : f 3 - 1 - min 3 (f 3 - 1) = 0
      · simp only [if_pos hz, if_neg hb, emM, a0, a1, a2, a3, iff_true]; omega
      · simp only [if_neg hz, a0, a1, a2, a3]; omega
    · simp only [if_neg hl]
      by_cases hz : f 3 - min 3 (f 3) = 0
      · simp only [if_pos hz, if_neg hb, emM, a0, a1, a2, a3, iff_true]; omega
      · simp only [if_neg hz, a0, a1, a2, a3]; omega
theorem FI_ly {f : Int → Int} {h : Int} (h0 : 0 ≤ h) : FI (lyR h f) h := by
  unfold FI lyR
  rw [r7_0, r7_1, r7_2, r7_3]
  omega
/-- a LANE on its way: number, what its FLIP keeps -/
def LI (V : Mm) (i : Int) : Prop := V 7 i 0 = i ∧ FI (V 11 i) (V 7 i 6) ∧ 0 ≤ V 7 i 6
def WI (V : Mm) : Prop := ∀ w : Int, 0 ≤ w → w < 8 → V 12 w 3 = 0 ∨ V 12 w 3 = 1
theorem isR_01 (V : Mm) (i w : Int) : isR V i w = 0 ∨ isR V i w = 1 := by
  unfold isR
  split
  · exact Or.inr rfl
  · exact Or.inl rfl
theorem WI.rg {V : Mm} (h : WI V) (i : Int) : WI (rgM V i) := fun w h0 h1 => by
  unfold rgM
  split
  · rw [if_pos rfl]
    exact isR_01 V i w
  · exact h w h0 h1
theorem WI.to {V W : Mm} (h : WI V) (e : ∀ w y : Int, W 12 w y = V 12 w y) : WI W := fun w h0 h1 => by rw [e]; exact h w h0 h1
theorem LI.rg {V : Mm} {i j : Int} (h : LI V i) : LI (rgM V j) i := by
  unfold LI
  rw [rgM_ne (by omega), rgM_ne (by omega), show (rgM V j) 11 i = V 11 i from funext fun y => rgM_ne (by omega)]
  exact h
theorem LI.dp {V : Mm} {i : Int} (h : LI V i) (h1 : 1 ≤ V 7 i 6) : LI (dpM V i) i := by
  refine LI.rg ?_
  refine ⟨?_, ?_, ?_⟩
  · rw [dfM_ne (by omega), mu_ne (by omega), remM_ne (by omega)]; exact h.1
  · rw [dfM_ne (by omega), mu_ne (by omega), remM_6, show dfM (mu (remM V i 0) 7 i 13 (wr (V 7 i 13 + 1))) i 11 i = dfR (V 11 i) from funext fun y => by
      unfold dfM
      rw [su_at, show (mu (remM V i 0) 7 i 13 (wr (V 7 i 13 + 1))) 11 i = V 11 i from funext fun z => (mu_ne (by omega)).trans (remM_ne (by omega))]]
    exact FI_df h.2.1 h1
  · rw [dfM_ne (by omega), mu_ne (by omega), remM_6]; omega
theorem WI.dp {V : Mm} (h : WI V) (i : Int) : WI (dpM V i) := WI.rg (WI.to h fun w y => (dfM_ne (by omega)).trans ((mu_ne (by omega)).trans (remM_ne (by omega)))) i

theorem drps_yes {i : Int} {n : Nat} {V : Mm} (h : goV V i) : drps i (n + 1) V = drps i n (dpM V i) := if_pos h
theorem drps_no {i : Int} {n : Nat} {V : Mm} (h : ¬ goV V i) : drps i n V = V := by
  cases n with
  | zero => rfl
  | succ n => exact if_neg h
-- rings, one WATCH after another
def rgK (V : Mm) (i n : Int) : Mm := fun c w y => if c = 12 ∧ (0 ≤ w ∧ w < n) ∧ V 12 w 0 = i then (if y = 3 then isR V i w else if y = 4 then (if isR V i w = 1 ∧ V 12 w 3 = 0 then wr (V 12 w 4 + 1) else V 12 w 4) else if y = 5 then (if isR V i w = 1 ∧ V 12 w 3 = 0 then V 7 i 10 else V 12 w 5) else V 12 w y) else V c w y
def noM (V : Mm) (w z t : Int) : Mm := fun c x y => if c = 12 ∧ x = w then (if y = 3 then z else if y = 4 then (if z = 1 ∧ V 12 w 3 = 0 then wr (V 12 w 4 + 1) else V 12 w 4) else if y = 5 then (if z = 1 ∧ V 12 w 3 = 0 then t else V 12 w 5) else V 12 w y) else V c x y
theorem noM_ne {V : Mm} {w z t x y : Int} {c : Nat} (h : ¬ (c = 12 ∧ x = w ∧ 3 ≤ y ∧ y ≤ 5)) : noM V w z t c x y = V c x y := by
  unfold noM
  split
  · rename_i q
    rw [if_neg (by omega), if_neg (by omega), if_neg (by omega), q.1, q.2]
  · rfl
theorem rgK_8 {V : Mm} {i n : Int} (h : n = 8) : rgK V i n = rgM V i := by
  subst h
  rfl
theorem rgK_0 {V : Mm} {i n : Int} (h : n = 0) (c : Nat) (x y : Int) : rgK V i n c x y = V c x y := if_neg (by omega)
theorem rgK_lo {V : Mm} {i n w y : Int} (h : y < 3) : rgK V i n 12 w y = V 12 w y := by
  unfold rgK
  split
  · rw [if_neg (by omega), if_neg (by omega), if_neg (by omega)]
  · rfl
theorem rgK_up {V : Mm} {i n w y : Int} (h : n ≤ w) : rgK V i n 12 w y = V 12 w y := if_neg (by omega)
theorem rgK_no {V : Mm} {i w : Int} (h : V 12 w 0 ≠ i) (c : Nat) (x y : Int) : rgK V i (w + 1) c x y = rgK V i w c x y := by
  unfold rgK
  by_cases hx : x = w
  · subst hx
    rw [if_neg (fun q => h q.2.2), if_neg (fun q => h q.2.2)]
  · by_cases hq : c = 12 ∧ (0 ≤ x ∧ x < w) ∧ V 12 x 0 = i
    · rw [if_pos ⟨hq.1, ⟨hq.2.1.1, by omega⟩, hq.2.2⟩, if_pos hq]
    · rw [if_neg hq, if_neg (fun q => hq ⟨q.1, ⟨q.2.1.1, by omega⟩, q.2.2⟩)]
theorem rgK_yes {V ρ : Mm} {i w z t : Int} (h0 : 0 ≤ w) (h : V 12 w 0 = i) (he : ∀ x y : Int, ρ 12 x y = rgK V i w 12 x y) (hz : z = isR V i w) (ht : t = V 7 i 10) (x y : Int) : noM ρ w z t 12 x y = rgK V i (w + 1) 12 x y := by
  subst hz ht
  by_cases hx : x = w
  · subst hx
    have e1 : noM ρ x (isR V i x) (V 7 i 10) 12 x y = (if y = 3 then isR V i x else if y = 4 then (if isR V i x = 1 ∧ ρ 12 x 3 = 0 then wr (ρ 12 x 4 + 1) else ρ 12 x 4) else if y = 5 then (if isR V i x = 1 ∧ ρ 12 x 3 = 0 then V 7 i 10 else ρ 12 x 5) else ρ 12 x y) := if_pos ⟨rfl, rfl⟩
    have e2 : rgK V i (x + 1) 12 x y = (if y = 3 then isR V i x else if y = 4 then (if isR V i x = 1 ∧ V 12 x 3 = 0 then wr (V 12 x 4 + 1) else V 12 x 4) else if y = 5 then (if isR V i x = 1 ∧ V 12 x 3 = 0 then V 7 i 10 else V 12 x 5) else V 12 x y) := if_pos ⟨rfl, ⟨h0, by omega⟩, h⟩
    rw [e1, e2, he x 3, he x 4, he x 5, he x y, rgK_up (by omega), rgK_up (by omega), rgK_up (by omega), rgK_up (by omega)]
  · rw [noM_ne (fun q => hx q.2.1), he]
    by_cases hq : (0 ≤ x ∧ x < w) ∧ V 12 x 0 = i
    · exact (if_pos ⟨rfl, hq⟩ : rgK V i w 12 x y = _).trans (if_pos ⟨rfl, ⟨hq.1.1, by omega⟩, hq.2⟩ : rgK V i (w + 1) 12 x y = _).symm
    · exact (if_neg (fun q => hq q.2) : rgK V i w 12 x y = _).trans (if_neg (fun q => hq ⟨⟨q.2.1.1, by omega⟩, q.2.2⟩) : rgK V i (w + 1) 12 x y = _).symm
theorem rgM_id {V : Mm} {i : Int} (h : ∀ w : Int, 0 ≤ w → w < 8 → V 12 w 0 ≠ i) : rgM V i = V := by
  funext c w y
  unfold rgM
  exact if_neg (fun q => h w q.2.1.1 q.2.1.2 q.2.2)
theorem isR_c {V W : Mm} {i w : Int} (h16 : W 16 0 = V 16 0) (h15 : W 15 0 = V 15 0) (h7 : W 7 i 2 = V 7 i 2) (h9 : W 9 i = V 9 i) (h6 : W 7 i 6 = V 7 i 6) (h12 : ∀ y : Int, W 12 w y = V 12 w y) : isR W i w = isR V i w := by
  unfold isR nmV
  rw [h16, h15, h7, h9, h6, h12 1, h12 2]
theorem rgM_c {V W : Mm} {i x y : Int} {c : Nat} (h16 : W 16 0 = V 16 0) (h15 : W 15 0 = V 15 0) (h7 : W 7 i 2 = V 7 i 2) (h9 : W 9 i = V 9 i) (h6 : W 7 i 6 = V 7 i 6) (h10 : W 7 i 10 = V 7 i 10) (h12 : ∀ w y : Int, W 12 w y = V 12 w y) (hc : W c x y = V c x y) : rgM W i c x y = rgM V i c x y := by
  unfold rgM
  rw [isR_c h16 h15 h7 h9 h6 (h12 x), h12 x 0, h12 x 3, h12 x 4, h12 x 5, h12 x y, h10, hc]
theorem ntM_eq {V : Mm} : ntM V = mu (mu (mu (mu V 7 0 15 (max (V 7 0 15) (V 7 0 6))) 7 1 15 (max (V 7 1 15) (V 7 1 6))) 7 2 15 (max (V 7 2 15) (V 7 2 6))) 7 3 15 (max (V 7 3 15) (V 7 3 6)) := by
  funext c x y
  unfold ntM mu
  by_cases h : c = 7 ∧ (0 ≤ x ∧ x ≤ 3) ∧ y = 15
  · obtain ⟨rfl, hx, rfl⟩ := h
    rw [if_pos ⟨rfl, hx, rfl⟩]
    rcases (by omega : x = 0 ∨ x = 1 ∨ x = 2 ∨ x = 3) with rfl | rfl | rfl | rfl
    · rw [if_neg (by omega), if_neg (by omega), if_neg (by omega), if_pos ⟨rfl, rfl, rfl⟩]
    · rw [if_neg (by omega), if_neg (by omega), if_pos ⟨rfl, rfl, rfl⟩]
    · rw [if_neg (by omega), if_pos ⟨rfl, rfl, rfl⟩]
    · rw [if_pos ⟨rfl, rfl, rfl⟩]
  · rw [if_neg h, if_neg (by omega), if_neg (by omega), if_neg (by omega), if_neg (by omega)]
-- a LANE's own places: what a call on another LANE leaves
def own (c : Nat) (y : Int) : Prop := ¬ (c = 12 ∧ 3 ≤ y ∧ y ≤ 5)
theorem enM_ne {V : Mm} {i t v x y : Int} {c : Nat} (h : x ≠ i) (ho : own c y) : enM V i t v c x y = V c x y := by
  unfold enM
  rw [rgM_ne ho]
  split
  · rw [adM_ne (fun q => h q.2), insM_ne (fun q => h q.1)]
  · rw [lyM_ne (fun q => h q.2), insM_ne (fun q => h q.1)]
theorem drps_ne {i x y : Int} {c : Nat} (h : x ≠ i) (ho : own c y) : ∀ (n : Nat) (V : Mm), drps i n V c x y = V c x y
  | 0, _ => rfl
  | n + 1, V => by
    show (if goV V i then drps i n (dpM V i) else V) c x y = V c x y
    split
    · rw [drps_ne h ho n, dpM_ne ⟨ho, fun q => h q.2, fun q => h q.1⟩]
    · rfl
theorem plM_ne {V : Mm} {i t v x y : Int} {c : Nat} (h : x ≠ i) (ho : own c y) : plM V i t v c x y = V c x y := by
  unfold plM
  rw [drps_ne h ho, enM_ne h ho]
theorem gvM_ne {V : Mm} {i t x y : Int} {c : Nat} (h : x ≠ V 13 i 0) (ho : own c y) (h13 : ¬ (c = 13 ∧ x = i ∧ y = 3)) : gvM V i t c x y = V c x y := by
  unfold gvM
  split
  · rw [plM_ne h ho, mu_ne h13]
  · rfl
theorem LI.to {V W : Mm} {i : Int} (h : LI V i) (h0 : W 7 i 0 = V 7 i 0) (h6 : W 7 i 6 = V 7 i 6) (h11 : ∀ y : Int, W 11 i y = V 11 i y) : LI W i := by
  unfold LI
  rw [h0, h6, show W 11 i = V 11 i from funext h11]
  exact h
theorem LI.en {V : Mm} {i t v : Int} (h : LI V i) : LI (enM V i t v) i := by
  refine LI.rg ?_
  split
  · refine ⟨?_, ?_, ?_⟩
    · rw [adM_ne (by omega), insM_ne (by omega)]; exact h.1
    · rw [adM_ne (by omega), insM_6, show adM (insM V i (hU V i t) t v) i 11 i = adR (V 11 i) from funext fun y => by
        unfold adM
        rw [su_at, show (insM V i (hU V i t) t v) 11 i = V 11 i from funext fun z => insM_ne (by omega)]]
      exact FI_ad h.2.1
    · rw [adM_ne (by omega), insM_6]; have := h.2.2; omega
  · refine ⟨?_, ?_, ?_⟩
    · rw [lyM_ne (by omega), insM_ne (by omega)]; exact h.1
    · rw [lyM_ne (by omega), insM_6, show lyM (insM V i (hU V i t) t v) i (V 7 i 6 + 1) 11 i = lyR (V 7 i 6 + 1) (V 11 i) from funext fun y => by
        unfold lyM
        rw [su_at, show (insM V i (hU V i t) t v) 11 i = V 11 i from funext fun z => insM_ne (by omega)]]
      exact FI_ly (by have := h.2.2; omega)
    · rw [lyM_ne (by omega), insM_6]; have := h.2.2; omega
theorem LI_drps {i : Int} : ∀ (n : Nat) {V : Mm}, LI V i → V 7 i 3 = 1 ∧ 0 ≤ V 7 i 4 ∨ V 7 i 3 ≠ 1 → LI (drps i n V) i
  | 0, _, h, _ => h
  | n + 1, V, h, hz => by
    show LI (if goV V i then drps i n (dpM V i) else V) i
    split
    · rename_i hg
      refine LI_drps n (h.dp ?_) ?_
      · rcases hg with q | q
        · omega
        · omega
      · rw [dpM_ne (by omega), dpM_ne (by omega)]; exact hz
    · exact h
theorem LI.pl {V : Mm} {i t v : Int} (h : LI V i) (hz : V 7 i 3 = 1 ∧ 0 ≤ V 7 i 4 ∨ V 7 i 3 ≠ 1) : LI (plM V i t v) i := by
  refine LI_drps _ h.en ?_
  have e : ∀ y : Int, y = 3 ∨ y = 4 → enM V i t v 7 i y = V 7 i y := fun y hy => by
    unfold enM
    rw [rgM_ne (by omega)]
    split
    · rw [adM_ne (by omega), insM_ne (by omega)]
    · rw [lyM_ne (by omega), insM_ne (by omega)]
  rw [e 3 (Or.inl rfl), e 4 (Or.inr rfl)]
  exact hz
-- B: the class's movers
theorem x_endMove {eb ec : Bool} {d : Nat} {P : Option Vl → Mm → Prop} {σ : Mm} {i c f m b l q s o : Int} (b_i : 0 ≤ i ∧ i ≤ 7) (b_c : 0 ≤ c ∧ c ≤ 1) (b_f : -1 ≤ f ∧ f ≤ 121) (qg0 : σ 11 i 0 = f) (b_m : 0 ≤ m ∧ m ≤ 121) (qg1 : σ 11 i 1 = m) (b_b : 0 ≤ b ∧ b ≤ 122) (qg2 : σ 11 i 2 = b) (b_l : 0 ≤ l ∧ l ≤ 242) (qg3 : σ 11 i 3 = l) (qg4 : σ 11 i 4 = q) (qg5 : σ 11 i 5 = s) (qg6 : σ 11 i 6 = o)  (k : ∀ ρ : Mm, Gx (fun c x y => c = 11 ∧ x = i ∧ 0 ≤ y ∧ y ≤ 6) σ ρ → ρ 11 i 0 = (if (if m = 0 ∧ b > f then b + f else l) - min 3 (if m = 0 ∧ b > f then b + f else l) = 0 then f + (if m = 0 ∧ b > f then b else m) else f) → ρ 11 i 1 = (if (if m = 0 ∧ b > f then b + f else l) - min 3 (if m = 0 ∧ b > f then b + f else l) = 0 then 0 else (if m = 0 ∧ b > f then b else m)) → ρ 11 i 2 = (if m = 0 ∧ b > f then 0 else b) → ρ 11 i 3 = ((if m = 0 ∧ b > f then b + f else l) - min 3 (if m = 0 ∧ b > f then b + f else l)) → ρ 11 i 4 = (((if m = 0 ∧ b > f then c - 1 else c) + min 3 (if m = 0 ∧ b > f then b + f else l))) → ρ 11 i 5 = (wr (s + ((if m = 0 ∧ b > f then c - 1 else c) + min 3 (if m = 0 ∧ b > f then b + f else l)))) → ρ 11 i 6 = (max o ((if m = 0 ∧ b > f then c - 1 else c) + min 3 (if m = 0 ∧ b > f then b + f else l))) → P none ρ) : WT (true, eb, ec) (d + 2) 6 [vR 11 i, vI c] σ P := by
  refine WT_in fun K hK => ?_
  have hK : StpY (true, eb, ec) cX0_endMove RX0 (none) (WT (true, eb, ec) (d + 1)) P K := hK
  have hM := hK.1
  have hC := hK.1.1
  show K 0 [some (vR 11 i), some (vI c), none, none] [] σ
  refine r_iload_n hC dX0_endMove_0 rfl ?_
  refine r_istore_n hC dX0_endMove_1 rfl ?_
  refine r_aload_n hC dX0_endMove_2 rfl ?_
  refine z_getI (jz := 1) hM dX0_endMove_3 fl_RX0_15 rfl rfl rfl (fun v1 h_v1 o_v1 t_v1 => ?_)
  have e_v1 : m = v1 := ((t_v1 ((Or.inl (by simp [Tb])))).trans qg1).symm
  subst e_v1
  refine r_if_ne (tgt := 49) hC dX0_endMove_6 rfl (fun h2 => ?_) (fun h2 => ?_)
  · refine r_iconst hC dX0_endMove_49 rfl ?_
    refine r_aload_n hC dX0_endMove_50 rfl ?_
    refine z_getI (jz := 3) hM dX0_endMove_51 fl_RX0_21 rfl rfl rfl (fun v3 h_v3 o_v3 t_v3 => ?_)
    have e_v3 : l = v3 := ((t_v3 ((Or.inl (by simp [Tb])))).trans qg3).symm
    subst e_v3
    refine z_ins2 hM dX0_endMove_54 tl_RX0_43 rfl (Nat.le_of_ble_eq_true rfl) (Nat.le_of_ble_eq_true rfl) ?_
    refine x_min (fun v4 h_v4 => ?_)
    refine r_istore_n hC dX0_endMove_57 rfl ?_
    refine r_aload_n hC dX0_endMove_58 rfl ?_
    refine r_dup hC dX0_endMove_59 rfl ?_
    refine z_getI (jz := 3) hM dX0_endMove_60 fl_RX0_21 rfl rfl rfl (fun v5 h_v5 o_v5 t_v5 => ?_)
    have e_v5 : l = v5 := ((t_v5 ((Or.inl (by simp [Tb])))).trans qg3).symm
    subst e_v5
    refine r_iload_n hC dX0_endMove_63 rfl ?_
    refine r_isubE hC ((l - v4)) dX0_endMove_64 (by omega) (by unfold inR; omega) ?_
    refine z_putIG (jz := 3) hM dX0_endMove_65 fw_RX0_21 rfl rfl rfl ⟨Or.inr (by simp [DL]), Or.inr (by simp [DF])⟩ (by first | trivial | (simp only [Okv]; omega) | (simp [Okv]; try omega)) (fun ρ6 a_ρ6 q_ρ6 => ?_)
    refine r_iload_n hC dX0_endMove_68 rfl ?_
    refine r_iload_n hC dX0_endMove_69 rfl ?_
    refine r_iaddE hC ((c + v4)) dX0_endMove_70 (by omega) (by unfold inR; omega) ?_
    refine r_istore_n hC dX0_endMove_71 rfl ?_
    refine r_aload_n hC dX0_endMove_72 rfl ?_
    refine z_getI (jz := 3) hM dX0_endMove_73 fl_RX0_21 rfl rfl rfl (fun v7 h_v7 o_v7 t_v7 => ?_)
    have e_v7 : (l - v4) = v7 := ((t_v7 ((Or.inl (by simp [Tb])))).trans q_ρ6).symm
    subst e_v7
    refine r_if_ne (tgt := 97) hC dX0_endMove_76 rfl (fun h8 => ?_) (fun h8 => ?_)
    · refine r_aload_n hC dX0_endMove_97 rfl ?_
      refine r_iload_n hC dX0_endMove_98 rfl ?_
      refine z_putIG (jz := 4) hM dX0_endMove_99 fw_RX0_24 rfl rfl rfl ⟨Or.inr (by simp [DL]), Or.inr (by simp [DF])⟩ (by first | trivial | (simp only [Okv]; omega) | (simp [Okv]; try omega)) (fun ρ9 a_ρ9 q_ρ9 => ?_)
      refine r_aload_n hC dX0_endMove_102 rfl ?_
      refine r_dup hC dX0_endMove_103 rfl ?_
      refine z_getI (jz := 5) hM dX0_endMove_104 fl_RX0_27 rfl rfl rfl (fun v10 h_v10 o_v10 t_v10 => ?_)
      have e_v10 : s = v10 := ((t_v10 ((Or.inl (by simp [Tb])))).trans ((a_ρ9 _ _ _ (by omega)).trans ((a_ρ6 _ _ _ (by omega)).trans qg5))).symm
      subst e_v10
      refine r_iload_n hC dX0_endMove_107 rfl ?_
      refine r_iadd hC dX0_endMove_108 ?_
      have f11 := inR_le (inR_wr (s + (c + v4)))
      refine z_putIG (jz := 5) hM dX0_endMove_109 fw_RX0_27 rfl rfl rfl ⟨Or.inr (by simp [DL]), Or.inr (by simp [DF])⟩ (by first | trivial | (simp only [Okv]; omega) | (simp [Okv]; try omega)) (fun ρ12 a_ρ12 q_ρ12 => ?_)
      refine r_aload_n hC dX0_endMove_112 rfl ?_
      refine r_aload_n hC dX0_endMove_113 rfl ?_
      refine z_getI (jz := 6) hM dX0_endMove_114 fl_RX0_30 rfl rfl rfl (fun v13 h_v13 o_v13 t_v13 => ?_)
      have e_v13 : o = v13 := ((t_v13 ((Or.inl (by simp [Tb])))).trans ((a_ρ12 _ _ _ (by omega)).trans ((a_ρ9 _ _ _ (by omega)).trans ((a_ρ6 _ _ _ (by omega)).trans qg6)))).symm
      subst e_v13
      refine r_iload_n hC dX0_endMove_117 rfl ?_
      refine z_ins2 hM dX0_endMove_118 tl_RX0_37 rfl (Nat.le_of_ble_eq_true rfl) (Nat.le_of_ble_eq_true rfl) ?_
      refine x_max (fun v14 h_v14 => ?_)
      refine z_putIG (jz := 6) hM dX0_endMove_121 fw_RX0_30 rfl rfl rfl ⟨Or.inr (by simp [DL]), Or.inr (by simp [DF])⟩ (by first | trivial | (simp only [Okv]; omega) | (simp [Okv]; try omega)) (fun ρ15 a_ρ15 q_ρ15 => ?_)
      refine y_vret hK rfl dX0_endMove_124 ?_
      exact k _ (((((Gx.rf).al a_ρ6 (by first | (simp; done) | omega | (simp; omega))).al a_ρ9 (by first | (simp; done) | omega | (simp; omega))).al a_ρ12 (by first | (simp; done) | omega | (simp; omega))).al a_ρ15 (by first | (simp; done) | omega | (simp; omega))) (by have hq := ((a_ρ15 _ _ _ (by omega)).trans ((a_ρ12 _ _ _ (by omega)).trans ((a_ρ9 _ _ _ (by omega)).trans ((a_ρ6 _ _ _ (by omega)).trans qg0)))); refine hq.trans ?_; (repeat' split) <;> omega) (by have hq := ((a_ρ15 _ _ _ (by omega)).trans ((a_ρ12 _ _ _ (by omega)).trans ((a_ρ9 _ _ _ (by omega)).trans ((a_ρ6 _ _ _ (by omega)).trans qg1)))); refine hq.trans ?_; (repeat' split) <;> omega) (by have hq := ((a_ρ15 _ _ _ (by omega)).trans ((a_ρ12 _ _ _ (by omega)).trans ((a_ρ9 _ _ _ (by omega)).trans ((a_ρ6 _ _ _ (by omega)).trans qg2)))); refine hq.trans ?_; (repeat' split) <;> omega) (by have hq := ((a_ρ15 _ _ _ (by omega)).trans ((a_ρ12 _ _ _ (by omega)).trans ((a_ρ9 _ _ _ (by omega)).trans q_ρ6))); refine hq.trans ?_; (repeat' split) <;> omega) (by have hq := ((a_ρ15 _ _ _ (by omega)).trans ((a_ρ12 _ _ _ (by omega)).trans q_ρ9)); refine hq.trans ?_; (repeat' split) <;> omega) (by have hq := ((a_ρ15 _ _ _ (by omega)).trans q_ρ12); refine hq.trans (congrArg wr ?_); (repeat' split) <;> omega) (by have hq := q_ρ15; refine hq.trans ?_; (repeat' split) <;> omega)
    · refine r_aload_n hC dX0_endMove_79 rfl ?_
      refine r_dup hC dX0_endMove_80 rfl ?_
      refine z_getI (jz := 0) hM dX0_endMove_81 fl_RX0_9 rfl rfl rfl (fun v16 h_v16 o_v16 t_v16 => ?_)
      have e_v16 : f = v16 := ((t_v16 ((Or.inl (by simp [Tb])))).trans ((a_ρ6 _ _ _ (by omega)).trans qg0)).symm
      subst e_v16
      refine r_aload_n hC dX0_endMove_84 rfl ?_
      refine z_getI (jz := 1) hM dX0_endMove_85 fl_RX0_15 rfl rfl rfl (fun v17 h_v17 o_v17 t_v17 => ?_)
      have e_v17 : m = v17 := ((t_v17 ((Or.inl (by simp [Tb])))).trans ((a_ρ6 _ _ _ (by omega)).trans qg1)).symm
      subst e_v17
      refine r_iaddE hC ((f + m)) dX0_endMove_88 (by omega) (by unfold inR; omega) ?_
      refine z_putIG (jz := 0) hM dX0_endMove_89 fw_RX0_9 rfl rfl rfl ⟨Or.inr (by simp [DL]), Or.inr (by simp [DF])⟩ (by first | trivial | (simp only [Okv]; omega) | (simp [Okv]; try omega)) (fun ρ18 a_ρ18 q_ρ18 => ?_)
      refine r_aload_n hC dX0_endMove_92 rfl ?_
      refine r_iconst hC dX0_endMove_93 rfl ?_
      refine z_putIG (jz := 1) hM dX0_endMove_94 fw_RX0_15 rfl rfl rfl ⟨Or.inr (by simp [DL]), Or.inr (by simp [DF])⟩ (by first | trivial | (simp only [Okv]; omega) | (simp [Okv]; try omega)) (fun ρ19 a_ρ19 q_ρ19 => ?_)
      refine r_aload_n hC dX0_endMove_97 rfl ?_
      refine r_iload_n hC dX0_endMove_98 rfl ?_
      refine z_putIG (jz := 4) hM dX0_endMove_99 fw_RX0_24 rfl rfl rfl ⟨Or.inr (by simp [DL]), Or.inr (by simp [DF])⟩ (by first | trivial | (simp only [Okv]; omega) | (simp [Okv]; try omega)) (fun ρ20 a_ρ20 q_ρ20 => ?_)
      refine r_aload_n hC dX0_endMove_102 rfl ?_
      refine r_dup hC dX0_endMove_103 rfl ?_
      refine z_getI (jz := 5) hM dX0_endMove_104 fl_RX0_27 rfl rfl rfl (fun v21 h_v21 o_v21 t_v21 => ?_)
      have e_v21 : s = v21 := ((t_v21 ((Or.inl (by simp [Tb])))).trans ((a_ρ20 _ _ _ (by omega)).trans ((a_ρ19 _ _ _ (by omega)).trans ((a_ρ18 _ _ _ (by omega)).trans ((a_ρ6 _ _ _ (by omega)).trans qg5))))).symm
      subst e_v21
      refine r_iload_n hC dX0_endMove_107 rfl ?_
      refine r_iadd hC dX0_endMove_108 ?_
      have f22 := inR_le (inR_wr (s + (c + v4)))
      refine z_putIG (jz := 5) hM dX0_endMove_109 fw_RX0_27 rfl rfl rfl ⟨Or.inr (by simp [DL]), Or.inr (by simp [DF])⟩ (by first | trivial | (simp only [Okv]; omega) | (simp [Okv]; try omega)) (fun ρ23 a_ρ23 q_ρ23 => ?_)
      refine r_aload_n hC dX0_endMove_112 rfl ?_
      refine r_aload_n hC dX0_endMove_113 rfl ?_
      refine z_getI (jz := 6) hM dX0_endMove_114 fl_RX0_30 rfl rfl rfl (fun v24 h_v24 o_v24 t_v24 => ?_)
      have e_v24 : o = v24 := ((t_v24 ((Or.inl (by simp [Tb])))).trans ((a_ρ23 _ _ _ (by omega)).trans ((a_ρ20 _ _ _ (by omega)).trans ((a_ρ19 _ _ _ (by omega)).trans ((a_ρ18 _ _ _ (by omega)).trans ((a_ρ6 _ _ _ (by omega)).trans qg6)))))).symm
      subst e_v24
      refine r_iload_n hC dX0_endMove_117 rfl ?_
      refine z_ins2 hM dX0_endMove_118 tl_RX0_37 rfl (Nat.le_of_ble_eq_true rfl) (Nat.le_of_ble_eq_true rfl) ?_
      refine x_max (fun v25 h_v25 => ?_)
      refine z_putIG (jz := 6) hM dX0_endMove_121 fw_RX0_30 rfl rfl rfl ⟨Or.inr (by simp [DL]), Or.inr (by simp [DF])⟩ (by first | trivial | (simp only [Okv]; omega) | (simp [Okv]; try omega)) (fun ρ26 a_ρ26 q_ρ26 => ?_)
      refine y_vret hK rfl dX0_endMove_124 ?_
      exact k _ (((((((Gx.rf).al a_ρ6 (by first | (simp; done) | omega | (simp; omega))).al a_ρ18 (by first | (simp; done) | omega | (simp; omega))).al a_ρ19 (by first | (simp; done) | omega | (simp; omega))).al a_ρ20 (by first | (simp; done) | omega | (simp; omega))).al a_ρ23 (by first | (simp; done) | omega | (simp; omega))).al a_ρ26 (by first | (simp; done) | omega | (simp; omega))) (by have hq := ((a_ρ26 _ _ _ (by omega)).trans ((a_ρ23 _ _ _ (by omega)).trans ((a_ρ20 _ _ _ (by omega)).trans ((a_ρ19 _ _ _ (by omega)).trans q_ρ18)))); refine hq.trans ?_; (repeat' split) <;> omega) (by have hq := ((a_ρ26 _ _ _ (by omega)).trans ((a_ρ23 _ _ _ (by omega)).trans ((a_ρ20 _ _ _ (by omega)).trans q_ρ19))); refine hq.trans ?_; (repeat' split) <;> omega) (by have hq := ((a_ρ26 _ _ _ (by omega)).trans ((a_ρ23 _ _ _ (by omega)).trans ((a_ρ20 _ _ _ (by omega)).trans ((a_ρ19 _ _ _ (by omega)).trans ((a_ρ18 _ _ _ (by omega)).trans ((a_ρ6 _ _ _ (by omega)).trans qg2)))))); refine hq.trans ?_; (repeat' split) <;> omega) (by have hq := ((a_ρ26 _ _ _ (by omega)).trans ((a_ρ23 _ _ _ (by omega)).trans ((a_ρ20 _ _ _ (by omega)).trans ((a_ρ19 _ _ _ (by omega)).trans ((a_ρ18 _ _ _ (by omega)).trans q_ρ6))))); refine hq.trans ?_; (repeat' split) <;> omega) (by have hq := ((a_ρ26 _ _ _ (by omega)).trans ((a_ρ23 _ _ _ (by omega)).trans q_ρ20)); refine hq.trans ?_; (repeat' split) <;> omega) (by have hq := ((a_ρ26 _ _ _ (by omega)).trans q_ρ23); refine hq.trans (congrArg wr ?_); (repeat' split) <;> omega) (by have hq := q_ρ26; refine hq.trans ?_; (repeat' split) <;> omega)
  · refine r_aload_n hC dX0_endMove_9 rfl ?_
    refine z_getI (jz := 2) hM dX0_endMove_10 fl_RX0_18 rfl rfl rfl (fun v27 h_v27 o_v27 t_v27 => ?_)
    have e_v27 : b = v27 := ((t_v27 ((Or.inl (by simp [Tb])))).trans qg2).symm
    subst e_v27
    refine r_aload_n hC dX0_endMove_13 rfl ?_
    refine z_getI (jz := 0) hM dX0_endMove_14 fl_RX0_9 rfl rfl rfl (fun v28 h_v28 o_v28 t_v28 => ?_)
    have e_v28 : f = v28 := ((t_v28 ((Or.inl (by simp [Tb])))).trans qg0).symm
    subst e_v28
    refine r_icmp_le (tgt := 49) hC dX0_endMove_17 rfl (fun h29 => ?_) (fun h29 => ?_)
    · refine r_iconst hC dX0_endMove_49 rfl ?_
      refine r_aload_n hC dX0_endMove_50 rfl ?_
      refine z_getI (jz := 3) hM dX0_endMove_51 fl_RX0_21 rfl rfl rfl (fun v30 h_v30 o_v30 t_v30 => ?_)
      have e_v30 : l = v30 := ((t_v30 ((Or.inl (by simp [Tb])))).trans qg3).symm
      subst e_v30
      refine z_ins2 hM dX0_endMove_54 tl_RX0_43 rfl (Nat.le_of_ble_eq_true rfl) (Nat.le_of_ble_eq_true rfl) ?_
      refine x_min (fun v31 h_v31 => ?_)
      refine r_istore_n hC dX0_endMove_57 rfl ?_
      refine r_aload_n hC dX0_endMove_58 rfl ?_
      refine r_dup hC dX0_endMove_59 rfl ?_
      refine z_getI (jz := 3) hM dX0_endMove_60 fl_RX0_21 rfl rfl rfl (fun v32 h_v32 o_v32 t_v32 => ?_)
      have e_v32 : l = v32 := ((t_v32 ((Or.inl (by simp [Tb])))).trans qg3).symm
      subst e_v32
      refine r_iload_n hC dX0_endMove_63 rfl ?_
      refine r_isubE hC ((l - v31)) dX0_endMove_64 (by omega) (by unfold inR; omega) ?_
      refine z_putIG (jz := 3) hM dX0_endMove_65 fw_RX0_21 rfl rfl rfl ⟨Or.inr (by simp [DL]), Or.inr (by simp [DF])⟩ (by first | trivial | (simp only [Okv]; omega) | (simp [Okv]; try omega)) (fun ρ33 a_ρ33 q_ρ33 => ?_)
      refine r_iload_n hC dX0_endMove_68 rfl ?_
      refine r_iload_n hC dX0_endMove_69 rfl ?_
      refine r_iaddE hC ((c + v31)) dX0_endMove_70 (by omega) (by unfold inR; omega) ?_
      refine r_istore_n hC dX0_endMove_71 rfl ?_
      refine r_aload_n hC dX0_endMove_72 rfl ?_
      refine z_getI (jz := 3) hM dX0_endMove_73 fl_RX0_21 rfl rfl rfl (fun v34 h_v34 o_v34 t_v34 => ?_)
      have e_v34 : (l - v31) = v34 := ((t_v34 ((Or.inl (by simp [Tb])))).trans q_ρ33).symm
      subst e_v34
      refine r_if_ne (tgt := 97) hC dX0_endMove_76 rfl (fun h35 => ?_) (fun h35 => ?_)
      · refine r_aload_n hC dX0_endMove_97 rfl ?_
        refine r_iload_n hC dX0_endMove_98 rfl ?_
        refine z_putIG (jz := 4) hM dX0_endMove_99 fw_RX0_24 rfl rfl rfl ⟨Or.inr (by simp [DL]), Or.inr (by simp [DF])⟩ (by first | trivial | (simp only [Okv]; omega) | (simp [Okv]; try omega)) (fun ρ36 a_ρ36 q_ρ36 => ?_)
        refine r_aload_n hC dX0_endMove_102 rfl ?_
        refine r_dup hC dX0_endMove_103 rfl ?_
        refine z_getI (jz := 5) hM dX0_endMove_104 fl_RX0_27 rfl rfl rfl (fun v37 h_v37 o_v37 t_v37 => ?_)
        have e_v37 : s = v37 := ((t_v37 ((Or.inl (by simp [Tb])))).trans ((a_ρ36 _ _ _ (by omega)).trans ((a_ρ33 _ _ _ (by omega)).trans qg5))).symm
        subst e_v37
        refine r_iload_n hC dX0_endMove_107 rfl ?_
        refine r_iadd hC dX0_endMove_108 ?_
        have f38 := inR_le (inR_wr (s + (c + v31)))
        refine z_putIG (jz := 5) hM dX0_endMove_109 fw_RX0_27 rfl rfl rfl ⟨Or.inr (by simp [DL]), Or.inr (by simp [DF])⟩ (by first | trivial | (simp only [Okv]; omega) | (simp [Okv]; try omega)) (fun ρ39 a_ρ39 q_ρ39 => ?_)
        refine r_aload_n hC dX0_endMove_112 rfl ?_
        refine r_aload_n hC dX0_endMove_113 rfl ?_
        refine z_getI (jz := 6) hM dX0_endMove_114 fl_RX0_30 rfl rfl rfl (fun v40 h_v40 o_v40 t_v40 => ?_)
        have e_v40 : o = v40 := ((t_v40 ((Or.inl (by simp [Tb])))).trans ((a_ρ39 _ _ _ (by omega)).trans ((a_ρ36 _ _ _ (by omega)).trans ((a_ρ33 _ _ _ (by omega)).trans qg6)))).symm
        subst e_v40
        refine r_iload_n hC dX0_endMove_117 rfl ?_
        refine z_ins2 hM dX0_endMove_118 tl_RX0_37 rfl (Nat.le_of_ble_eq_true rfl) (Nat.le_of_ble_eq_true rfl) ?_
        refine x_max (fun v41 h_v41 => ?_)
        refine z_putIG (jz := 6) hM dX0_endMove_121 fw_RX0_30 rfl rfl rfl ⟨Or.inr (by simp [DL]), Or.inr (by simp [DF])⟩ (by first | trivial | (simp only [Okv]; omega) | (simp [Okv]; try omega)) (fun ρ42 a_ρ42 q_ρ42 => ?_)
        refine y_vret hK rfl dX0_endMove_124 ?_
        exact k _ (((((Gx.rf).al a_ρ33 (by first | (simp; done) | omega | (simp; omega))).al a_ρ36 (by first | (simp; done) | omega | (simp; omega))).al a_ρ39 (by first | (simp; done) | omega | (simp; omega))).al a_ρ42 (by first | (simp; done) | omega | (simp; omega))) (by have hq := ((a_ρ42 _ _ _ (by omega)).trans ((a_ρ39 _ _ _ (by omega)).trans ((a_ρ36 _ _ _ (by omega)).trans ((a_ρ33 _ _ _ (by omega)).trans qg0)))); refine hq.trans ?_; (repeat' split) <;> omega) (by have hq := ((a_ρ42 _ _ _ (by omega)).trans ((a_ρ39 _ _ _ (by omega)).trans ((a_ρ36 _ _ _ (by omega)).trans ((a_ρ33 _ _ _ (by omega)).trans qg1)))); refine hq.trans ?_; (repeat' split) <;> omega) (by have hq := ((a_ρ42 _ _ _ (by omega)).trans ((a_ρ39 _ _ _ (by omega)).trans ((a_ρ36 _ _ _ (by omega)).trans ((a_ρ33 _ _ _ (by omega)).trans qg2)))); refine hq.trans ?_; (repeat' split) <;> omega) (by have hq := ((a_ρ42 _ _ _ (by omega)).trans ((a_ρ39 _ _ _ (by omega)).trans ((a_ρ36 _ _ _ (by omega)).trans q_ρ33))); refine hq.trans ?_; (repeat' split) <;> omega) (by have hq := ((a_ρ42 _ _ _ (by omega)).trans ((a_ρ39 _ _ _ (by omega)).trans q_ρ36)); refine hq.trans ?_; (repeat' split) <;> omega) (by have hq := ((a_ρ42 _ _ _ (by omega)).trans q_ρ39); refine hq.trans (congrArg wr ?_); (repeat' split) <;> omega) (by have hq := q_ρ42; refine hq.trans ?_; (repeat' split) <;> omega)
      · refine r_aload_n hC dX0_endMove_79 rfl ?_
        refine r_dup hC dX0_endMove_80 rfl ?_
        refine z_getI (jz := 0) hM dX0_endMove_81 fl_RX0_9 rfl rfl rfl (fun v43 h_v43 o_v43 t_v43 => ?_)
        have e_v43 : f = v43 := ((t_v43 ((Or.inl (by simp [Tb])))).trans ((a_ρ33 _ _ _ (by omega)).trans qg0)).symm
        subst e_v43
        refine r_aload_n hC dX0_endMove_84 rfl ?_
        refine z_getI (jz := 1) hM dX0_endMove_85 fl_RX0_15 rfl rfl rfl (fun v44 h_v44 o_v44 t_v44 => ?_)
        have e_v44 : m = v44 := ((t_v44 ((Or.inl (by simp [Tb])))).trans ((a_ρ33 _ _ _ (by omega)).trans qg1)).symm
        subst e_v44
        refine r_iaddE hC ((f + m)) dX0_endMove_88 (by omega) (by unfold inR; omega) ?_
        refine z_putIG (jz := 0) hM dX0_endMove_89 fw_RX0_9 rfl rfl rfl ⟨Or.inr (by simp [DL]), Or.inr (by simp [DF])⟩ (by first | trivial | (simp only [Okv]; omega) | (simp [Okv]; try omega)) (fun ρ45 a_ρ45 q_ρ45 => ?_)
        refine r_aload_n hC dX0_endMove_92 rfl ?_
        refine r_iconst hC dX0_endMove_93 rfl ?_
        refine z_putIG (jz := 1) hM dX0_endMove_94 fw_RX0_15 rfl rfl rfl ⟨Or.inr (by simp [DL]), Or.inr (by simp [DF])⟩ (by first | trivial | (simp only [Okv]; omega) | (simp [Okv]; try omega)) (fun ρ46 a_ρ46 q_ρ46 => ?_)
        refine r_aload_n hC dX0_endMove_97 rfl ?_
        refine r_iload_n hC dX0_endMove_98 rfl ?_
        refine z_putIG (jz := 4) hM dX0_endMove_99 fw_RX0_24 rfl rfl rfl ⟨Or.inr (by simp [DL]), Or.inr (by simp [DF])⟩ (by first | trivial | (simp only [Okv]; omega) | (simp [Okv]; try omega)) (fun ρ47 a_ρ47 q_ρ47 => ?_)
        refine r_aload_n hC dX0_endMove_102 rfl ?_
        refine r_dup hC dX0_endMove_103 rfl ?_
        refine z_getI (jz := 5) hM dX0_endMove_104 fl_RX0_27 rfl rfl rfl (fun v48 h_v48 o_v48 t_v48 => ?_)
        have e_v48 : s = v48 := ((t_v48 ((Or.inl (by simp [Tb])))).trans ((a_ρ47 _ _ _ (by omega)).trans ((a_ρ46 _ _ _ (by omega)).trans ((a_ρ45 _ _ _ (by omega)).trans ((a_ρ33 _ _ _ (by omega)).trans qg5))))).symm
        subst e_v48
        refine r_iload_n hC dX0_endMove_107 rfl ?_
        refine r_iadd hC dX0_endMove_108 ?_
        have f49 := inR_le (inR_wr (s + (c + v31)))
        refine z_putIG (jz := 5) hM dX0_endMove_109 fw_RX0_27 rfl rfl rfl ⟨Or.inr (by simp [DL]), Or.inr (by simp [DF])⟩ (by first | trivial | (simp only [Okv]; omega) | (simp [Okv]; try omega)) (fun ρ50 a_ρ50 q_ρ50 => ?_)
        refine r_aload_n hC dX0_endMove_112 rfl ?_
        refine r_aload_n hC dX0_endMove_113 rfl ?_
        refine z_getI (jz := 6) hM dX0_endMove_114 fl_RX0_30 rfl rfl rfl (fun v51 h_v51 o_v51 t_v51 => ?_)
        have e_v51 : o = v51 := ((t_v51 ((Or.inl (by simp [Tb])))).trans ((a_ρ50 _ _ _ (by omega)).trans ((a_ρ47 _ _ _ (by omega)).trans ((a_ρ46 _ _ _ (by omega)).trans ((a_ρ45 _ _ _ (by omega)).trans ((a_ρ33 _ _ _ (by omega)).trans qg6)))))).symm
        subst e_v51
        refine r_iload_n hC dX0_endMove_117 rfl ?_
        refine z_ins2 hM dX0_endMove_118 tl_RX0_37 rfl (Nat.le_of_ble_eq_true rfl) (Nat.le_of_ble_eq_true rfl) ?_
        refine x_max (fun v52 h_v52 => ?_)
        refine z_putIG (jz := 6) hM dX0_endMove_121 fw_RX0_30 rfl rfl rfl ⟨Or.inr (by simp [DL]), Or.inr (by simp [DF])⟩ (by first | trivial | (simp only [Okv]; omega) | (simp [Okv]; try omega)) (fun ρ53 a_ρ53 q_ρ53 => ?_)
        refine y_vret hK rfl dX0_endMove_124 ?_
        exact k _ (((((((Gx.rf).al a_ρ33 (by first | (simp; done) | omega | (simp; omega))).al a_ρ45 (by first | (simp; done) | omega | (simp; omega))).al a_ρ46 (by first | (simp; done) | omega | (simp; omega))).al a_ρ47 (by first | (simp; done) | omega | (simp; omega))).al a_ρ50 (by first | (simp; done) | omega | (simp; omega))).al a_ρ53 (by first | (simp; done) | omega | (simp; omega))) (by have hq := ((a_ρ53 _ _ _ (by omega)).trans ((a_ρ50 _ _ _ (by omega)).trans ((a_ρ47 _ _ _ (by omega)).trans ((a_ρ46 _ _ _ (by omega)).trans q_ρ45)))); refine hq.trans ?_; (repeat' split) <;> omega) (by have hq := ((a_ρ53 _ _ _ (by omega)).trans ((a_ρ50 _ _ _ (by omega)).trans ((a_ρ47 _ _ _ (by omega)).trans q_ρ46))); refine hq.trans ?_; (repeat' split) <;> omega) (by have hq := ((a_ρ53 _ _ _ (by omega)).trans ((a_ρ50 _ _ _ (by omega)).trans ((a_ρ47 _ _ _ (by omega)).trans ((a_ρ46 _ _ _ (by omega)).trans ((a_ρ45 _ _ _ (by omega)).trans ((a_ρ33 _ _ _ (by omega)).trans qg2)))))); refine hq.trans ?_; (repeat' split) <;> omega) (by have hq := ((a_ρ53 _ _ _ (by omega)).trans ((a_ρ50 _ _ _ (by omega)).trans ((a_ρ47 _ _ _ (by omega)).trans ((a_ρ46 _ _ _ (by omega)).trans ((a_ρ45 _ _ _ (by omega)).trans q_ρ33))))); refine hq.trans ?_; (repeat' split) <;> omega) (by have hq := ((a_ρ53 _ _ _ (by omega)).trans ((a_ρ50 _ _ _ (by omega)).trans q_ρ47)); refine hq.trans ?_; (repeat' split) <;> omega) (by have hq := ((a_ρ53 _ _ _ (by omega)).trans q_ρ50); refine hq.trans (congrArg wr ?_); (repeat' split) <;> omega) (by have hq := q_ρ53; refine hq.trans ?_; (repeat' split) <;> omega)
    · refine r_aload_n hC dX0_endMove_20 rfl ?_
      refine r_aload_n hC dX0_endMove_21 rfl ?_
      refine z_getI (jz := 2) hM dX0_endMove_22 fl_RX0_18 rfl rfl rfl (fun v54 h_v54 o_v54 t_v54 => ?_)
      have e_v54 : b = v54 := ((t_v54 ((Or.inl (by simp [Tb])))).trans qg2).symm
      subst e_v54
      refine z_putIG (jz := 1) hM dX0_endMove_25 fw_RX0_15 rfl rfl rfl ⟨Or.inr (by simp [DL]), Or.inr (by simp [DF])⟩ (by first | trivial | (simp only [Okv]; omega) | (simp [Okv]; try omega)) (fun ρ55 a_ρ55 q_ρ55 => ?_)
      refine r_aload_n hC dX0_endMove_28 rfl ?_
      refine r_iconst hC dX0_endMove_29 rfl ?_
      refine z_putIG (jz := 2) hM dX0_endMove_30 fw_RX0_18 rfl rfl rfl ⟨Or.inr (by simp [DL]), Or.inr (by simp [DF])⟩ (by first | trivial | (simp only [Okv]; omega) | (simp [Okv]; try omega)) (fun ρ56 a_ρ56 q_ρ56 => ?_)
      refine r_aload_n hC dX0_endMove_33 rfl ?_
      refine r_aload_n hC dX0_endMove_34 rfl ?_
      refine z_getI (jz := 1) hM dX0_endMove_35 fl_RX0_15 rfl rfl rfl (fun v57 h_v57 o_v57 t_v57 => ?_)
      have e_v57 : b = v57 := ((t_v57 ((Or.inl (by simp [Tb])))).trans ((a_ρ56 _ _ _ (by omega)).trans q_ρ55)).symm
      subst e_v57
      refine r_aload_n hC dX0_endMove_38 rfl ?_
      refine z_getI (jz := 0) hM dX0_endMove_39 fl_RX0_9 rfl rfl rfl (fun v58 h_v58 o_v58 t_v58 => ?_)
      have e_v58 : f = v58 := ((t_v58 ((Or.inl (by simp [Tb])))).trans ((a_ρ56 _ _ _ (by omega)).trans ((a_ρ55 _ _ _ (by omega)).trans qg0))).symm
      subst e_v58
      refine r_iaddE hC ((b + f)) dX0_endMove_42 (by omega) (by unfold inR; omega) ?_
      refine z_putIG (jz := 3) hM dX0_endMove_43 fw_RX0_21 rfl rfl rfl ⟨Or.inr (by simp [DL]), Or.inr (by simp [DF])⟩ (by first | trivial | (simp only [Okv]; omega) | (simp [Okv]; try omega)) (fun ρ59 a_ρ59 q_ρ59 => ?_)
      refine r_iincE hC ((c - 1)) dX0_endMove_46 rfl rfl (by omega) (by unfold inR; omega) ?_
      refine r_iconst hC dX0_endMove_49 rfl ?_
      refine r_aload_n hC dX0_endMove_50 rfl ?_
      refine z_getI (jz := 3) hM dX0_endMove_51 fl_RX0_21 rfl rfl rfl (fun v60 h_v60 o_v60 t_v60 => ?_)
      have e_v60 : (b + f) = v60 := ((t_v60 ((Or.inl (by simp [Tb])))).trans q_ρ59).symm
      subst e_v60
      refine z_ins2 hM dX0_endMove_54 tl_RX0_43 rfl (Nat.le_of_ble_eq_true rfl) (Nat.le_of_ble_eq_true rfl) ?_
      refine x_min (fun v61 h_v61 => ?_)
      refine r_istore_n hC dX0_endMove_57 rfl ?_
      refine r_aload_n hC dX0_endMove_58 rfl ?_
      refine r_dup hC dX0_endMove_59 rfl ?_
      refine z_getI (jz := 3) hM dX0_endMove_60 fl_RX0_21 rfl rfl rfl (fun v62 h_v62 o_v62 t_v62 => ?_)
      have e_v62 : (b + f) = v62 := ((t_v62 ((Or.inl (by simp [Tb])))).trans q_ρ59).symm
      subst e_v62
      refine r_iload_n hC dX0_endMove_63 rfl ?_
      refine r_isubE hC (((b + f) - v61)) dX0_endMove_64 (by omega) (by unfold inR; omega) ?_
      refine z_putIG (jz := 3) hM dX0_endMove_65 fw_RX0_21 rfl rfl rfl ⟨Or.inr (by simp [DL]), Or.inr (by simp [DF])⟩ (by first | trivial | (simp only [Okv]; omega) | (simp [Okv]; try omega)) (fun ρ63 a_ρ63 q_ρ63 => ?_)
      refine r_iload_n hC dX0_endMove_68 rfl ?_
      refine r_iload_n hC dX0_endMove_69 rfl ?_
      refine r_iaddE hC (((c - 1) + v61)) dX0_endMove_70 (by omega) (by unfold inR; omega) ?_
      refine r_istore_n hC dX0_endMove_71 rfl ?_
      show K _ [_, _, _, _] _ _
      refine r_aload_n hC dX0_endMove_72 rfl ?_
      refine z_getI (jz := 3) hM dX0_endMove_73 fl_RX0_21 rfl rfl rfl (fun v64 h_v64 o_v64 t_v64 => ?_)
      have e_v64 : ((b + f) - v61) = v64 := ((t_v64 ((Or.inl (by simp [Tb])))).trans q_ρ63).symm
      subst e_v64
      refine r_if_ne (tgt := 97) hC dX0_endMove_76 rfl (fun h65 => ?_) (fun h65 => ?_)
      · refine r_aload_n hC dX0_endMove_97 rfl ?_
        refine r_iload_n hC dX0_endMove_98 rfl ?_
        refine z_putIG (jz := 4) hM dX0_endMove_99 fw_RX0_24 rfl rfl rfl ⟨Or.inr (by simp [DL]), Or.inr (by simp [DF])⟩ (by first | trivial | (simp only [Okv]; omega) | (simp [Okv]; try omega)) (fun ρ66 a_ρ66 q_ρ66 => ?_)
        refine r_aload_n hC dX0_endMove_102 rfl ?_
        refine r_dup hC dX0_endMove_103 rfl ?_
        refine z_getI (jz := 5) hM dX0_endMove_104 fl_RX0_27 rfl rfl rfl (fun v67 h_v67 o_v67 t_v67 => ?_)
        have e_v67 : s = v67 := ((t_v67 ((Or.inl (by simp [Tb])))).trans ((a_ρ66 _ _ _ (by omega)).trans ((a_ρ63 _ _ _ (by omega)).trans ((a_ρ59 _ _ _ (by omega)).trans ((a_ρ56 _ _ _ (by omega)).trans ((a_ρ55 _ _ _ (by omega)).trans qg5)))))).symm
        subst e_v67
        refine r_iload_n hC dX0_endMove_107 rfl ?_
        refine r_iadd hC dX0_endMove_108 ?_
        have f68 := inR_le (inR_wr (s + ((c - 1) + v61)))
        refine z_putIG (jz := 5) hM dX0_endMove_109 fw_RX0_27 rfl rfl rfl ⟨Or.inr (by simp [DL]), Or.inr (by simp [DF])⟩ (by first | trivial | (simp only [Okv]; omega) | (simp [Okv]; try omega)) (fun ρ69 a_ρ69 q_ρ69 => ?_)
        refine r_aload_n hC dX0_endMove_112 rfl ?_
        refine r_aload_n hC dX0_endMove_113 rfl ?_
        refine z_getI (jz := 6) hM dX0_endMove_114 fl_RX0_30 rfl rfl rfl (fun v70 h_v70 o_v70 t_v70 => ?_)
        have e_v70 : o = v70 := ((t_v70 ((Or.inl (by simp [Tb])))).trans ((a_ρ69 _ _ _ (by omega)).trans ((a_ρ66 _ _ _ (by omega)).trans ((a_ρ63 _ _ _ (by omega)).trans ((a_ρ59 _ _ _ (by omega)).trans ((a_ρ56 _ _ _ (by omega)).trans ((a_ρ55 _ _ _ (by omega)).trans qg6))))))).symm
        subst e_v70
        refine r_iload_n hC dX0_endMove_117 rfl ?_
        refine z_ins2 hM dX0_endMove_118 tl_RX0_37 rfl (Nat.le_of_ble_eq_true rfl) (Nat.le_of_ble_eq_true rfl) ?_
        refine x_max (fun v71 h_v71 => ?_)
        refine z_putIG (jz := 6) hM dX0_endMove_121 fw_RX0_30 rfl rfl rfl ⟨Or.inr (by simp [DL]), Or.inr (by simp [DF])⟩ (by first | trivial | (simp only [Okv]; omega) | (simp [Okv]; try omega)) (fun ρ72 a_ρ72 q_ρ72 => ?_)
        refine y_vret hK rfl dX0_endMove_124 ?_
        exact k _ ((((((((Gx.rf).al a_ρ55 (by first | (simp; done) | omega | (simp; omega))).al a_ρ56 (by first | (simp; done) | omega | (simp; omega))).al a_ρ59 (by first | (simp; done) | omega | (simp; omega))).al a_ρ63 (by first | (simp; done) | omega | (simp; omega))).al a_ρ66 (by first | (simp; done) | omega | (simp; omega))).al a_ρ69 (by first | (simp; done) | omega | (simp; omega))).al a_ρ72 (by first | (simp; done) | omega | (simp; omega))) (by have hq := ((a_ρ72 _ _ _ (by omega)).trans ((a_ρ69 _ _ _ (by omega)).trans ((a_ρ66 _ _ _ (by omega)).trans ((a_ρ63 _ _ _ (by omega)).trans ((a_ρ59 _ _ _ (by omega)).trans ((a_ρ56 _ _ _ (by omega)).trans ((a_ρ55 _ _ _ (by omega)).trans qg0))))))); refine hq.trans ?_; (repeat' split) <;> omega) (by have hq := ((a_ρ72 _ _ _ (by omega)).trans ((a_ρ69 _ _ _ (by omega)).trans ((a_ρ66 _ _ _ (by omega)).trans ((a_ρ63 _ _ _ (by omega)).trans ((a_ρ59 _ _ _ (by omega)).trans ((a_ρ56 _ _ _ (by omega)).trans q_ρ55)))))); refine hq.trans ?_; (repeat' split) <;> omega) (by have hq := ((a_ρ72 _ _ _ (by omega)).trans ((a_ρ69 _ _ _ (by omega)).trans ((a_ρ66 _ _ _ (by omega)).trans ((a_ρ63 _ _ _ (by omega)).trans ((a_ρ59 _ _ _ (by omega)).trans q_ρ56))))); refine hq.trans ?_; (repeat' split) <;> omega) (by have hq := ((a_ρ72 _ _ _ (by omega)).trans ((a_ρ69 _ _ _ (by omega)).trans ((a_ρ66 _ _ _ (by omega)).trans q_ρ63))); refine hq.trans ?_; (repeat' split) <;> omega) (by have hq := ((a_ρ72 _ _ _ (by omega)).trans ((a_ρ69 _ _ _ (by omega)).trans q_ρ66)); refine hq.trans ?_; (repeat' split) <;> omega) (by have hq := ((a_ρ72 _ _ _ (by omega)).trans q_ρ69); refine hq.trans (congrArg wr ?_); (repeat' split) <;> omega) (by have hq := q_ρ72; refine hq.trans ?_; (repeat' split) <;> omega)
      · refine r_aload_n hC dX0_endMove_79 rfl ?_
        refine r_dup hC dX0_endMove_80 rfl ?_
        refine z_getI (jz := 0) hM dX0_endMove_81 fl_RX0_9 rfl rfl rfl (fun v73 h_v73 o_v73 t_v73 => ?_)
        have e_v73 : f = v73 := ((t_v73 ((Or.inl (by simp [Tb])))).trans ((a_ρ63 _ _ _ (by omega)).trans ((a_ρ59 _ _ _ (by omega)).trans ((a_ρ56 _ _ _ (by omega)).trans ((a_ρ55 _ _ _ (by omega)).trans qg0))))).symm
        subst e_v73
        refine r_aload_n hC dX0_endMove_84 rfl ?_
        refine z_getI (jz := 1) hM dX0_endMove_85 fl_RX0_15 rfl rfl rfl (fun v74 h_v74 o_v74 t_v74 => ?_)
        have e_v74 : b = v74 := ((t_v74 ((Or.inl (by simp [Tb])))).trans ((a_ρ63 _ _ _ (by omega)).trans ((a_ρ59 _ _ _ (by omega)).trans ((a_ρ56 _ _ _ (by omega)).trans q_ρ55)))).symm
        subst e_v74
        refine r_iaddE hC ((f + b)) dX0_endMove_88 (by omega) (by unfold inR; omega) ?_
        refine z_putIG (jz := 0) hM dX0_endMove_89 fw_RX0_9 rfl rfl rfl ⟨Or.inr (by simp [DL]), Or.inr (by simp [DF])⟩ (by first | trivial | (simp only [Okv]; omega) | (simp [Okv]; try omega)) (fun ρ75 a_ρ75 q_ρ75 => ?_)
        refine r_aload_n hC dX0_endMove_92 rfl ?_
        refine r_iconst hC dX0_endMove_93 rfl ?_
        refine z_putIG (jz := 1) hM dX0_endMove_94 fw_RX0_15 rfl rfl rfl ⟨Or.inr (by simp [DL]), Or.inr (by simp [DF])⟩ (by first | trivial | (simp only [Okv]; omega) | (simp [Okv]; try omega)) (fun ρ76 a_ρ76 q_ρ76 => ?_)
        refine r_aload_n hC dX0_endMove_97 rfl ?_
        refine r_iload_n hC dX0_endMove_98 rfl ?_
        refine z_putIG (jz := 4) hM dX0_endMove_99 fw_RX0_24 rfl rfl rfl ⟨Or.inr (by simp [DL]), Or.inr (by simp [DF])⟩ (by first | trivial | (simp only [Okv]; omega) | (simp [Okv]; try omega)) (fun ρ77 a_ρ77 q_ρ77 => ?_)
        refine r_aload_n hC dX0_endMove_102 rfl ?_
        refine r_dup hC dX0_endMove_103 rfl ?_
        refine z_getI (jz := 5) hM dX0_endMove_104 fl_RX0_27 rfl rfl rfl (fun v78 h_v78 o_v78 t_v78 => ?_)
        have e_v78 : s = v78 := ((t_v78 ((Or.inl (by simp [Tb])))).trans ((a_ρ77 _ _ _ (by omega)).trans ((a_ρ76 _ _ _ (by omega)).trans ((a_ρ75 _ _ _ (by omega)).trans ((a_ρ63 _ _ _ (by omega)).trans ((a_ρ59 _ _ _ (by omega)).trans ((a_ρ56 _ _ _ (by omega)).trans ((a_ρ55 _ _ _ (by omega)).trans qg5)))))))).symm
        subst e_v78
        refine r_iload_n hC dX0_endMove_107 rfl ?_
        refine r_iadd hC dX0_endMove_108 ?_
        have f79 := inR_le (inR_wr (s + ((c - 1) + v61)))
        refine z_putIG (jz := 5) hM dX0_endMove_109 fw_RX0_27 rfl rfl rfl ⟨Or.inr (by simp [DL]), Or.inr (by simp [DF])⟩ (by first | trivial | (simp only [Okv]; omega) | (simp [Okv]; try omega)) (fun ρ80 a_ρ80 q_ρ80 => ?_)
        refine r_aload_n hC dX0_endMove_112 rfl ?_
        refine r_aload_n hC dX0_endMove_113 rfl ?_
        refine z_getI (jz := 6) hM dX0_endMove_114 fl_RX0_30 rfl rfl rfl (fun v81 h_v81 o_v81 t_v81 => ?_)
        have e_v81 : o = v81 := ((t_v81 ((Or.inl (by simp [Tb])))).trans ((a_ρ80 _ _ _ (by omega)).trans ((a_ρ77 _ _ _ (by omega)).trans ((a_ρ76 _ _ _ (by omega)).trans ((a_ρ75 _ _ _ (by omega)).trans ((a_ρ63 _ _ _ (by omega)).trans ((a_ρ59 _ _ _ (by omega)).trans ((a_ρ56 _ _ _ (by omega)).trans ((a_ρ55 _ _ _ (by omega)).trans qg6))))))))).symm
        subst e_v81
        refine r_iload_n hC dX0_endMove_117 rfl ?_
        refine z_ins2 hM dX0_endMove_118 tl_RX0_37 rfl (Nat.le_of_ble_eq_true rfl) (Nat.le_of_ble_eq_true rfl) ?_
        refine x_max (fun v82 h_v82 => ?_)
        refine z_putIG (jz := 6) hM dX0_endMove_121 fw_RX0_30 rfl rfl rfl ⟨Or.inr (by simp [DL]), Or.inr (by simp [DF])⟩ (by first | trivial | (simp only [Okv]; omega) | (simp [Okv]; try omega)) (fun ρ83 a_ρ83 q_ρ83 => ?_)
        refine y_vret hK rfl dX0_endMove_124 ?_
        exact k _ ((((((((((Gx.rf).al a_ρ55 (by first | (simp; done) | omega | (simp; omega))).al a_ρ56 (by first | (simp; done) | omega | (simp; omega))).al a_ρ59 (by first | (simp; done) | omega | (simp; omega))).al a_ρ63 (by first | (simp; done) | omega | (simp; omega))).al a_ρ75 (by first | (simp; done) | omega | (simp; omega))).al a_ρ76 (by first | (simp; done) | omega | (simp; omega))).al a_ρ77 (by first | (simp; done) | omega | (simp; omega))).al a_ρ80 (by first | (simp; done) | omega | (simp; omega))).al a_ρ83 (by first | (simp; done) | omega | (simp; omega))) (by have hq := ((a_ρ83 _ _ _ (by omega)).trans ((a_ρ80 _ _ _ (by omega)).trans ((a_ρ77 _ _ _ (by omega)).trans ((a_ρ76 _ _ _ (by omega)).trans q_ρ75)))); refine hq.trans ?_; (repeat' split) <;> omega) (by have hq := ((a_ρ83 _ _ _ (by omega)).trans ((a_ρ80 _ _ _ (by omega)).trans ((a_ρ77 _ _ _ (by omega)).trans q_ρ76))); refine hq.trans ?_; (repeat' split) <;> omega) (by have hq := ((a_ρ83 _ _ _ (by omega)).trans ((a_ρ80 _ _ _ (by omega)).trans ((a_ρ77 _ _ _ (by omega)).trans ((a_ρ76 _ _ _ (by omega)).trans ((a_ρ75 _ _ _ (by omega)).trans ((a_ρ63 _ _ _ (by omega)).trans ((a_ρ59 _ _ _ (by omega)).trans q_ρ56))))))); refine hq.trans ?_; (repeat' split) <;> omega) (by have hq := ((a_ρ83 _ _ _ (by omega)).trans ((a_ρ80 _ _ _ (by omega)).trans ((a_ρ77 _ _ _ (by omega)).trans ((a_ρ76 _ _ _ (by omega)).trans ((a_ρ75 _ _ _ (by omega)).trans q_ρ63))))); refine hq.trans ?_; (repeat' split) <;> omega) (by have hq := ((a_ρ83 _ _ _ (by omega)).trans ((a_ρ80 _ _ _ (by omega)).trans q_ρ77)); refine hq.trans ?_; (repeat' split) <;> omega) (by have hq := ((a_ρ83 _ _ _ (by omega)).trans q_ρ80); refine hq.trans (congrArg wr ?_); (repeat' split) <;> omega) (by have hq := q_ρ83; refine hq.trans ?_; (repeat' split) <;> omega)
theorem x_endMoveM {eb ec : Bool} {d : Nat} {P : Option Vl → Mm → Prop} {σ : Mm} {i c f m b l : Int} (b_i : 0 ≤ i ∧ i ≤ 7) (b_c : 0 ≤ c ∧ c ≤ 1) (q0 : σ 11 i 0 = f) (q1 : σ 11 i 1 = m) (q2 : σ 11 i 2 = b) (q3 : σ 11 i 3 = l) (b_f : -1 ≤ f ∧ f ≤ 121) (b_m : 0 ≤ m ∧ m ≤ 121) (b_b : 0 ≤ b ∧ b ≤ 122) (b_l : 0 ≤ l ∧ l ≤ 242) (k : P none (su σ 11 i (emR c (σ 11 i)))) : WT (true, eb, ec) (d + 2) 6 [vR 11 i, vI c] σ P := by
  refine x_endMove (q := σ 11 i 4) (s := σ 11 i 5) (o := σ 11 i 6) b_i b_c b_f q0 b_m q1 b_b q2 b_l q3 rfl rfl rfl (fun ρ g h0 h1 h2 h3 h4 h5 h6 => ?_)
  subst q0 q1 q2 q3
  have e : ρ = su σ 11 i (emR c (σ 11 i)) := mu7 g h0 h1 h2 h3 h4 h5 h6
  rw [e]
  exact k
theorem x_maxE {e : Ev} {d : Nat} {P : Option Vl → Mm → Prop} {σ : Mm} {a b : Int} (k : P (some (vI (max a b))) σ) : WT e (d + 1) 264 [vI a, vI b] σ P := x_max (fun r h => by
  have e : r = max a b := by omega
  subst e
  exact k)
theorem x_minE {e : Ev} {d : Nat} {P : Option Vl → Mm → Prop} {σ : Mm} {a b : Int} (k : P (some (vI (min a b))) σ) : WT e (d + 1) 265 [vI a, vI b] σ P := x_min (fun r h => by
  have e : r = min a b := by omega
  subst e
  exact k)
theorem x_add {eb ec : Bool} {d : Nat} {P : Option Vl → Mm → Prop} {σ : Mm} {i : Int} (b_i : 0 ≤ i ∧ i ≤ 7) (hF : (0 ≤ σ 11 i 0 ∧ σ 11 i 0 ≤ 121) ∧ (0 ≤ σ 11 i 1 ∧ σ 11 i 1 ≤ 121) ∧ (0 ≤ σ 11 i 2 ∧ σ 11 i 2 ≤ 121) ∧ 0 ≤ σ 11 i 3 ∧ σ 11 i 3 ≤ 242)  (k : P none (adM σ i)) : WT (true, eb, ec) (d + 3) 3 [vR 11 i] σ P := by
  refine WT_in fun K hK => ?_
  have hK : StpY (true, eb, ec) cX0_add RX0 (none) (WT (true, eb, ec) (d + 2)) P K := hK
  have hM := hK.1
  have hC := hK.1.1
  show K 0 [some (vR 11 i), none] [] σ
  refine r_aload_n hC dX0_add_0 rfl ?_
  refine z_getI (jz := 2) hM dX0_add_1 fl_RX0_18 rfl rfl rfl (fun v1 h_v1 o_v1 t_v1 => ?_)
  have w_v1 := ((t_v1 (Or.inl (by simp [Tb]))).trans (rfl)).symm
  subst w_v1
  refine r_if_le (tgt := 11) hC dX0_add_4 rfl (fun h2 => ?_) (fun h2 => ?_)
  · refine r_iconst hC dX0_add_11 rfl ?_
    refine r_istore_n hC dX0_add_12 rfl ?_
    refine r_aload_n hC dX0_add_13 rfl ?_
    refine r_dup hC dX0_add_14 rfl ?_
    refine z_getI (jz := 2) hM dX0_add_15 fl_RX0_18 rfl rfl rfl (fun v3 h_v3 o_v3 t_v3 => ?_)
    have w_v3 := ((t_v3 (Or.inl (by simp [Tb]))).trans (rfl)).symm
    subst w_v3
    refine r_iconst hC dX0_add_18 rfl ?_
    refine r_iaddE hC (((σ 11 i 2) + 1)) dX0_add_19 (by omega) (by unfold inR; omega) ?_
    refine z_putIT (jz := 2) hM dX0_add_20 fw_RX0_18 rfl rfl rfl ⟨Or.inr (by simp [DL]), Or.inr (by simp [DF])⟩ (by first | trivial | (simp only [Okv]; omega) | (simp [Okv]; try omega)) ?_
    refine r_aload_n hC dX0_add_23 rfl ?_
    refine r_iload_n hC dX0_add_24 rfl ?_
    refine z_inv1 hM dX0_add_25 vl_RX0_33 rfl rfl rfl (Nat.le_of_ble_eq_true rfl) (Nat.le_of_ble_eq_true rfl) ?_
    refine x_endMoveM (by omega) (by omega) ((mu_ne (by omega)).trans (rfl)) ((mu_ne (by omega)).trans (rfl)) (mu_self _ _ _ _ _) ((mu_ne (by omega)).trans (rfl)) (by omega) (by omega) (by omega) (by omega) ?_
    refine y_vret hK rfl dX0_add_28 ?_
    have hm : adM σ i = (su (mu σ 11 i 2 ((σ 11 i 2) + 1)) 11 i (emR 0 ((mu σ 11 i 2 ((σ 11 i 2) + 1)) 11 i))) := by first | exact adM_1 (by omega) | exact adM_0 (by omega)
    rw [hm] at k
    exact k
  · refine r_iconst hC dX0_add_7 rfl ?_
    refine r_goto (tgt := 12) hC dX0_add_8 rfl ?_
    refine r_istore_n hC dX0_add_12 rfl ?_
    refine r_aload_n hC dX0_add_13 rfl ?_
    refine r_dup hC dX0_add_14 rfl ?_
    refine z_getI (jz := 2) hM dX0_add_15 fl_RX0_18 rfl rfl rfl (fun v4 h_v4 o_v4 t_v4 => ?_)
    have w_v4 := ((t_v4 (Or.inl (by simp [Tb]))).trans (rfl)).symm
    subst w_v4
    refine r_iconst hC dX0_add_18 rfl ?_
    refine r_iaddE hC (((σ 11 i 2) + 1)) dX0_add_19 (by omega) (by unfold inR; omega) ?_
    refine z_putIT (jz := 2) hM dX0_add_20 fw_RX0_18 rfl rfl rfl ⟨Or.inr (by simp [DL]), Or.inr (by simp [DF])⟩ (by first | trivial | (simp only [Okv]; omega) | (simp [Okv]; try omega)) ?_
    refine r_aload_n hC dX0_add_23 rfl ?_
    refine r_iload_n hC dX0_add_24 rfl ?_
    refine z_inv1 hM dX0_add_25 vl_RX0_33 rfl rfl rfl (Nat.le_of_ble_eq_true rfl) (Nat.le_of_ble_eq_true rfl) ?_
    refine x_endMoveM (by omega) (by omega) ((mu_ne (by omega)).trans (rfl)) ((mu_ne (by omega)).trans (rfl)) (mu_self _ _ _ _ _) ((mu_ne (by omega)).trans (rfl)) (by omega) (by omega) (by omega) (by omega) ?_
    refine y_vret hK rfl dX0_add_28 ?_
    have hm : adM σ i = (su (mu σ 11 i 2 ((σ 11 i 2) + 1)) 11 i (emR 1 ((mu σ 11 i 2 ((σ 11 i 2) + 1)) 11 i))) := by first | exact adM_1 (by omega) | exact adM_0 (by omega)
    rw [hm] at k
    exact k
theorem x_drop {eb ec : Bool} {d : Nat} {P : Option Vl → Mm → Prop} {σ : Mm} {i : Int} (b_i : 0 ≤ i ∧ i ≤ 7) (hF : (0 ≤ σ 11 i 0 ∧ σ 11 i 0 ≤ 121) ∧ (0 ≤ σ 11 i 1 ∧ σ 11 i 1 ≤ 121) ∧ (0 ≤ σ 11 i 2 ∧ σ 11 i 2 ≤ 121) ∧ 0 ≤ σ 11 i 3 ∧ σ 11 i 3 ≤ 242)  (k : P none (dfM σ i)) : WT (true, eb, ec) (d + 3) 4 [vR 11 i] σ P := by
  refine WT_in fun K hK => ?_
  have hK : StpY (true, eb, ec) cX0_drop RX0 (none) (WT (true, eb, ec) (d + 2)) P K := hK
  have hM := hK.1
  have hC := hK.1.1
  show K 0 [some (vR 11 i)] [] σ
  refine r_aload_n hC dX0_drop_0 rfl ?_
  refine r_dup hC dX0_drop_1 rfl ?_
  refine z_getI (jz := 0) hM dX0_drop_2 fl_RX0_9 rfl rfl rfl (fun v1 h_v1 o_v1 t_v1 => ?_)
  have w_v1 := ((t_v1 (Or.inl (by simp [Tb]))).trans (rfl)).symm
  subst w_v1
  refine r_iconst hC dX0_drop_5 rfl ?_
  refine r_isubE hC (((σ 11 i 0) - 1)) dX0_drop_6 (by omega) (by unfold inR; omega) ?_
  refine z_putIT (jz := 0) hM dX0_drop_7 fw_RX0_9 rfl rfl rfl ⟨Or.inr (by simp [DL]), Or.inr (by simp [DF])⟩ (by first | trivial | (simp only [Okv]; omega) | (simp [Okv]; try omega)) ?_
  refine r_aload_n hC dX0_drop_10 rfl ?_
  refine z_getI (jz := 3) hM dX0_drop_11 fl_RX0_21 rfl rfl rfl (fun v2 h_v2 o_v2 t_v2 => ?_)
  have w_v2 := ((t_v2 (Or.inl (by simp [Tb]))).trans ((mu_ne (by omega)).trans (rfl))).symm
  subst w_v2
  refine r_if_le (tgt := 27) hC dX0_drop_14 rfl (fun h3 => ?_) (fun h3 => ?_)
  · refine r_aload_n hC dX0_drop_27 rfl ?_
    refine r_iconst hC dX0_drop_28 rfl ?_
    refine z_inv1 hM dX0_drop_29 vl_RX0_33 rfl rfl rfl (Nat.le_of_ble_eq_true rfl) (Nat.le_of_ble_eq_true rfl) ?_
    refine x_endMoveM (by omega) (by omega) (mu_self _ _ _ _ _) ((mu_ne (by omega)).trans (rfl)) ((mu_ne (by omega)).trans (rfl)) ((mu_ne (by omega)).trans (rfl)) (by omega) (by omega) (by omega) (by omega) ?_
    refine y_vret hK rfl dX0_drop_32 ?_
    have hm : dfM σ i = (su (mu σ 11 i 0 ((σ 11 i 0) - 1)) 11 i (emR 0 ((mu σ 11 i 0 ((σ 11 i 0) - 1)) 11 i))) := by first | exact dfM_1 (by omega) | exact dfM_0 (by omega)
    rw [hm] at k
    exact k
  · refine r_aload_n hC dX0_drop_17 rfl ?_
    refine r_dup hC dX0_drop_18 rfl ?_
    refine z_getI (jz := 3) hM dX0_drop_19 fl_RX0_21 rfl rfl rfl (fun v4 h_v4 o_v4 t_v4 => ?_)
    have w_v4 := ((t_v4 (Or.inl (by simp [Tb]))).trans ((mu_ne (by omega)).trans (rfl))).symm
    subst w_v4
    refine r_iconst hC dX0_drop_22 rfl ?_
    refine r_isubE hC (((σ 11 i 3) - 1)) dX0_drop_23 (by omega) (by unfold inR; omega) ?_
    refine z_putIT (jz := 3) hM dX0_drop_24 fw_RX0_21 rfl rfl rfl ⟨Or.inr (by simp [DL]), Or.inr (by simp [DF])⟩ (by first | trivial | (simp only [Okv]; omega) | (simp [Okv]; try omega)) ?_
    refine r_aload_n hC dX0_drop_27 rfl ?_
    refine r_iconst hC dX0_drop_28 rfl ?_
    refine z_inv1 hM dX0_drop_29 vl_RX0_33 rfl rfl rfl (Nat.le_of_ble_eq_true rfl) (Nat.le_of_ble_eq_true rfl) ?_
    refine x_endMoveM (by omega) (by omega) ((mu_ne (by omega)).trans (mu_self _ _ _ _ _)) ((mu_ne (by omega)).trans ((mu_ne (by omega)).trans (rfl))) ((mu_ne (by omega)).trans ((mu_ne (by omega)).trans (rfl))) (mu_self _ _ _ _ _) (by omega) (by omega) (by omega) (by omega) ?_
    refine y_vret hK rfl dX0_drop_32 ?_
    have hm : dfM σ i = (su (mu (mu σ 11 i 0 ((σ 11 i 0) - 1)) 11 i 3 ((σ 11 i 3) - 1)) 11 i (emR 0 ((mu (mu σ 11 i 0 ((σ 11 i 0) - 1)) 11 i 3 ((σ 11 i 3) - 1)) 11 i))) := by first | exact dfM_1 (by omega) | exact dfM_0 (by omega)
    rw [hm] at k
    exact k
theorem x_layAnew {eb ec : Bool} {d : Nat} {P : Option Vl → Mm → Prop} {σ : Mm} {i h : Int} (b_i : 0 ≤ i ∧ i ≤ 7) (b_h : 0 ≤ h ∧ h ≤ 121)  (k : P none (lyM σ i h)) : WT (true, eb, ec) (d + 2) 5 [vR 11 i, vI h] σ P := by
  refine WT_in fun K hK => ?_
  have hK : StpY (true, eb, ec) cX0_layAnew RX0 (none) (WT (true, eb, ec) (d + 1)) P K := hK
  have hM := hK.1
  have hC := hK.1.1
  show K 0 [some (vR 11 i), some (vI h)] [] σ
  refine r_aload_n hC dX0_layAnew_0 rfl ?_
  refine r_iload_n hC dX0_layAnew_1 rfl ?_
  refine z_putIT (jz := 0) hM dX0_layAnew_2 fw_RX0_9 rfl rfl rfl ⟨Or.inr (by simp [DL]), Or.inr (by simp [DF])⟩ (by first | trivial | (simp only [Okv]; omega) | (simp [Okv]; try omega)) ?_
  refine r_aload_n hC dX0_layAnew_5 rfl ?_
  refine r_iconst hC dX0_layAnew_6 rfl ?_
  refine z_putIT (jz := 1) hM dX0_layAnew_7 fw_RX0_15 rfl rfl rfl ⟨Or.inr (by simp [DL]), Or.inr (by simp [DF])⟩ (by first | trivial | (simp only [Okv]; omega) | (simp [Okv]; try omega)) ?_
  refine r_aload_n hC dX0_layAnew_10 rfl ?_
  refine r_iconst hC dX0_layAnew_11 rfl ?_
  refine z_putIT (jz := 2) hM dX0_layAnew_12 fw_RX0_18 rfl rfl rfl ⟨Or.inr (by simp [DL]), Or.inr (by simp [DF])⟩ (by first | trivial | (simp only [Okv]; omega) | (simp [Okv]; try omega)) ?_
  refine r_aload_n hC dX0_layAnew_15 rfl ?_
  refine r_iconst hC dX0_layAnew_16 rfl ?_
  refine z_putIT (jz := 3) hM dX0_layAnew_17 fw_RX0_21 rfl rfl rfl ⟨Or.inr (by simp [DL]), Or.inr (by simp [DF])⟩ (by first | trivial | (simp only [Okv]; omega) | (simp [Okv]; try omega)) ?_
  refine r_aload_n hC dX0_layAnew_20 rfl ?_
  refine r_iconst hC dX0_layAnew_21 rfl ?_
  refine r_iload_n hC dX0_layAnew_22 rfl ?_
  refine r_iconst hC dX0_layAnew_23 rfl ?_
  refine r_isubE hC ((h - 1)) dX0_layAnew_24 (by omega) (by unfold inR; omega) ?_
  refine z_ins2 hM dX0_layAnew_25 tl_RX0_37 rfl (Nat.le_of_ble_eq_true rfl) (Nat.le_of_ble_eq_true rfl) ?_
  refine x_maxE ?_
  refine z_putIT (jz := 4) hM dX0_layAnew_28 fw_RX0_24 rfl rfl rfl ⟨Or.inr (by simp [DL]), Or.inr (by simp [DF])⟩ (by first | trivial | (simp only [Okv]; omega) | (simp [Okv]; try omega)) ?_
  refine r_aload_n hC dX0_layAnew_31 rfl ?_
  refine r_dup hC dX0_layAnew_32 rfl ?_
  refine z_getI (jz := 5) hM dX0_layAnew_33 fl_RX0_27 rfl rfl rfl (fun v1 h_v1 o_v1 t_v1 => ?_)
  have w_v1 := ((t_v1 (Or.inl (by simp [Tb]))).trans ((mu_ne (by omega)).trans ((mu_ne (by omega)).trans ((mu_ne (by omega)).trans ((mu_ne (by omega)).trans ((mu_ne (by omega)).trans (rfl))))))).symm
  subst w_v1
  refine r_aload_n hC dX0_layAnew_36 rfl ?_
  refine z_getI (jz := 4) hM dX0_layAnew_37 fl_RX0_24 rfl rfl rfl (fun v2 h_v2 o_v2 t_v2 => ?_)
  have w_v2 := ((t_v2 (Or.inl (by simp [Tb]))).trans (mu_self _ _ _ _ _)).symm
  subst w_v2
  refine r_iadd hC dX0_layAnew_40 ?_
  have f3 := inR_le (inR_wr ((σ 11 i 5) + (max 0 (h - 1))))
  refine z_putIT (jz := 5) hM dX0_layAnew_41 fw_RX0_27 rfl rfl rfl ⟨Or.inr (by simp [DL]), Or.inr (by simp [DF])⟩ (by first | trivial | (simp only [Okv]; omega) | (simp [Okv]; try omega)) ?_
  refine y_vret hK rfl dX0_layAnew_44 ?_
  have hm : (mu (mu (mu (mu (mu (mu σ 11 i 0 h) 11 i 1 0) 11 i 2 0) 11 i 3 0) 11 i 4 (max 0 (h - 1))) 11 i 5 (wr ((σ 11 i 5) + (max 0 (h - 1))))) = lyM σ i h := mu7 (fun c x y h => (mu_ne (by omega)).trans ((mu_ne (by omega)).trans ((mu_ne (by omega)).trans ((mu_ne (by omega)).trans ((mu_ne (by omega)).trans ((mu_ne (by omega)).trans (rfl))))))) ((mu_ne (by omega)).trans ((mu_ne (by omega)).trans ((mu_ne (by omega)).trans ((mu_ne (by omega)).trans ((mu_ne (by omega)).trans (mu_self _ _ _ _ _)))))) ((mu_ne (by omega)).trans ((mu_ne (by omega)).trans ((mu_ne (by omega)).trans ((mu_ne (by omega)).trans (mu_self _ _ _ _ _))))) ((mu_ne (by omega)).trans ((mu_ne (by omega)).trans ((mu_ne (by omega)).trans (mu_self _ _ _ _ _)))) ((mu_ne (by omega)).trans ((mu_ne (by omega)).trans (mu_self _ _ _ _ _))) ((mu_ne (by omega)).trans (mu_self _ _ _ _ _)) (mu_self _ _ _ _ _) ((mu_ne (by omega)).trans ((mu_ne (by omega)).trans ((mu_ne (by omega)).trans ((mu_ne (by omega)).trans ((mu_ne (by omega)).trans ((mu_ne (by omega)).trans (rfl)))))))
  rw [hm] at *
  exact k
theorem x_clear {eb ec : Bool} {d : Nat} {P : Option Vl → Mm → Prop} {σ : Mm} {i : Int} (b_i : 0 ≤ i ∧ i ≤ 7)  (k : P none (su σ 11 i (zrR (σ 11 i)))) : WT (true, eb, ec) (d + 1) 1 [vR 11 i] σ P := by
  refine WT_in fun K hK => ?_
  have hK : StpY (true, eb, ec) cX0_clear RX0 (none) (WT (true, eb, ec) (d + 0)) P K := hK
  have hM := hK.1
  have hC := hK.1.1
  show K 0 [some (vR 11 i)] [] σ
  refine r_aload_n hC dX0_clear_0 rfl ?_
  refine r_iconst hC dX0_clear_1 rfl ?_
  refine z_putIT (jz := 0) hM dX0_clear_2 fw_RX0_9 rfl rfl rfl ⟨Or.inr (by simp [DL]), Or.inr (by simp [DF])⟩ (by first | trivial | (simp only [Okv]; omega) | (simp [Okv]; try omega)) ?_
  refine r_aload_n hC dX0_clear_5 rfl ?_
  refine r_iconst hC dX0_clear_6 rfl ?_
  refine z_putIT (jz := 1) hM dX0_clear_7 fw_RX0_15 rfl rfl rfl ⟨Or.inr (by simp [DL]), Or.inr (by simp [DF])⟩ (by first | trivial | (simp only [Okv]; omega) | (simp [Okv]; try omega)) ?_
  refine r_aload_n hC dX0_clear_10 rfl ?_
  refine r_iconst hC dX0_clear_11 rfl ?_
  refine z_putIT (jz := 2) hM dX0_clear_12 fw_RX0_18 rfl rfl rfl ⟨Or.inr (by simp [DL]), Or.inr (by simp [DF])⟩ (by first | trivial | (simp only [Okv]; omega) | (simp [Okv]; try omega)) ?_
  refine r_aload_n hC dX0_clear_15 rfl ?_
  refine r_iconst hC dX0_clear_16 rfl ?_
  refine z_putIT (jz := 3) hM dX0_clear_17 fw_RX0_21 rfl rfl rfl ⟨Or.inr (by simp [DL]), Or.inr (by simp [DF])⟩ (by first | trivial | (simp only [Okv]; omega) | (simp [Okv]; try omega)) ?_
  refine r_aload_n hC dX0_clear_20 rfl ?_
  refine r_iconst hC dX0_clear_21 rfl ?_
  refine z_putIT (jz := 4) hM dX0_clear_22 fw_RX0_24 rfl rfl rfl ⟨Or.inr (by simp [DL]), Or.inr (by simp [DF])⟩ (by first | trivial | (simp only [Okv]; omega) | (simp [Okv]; try omega)) ?_
  refine r_aload_n hC dX0_clear_25 rfl ?_
  refine r_iconst hC dX0_clear_26 rfl ?_
  refine z_putIT (jz := 5) hM dX0_clear_27 fw_RX0_27 rfl rfl rfl ⟨Or.inr (by simp [DL]), Or.inr (by simp [DF])⟩ (by first | trivial | (simp only [Okv]; omega) | (simp [Okv]; try omega)) ?_
  refine r_aload_n hC dX0_clear_30 rfl ?_
  refine r_iconst hC dX0_clear_31 rfl ?_
  refine z_putIT (jz := 6) hM dX0_clear_32 fw_RX0_30 rfl rfl rfl ⟨Or.inr (by simp [DL]), Or.inr (by simp [DF])⟩ (by first | trivial | (simp only [Okv]; omega) | (simp [Okv]; try omega)) ?_
  refine y_vret hK rfl dX0_clear_35 ?_
  have hm : (mu (mu (mu (mu (mu (mu (mu σ 11 i 0 0) 11 i 1 0) 11 i 2 0) 11 i 3 0) 11 i 4 0) 11 i 5 0) 11 i 6 0) = su σ 11 i (zrR (σ 11 i)) := mu7 (fun c x y h => (mu_ne (by omega)).trans ((mu_ne (by omega)).trans ((mu_ne (by omega)).trans ((mu_ne (by omega)).trans ((mu_ne (by omega)).trans ((mu_ne (by omega)).trans ((mu_ne (by omega)).trans (rfl)))))))) ((mu_ne (by omega)).trans ((mu_ne (by omega)).trans ((mu_ne (by omega)).trans ((mu_ne (by omega)).trans ((mu_ne (by omega)).trans ((mu_ne (by omega)).trans (mu_self _ _ _ _ _))))))) ((mu_ne (by omega)).trans ((mu_ne (by omega)).trans ((mu_ne (by omega)).trans ((mu_ne (by omega)).trans ((mu_ne (by omega)).trans (mu_self _ _ _ _ _)))))) ((mu_ne (by omega)).trans ((mu_ne (by omega)).trans ((mu_ne (by omega)).trans ((mu_ne (by omega)).trans (mu_self _ _ _ _ _))))) ((mu_ne (by omega)).trans ((mu_ne (by omega)).trans ((mu_ne (by omega)).trans (mu_self _ _ _ _ _)))) ((mu_ne (by omega)).trans ((mu_ne (by omega)).trans (mu_self _ _ _ _ _))) ((mu_ne (by omega)).trans (mu_self _ _ _ _ _)) (mu_self _ _ _ _ _)
  rw [hm] at *
  exact k
theorem x_copyFrom {eb ec : Bool} {d : Nat} {P : Option Vl → Mm → Prop} {σ : Mm} {i j : Int} (b_i : 0 ≤ i ∧ i ≤ 7) (b_j : 0 ≤ j ∧ j ≤ 7) (hij : i ≠ j)  (k : P none (su σ 11 i (r7 (σ 11 j 0) (σ 11 j 1) (σ 11 j 2) (σ 11 j 3) (σ 11 j 4) (σ 11 j 5) (σ 11 j 6) (σ 11 i)))) : WT (true, eb, ec) (d + 1) 2 [vR 11 i, vR 11 j] σ P := by
  refine WT_in fun K hK => ?_
  have hK : StpY (true, eb, ec) cX0_copyFrom RX0 (none) (WT (true, eb, ec) (d + 0)) P K := hK
  have hM := hK.1
  have hC := hK.1.1
  show K 0 [some (vR 11 i), some (vR 11 j)] [] σ
  refine r_aload_n hC dX0_copyFrom_0 rfl ?_
  refine r_aload_n hC dX0_copyFrom_1 rfl ?_
  refine z_getI (jz := 0) hM dX0_copyFrom_2 fl_RX0_9 rfl rfl rfl (fun v1 h_v1 o_v1 t_v1 => ?_)
  have w_v1 := ((t_v1 (Or.inl (by simp [Tb]))).trans (rfl)).symm
  subst w_v1
  refine z_putIT (jz := 0) hM dX0_copyFrom_5 fw_RX0_9 rfl rfl rfl ⟨Or.inr (by simp [DL]), Or.inr (by simp [DF])⟩ (by first | trivial | (simp only [Okv]; omega) | (simp [Okv]; try omega)) ?_
  refine r_aload_n hC dX0_copyFrom_8 rfl ?_
  refine r_aload_n hC dX0_copyFrom_9 rfl ?_
  refine z_getI (jz := 1) hM dX0_copyFrom_10 fl_RX0_15 rfl rfl rfl (fun v2 h_v2 o_v2 t_v2 => ?_)
  have w_v2 := ((t_v2 (Or.inl (by simp [Tb]))).trans ((mu_ne (by omega)).trans (rfl))).symm
  subst w_v2
  refine z_putIT (jz := 1) hM dX0_copyFrom_13 fw_RX0_15 rfl rfl rfl ⟨Or.inr (by simp [DL]), Or.inr (by simp [DF])⟩ (by first | trivial | (simp only [Okv]; omega) | (simp [Okv]; try omega)) ?_
  refine r_aload_n hC dX0_copyFrom_16 rfl ?_
  refine r_aload_n hC dX0_copyFrom_17 rfl ?_
  refine z_getI (jz := 2) hM dX0_copyFrom_18 fl_RX0_18 rfl rfl rfl (fun v3 h_v3 o_v3 t_v3 => ?_)
  have w_v3 := ((t_v3 (Or.inl (by simp [Tb]))).trans ((mu_ne (by omega)).trans ((mu_ne (by omega)).trans (rfl)))).symm
  subst w_v3
  refine z_putIT (jz := 2) hM dX0_copyFrom_21 fw_RX0_18 rfl rfl rfl ⟨Or.inr (by simp [DL]), Or.inr (by simp [DF])⟩ (by first | trivial | (simp only [Okv]; omega) | (simp [Okv]; try omega)) ?_
  refine r_aload_n hC dX0_copyFrom_24 rfl ?_
  refine r_aload_n hC dX0_copyFrom_25 rfl ?_
  refine z_getI (jz := 3) hM dX0_copyFrom_26 fl_RX0_21 rfl rfl rfl (fun v4 h_v4 o_v4 t_v4 => ?_)
  have w_v4 := ((t_v4 (Or.inl (by simp [Tb]))).trans ((mu_ne (by omega)).trans ((mu_ne (by omega)).trans ((mu_ne (by omega)).trans (rfl))))).symm
  subst w_v4
  refine z_putIT (jz := 3) hM dX0_copyFrom_29 fw_RX0_21 rfl rfl rfl ⟨Or.inr (by simp [DL]), Or.inr (by simp [DF])⟩ (by first | trivial | (simp only [Okv]; omega) | (simp [Okv]; try omega)) ?_
  refine r_aload_n hC dX0_copyFrom_32 rfl ?_
  refine r_aload_n hC dX0_copyFrom_33 rfl ?_
  refine z_getI (jz := 4) hM dX0_copyFrom_34 fl_RX0_24 rfl rfl rfl (fun v5 h_v5 o_v5 t_v5 => ?_)
  have w_v5 := ((t_v5 (Or.inl (by simp [Tb]))).trans ((mu_ne (by omega)).trans ((mu_ne (by omega)).trans ((mu_ne (by omega)).trans ((mu_ne (by omega)).trans (rfl)))))).symm
  subst w_v5
  refine z_putIT (jz := 4) hM dX0_copyFrom_37 fw_RX0_24 rfl rfl rfl ⟨Or.inr (by simp [DL]), Or.inr (by simp [DF])⟩ (by first | trivial | (simp only [Okv]; omega) | (simp [Okv]; try omega)) ?_
  refine r_aload_n hC dX0_copyFrom_40 rfl ?_
  refine r_aload_n hC dX0_copyFrom_41 rfl ?_
  refine z_getI (jz := 5) hM dX0_copyFrom_42 fl_RX0_27 rfl rfl rfl (fun v6 h_v6 o_v6 t_v6 => ?_)
  have w_v6 := ((t_v6 (Or.inl (by simp [Tb]))).trans ((mu_ne (by omega)).trans ((mu_ne (by omega)).trans ((mu_ne (by omega)).trans ((mu_ne (by omega)).trans ((mu_ne (by omega)).trans (rfl))))))).symm
  subst w_v6
  refine z_putIT (jz := 5) hM dX0_copyFrom_45 fw_RX0_27 rfl rfl rfl ⟨Or.inr (by simp [DL]), Or.inr (by simp [DF])⟩ (by first | trivial | (simp only [Okv]; omega) | (simp [Okv]; try omega)) ?_
  refine r_aload_n hC dX0_copyFrom_48 rfl ?_
  refine r_aload_n hC dX0_copyFrom_49 rfl ?_
  refine z_getI (jz := 6) hM dX0_copyFrom_50 fl_RX0_30 rfl rfl rfl (fun v7 h_v7 o_v7 t_v7 => ?_)
  have w_v7 := ((t_v7 (Or.inl (by simp [Tb]))).trans ((mu_ne (by omega)).trans ((mu_ne (by omega)).trans ((mu_ne (by omega)).trans ((mu_ne (by omega)).trans ((mu_ne (by omega)).trans ((mu_ne (by omega)).trans (rfl)))))))).symm
  subst w_v7
  refine z_putIT (jz := 6) hM dX0_copyFrom_53 fw_RX0_30 rfl rfl rfl ⟨Or.inr (by simp [DL]), Or.inr (by simp [DF])⟩ (by first | trivial | (simp only [Okv]; omega) | (simp [Okv]; try omega)) ?_
  refine y_vret hK rfl dX0_copyFrom_56 ?_
  have hm : (mu (mu (mu (mu (mu (mu (mu σ 11 i 0 (σ 11 j 0)) 11 i 1 (σ 11 j 1)) 11 i 2 (σ 11 j 2)) 11 i 3 (σ 11 j 3)) 11 i 4 (σ 11 j 4)) 11 i 5 (σ 11 j 5)) 11 i 6 (σ 11 j 6)) = su σ 11 i (r7 (σ 11 j 0) (σ 11 j 1) (σ 11 j 2) (σ 11 j 3) (σ 11 j 4) (σ 11 j 5) (σ 11 j 6) (σ 11 i)) := mu7 (fun c x y h => (mu_ne (by omega)).trans ((mu_ne (by omega)).trans ((mu_ne (by omega)).trans ((mu_ne (by omega)).trans ((mu_ne (by omega)).trans ((mu_ne (by omega)).trans ((mu_ne (by omega)).trans (rfl)))))))) ((mu_ne (by omega)).trans ((mu_ne (by omega)).trans ((mu_ne (by omega)).trans ((mu_ne (by omega)).trans ((mu_ne (by omega)).trans ((mu_ne (by omega)).trans (mu_self _ _ _ _ _))))))) ((mu_ne (by omega)).trans ((mu_ne (by omega)).trans ((mu_ne (by omega)).trans ((mu_ne (by omega)).trans ((mu_ne (by omega)).trans (mu_self _ _ _ _ _)))))) ((mu_ne (by omega)).trans ((mu_ne (by omega)).trans ((mu_ne (by omega)).trans ((mu_ne (by omega)).trans (mu_self _ _ _ _ _))))) ((mu_ne (by omega)).trans ((mu_ne (by omega)).trans ((mu_ne (by omega)).trans (mu_self _ _ _ _ _)))) ((mu_ne (by omega)).trans ((mu_ne (by omega)).trans (mu_self _ _ _ _ _))) ((mu_ne (by omega)).trans (mu_self _ _ _ _ _)) (mu_self _ _ _ _ _)
  rw [hm] at *
  exact k
theorem x_shift {eb ec : Bool} {d : Nat} {P : Option Vl → Mm → Prop} {σ : Mm} {i f z m : Int} (b_i : 0 ≤ i ∧ i ≤ 6) (b_f : 0 ≤ f ∧ f ≤ 121) (b_z : 0 ≤ z ∧ z ≤ 121) (b_m : 0 ≤ m ∧ m ≤ 121) (h1 : f + m ≤ 121) (h2 : z + m ≤ 121)  (k : P none (cpy (cpy (cpy σ 8 i f 8 i z m) 9 i f 9 i z m) 10 i f 10 i z m)) : WT (true, eb, ec) (d + 1) 36 [vR 7 i, vI f, vI z, vI m] σ P := by
  refine WT_in fun K hK => ?_
  have hK : StpY (true, eb, ec) cX2_shift RX2 (none) (WT (true, eb, ec) (d + 0)) P K := hK
  have hM := hK.1
  have hC := hK.1.1
  show K 0 [some (vR 7 i), some (vI f), some (vI z), some (vI m)] [] σ
  refine r_aload_n hC dX2_shift_0 rfl ?_
  refine z_getR hM dX2_shift_1 fl_RX2_15 rfl rfl (vld_of (n := 7) rfl (by omega) (by omega)) ?_
  refine r_iload_n hC dX2_shift_4 rfl ?_
  refine r_aload_n hC dX2_shift_5 rfl ?_
  refine z_getR hM dX2_shift_6 fl_RX2_15 rfl rfl (vld_of (n := 7) rfl (by omega) (by omega)) ?_
  refine r_iload_n hC dX2_shift_9 rfl ?_
  refine r_iload_n hC dX2_shift_10 rfl ?_
  refine z_copyT hM dX2_shift_11 ac_RX2_72 rfl rfl (by omega) (by omega) (by omega) (by omega) (by omega) (Nat.le_of_ble_eq_true rfl) (fun _ => ⟨by simp [DL], by simp [DF]⟩) (fun _ _ _ h => by simp [Okv] at *; try exact h) (fun x _ _ _ => (Or.inl (by simp [Tb]))) ?_
  refine r_aload_n hC dX2_shift_14 rfl ?_
  refine z_getR hM dX2_shift_15 fl_RX2_19 rfl rfl (vld_of (n := 7) rfl (by omega) (by omega)) ?_
  refine r_iload_n hC dX2_shift_18 rfl ?_
  refine r_aload_n hC dX2_shift_19 rfl ?_
  refine z_getR hM dX2_shift_20 fl_RX2_19 rfl rfl (vld_of (n := 7) rfl (by omega) (by omega)) ?_
  refine r_iload_n hC dX2_shift_23 rfl ?_
  refine r_iload_n hC dX2_shift_24 rfl ?_
  refine z_copyT hM dX2_shift_25 ac_RX2_72 rfl rfl (by omega) (by omega) (by omega) (by omega) (by omega) (Nat.le_of_ble_eq_true rfl) (fun _ => ⟨by simp [DL], by simp [DF]⟩) (fun _ _ _ h => by simp [Okv] at *; try exact h) (fun x _ _ _ => (Or.inl (by simp [Tb]))) ?_
  refine r_aload_n hC dX2_shift_28 rfl ?_
  refine z_getR hM dX2_shift_29 fl_RX2_22 rfl rfl (vld_of (n := 7) rfl (by omega) (by omega)) ?_
  refine r_iload_n hC dX2_shift_32 rfl ?_
  refine r_aload_n hC dX2_shift_33 rfl ?_
  refine z_getR hM dX2_shift_34 fl_RX2_22 rfl rfl (vld_of (n := 7) rfl (by omega) (by omega)) ?_
  refine r_iload_n hC dX2_shift_37 rfl ?_
  refine r_iload_n hC dX2_shift_38 rfl ?_
  refine z_copyT hM dX2_shift_39 ac_RX2_72 rfl rfl (by omega) (by omega) (by omega) (by omega) (by omega) (Nat.le_of_ble_eq_true rfl) (fun _ => ⟨by simp [DL], by simp [DF]⟩) (fun _ _ _ h => by simp [Okv] at *; try exact h) (fun x _ _ _ => (Or.inl (by simp [Tb]))) ?_
  refine y_vret hK rfl dX2_shift_42 ?_
  exact k
theorem x_insert {eb ec : Bool} {d : Nat} {P : Option Vl → Mm → Prop} {σ : Mm} {i a t v : Int} (b_i : 0 ≤ i ∧ i ≤ 6) (b_a : 0 ≤ a ∧ a ≤ 120) (b_t : -2147483648 ≤ t ∧ t ≤ 2147483647) (b_v : -1000 ≤ v ∧ v ≤ 1000) (ha : a ≤ σ 7 i 6) (hh : σ 7 i 6 ≤ 120)  (k : P none (insM σ i a t v)) : WT (true, eb, ec) (d + 2) 34 [vR 7 i, vI a, vI t, vI v] σ P := by
  refine WT_in fun K hK => ?_
  have hK : StpY (true, eb, ec) cX2_insert RX2 (none) (WT (true, eb, ec) (d + 1)) P K := hK
  have hM := hK.1
  have hC := hK.1.1
  show K 0 [some (vR 7 i), some (vI a), some (vI t), some (vI v)] [] σ
  refine r_aload_n hC dX2_insert_0 rfl ?_
  refine r_aload_n hC dX2_insert_1 rfl ?_
  refine z_getI (jz := 6) hM dX2_insert_2 fl_RX2_48 rfl rfl rfl (fun v1 h_v1 o_v1 t_v1 => ?_)
  have w_v1 := ((t_v1 (Or.inl (by simp [Tb]))).trans (rfl)).symm
  subst w_v1
  have q_v1 : 0 ≤ (σ 7 i 6) ∧ (σ 7 i 6) ≤ 121 := o_v1.1 rfl
  refine r_iload_n hC dX2_insert_5 rfl ?_
  refine r_isubE hC (((σ 7 i 6) - a)) dX2_insert_6 (by omega) (by unfold inR; omega) ?_
  refine z_putIT (jz := 14) hM dX2_insert_7 fw_RX2_63 rfl rfl rfl ⟨Or.inr (by simp [DL]), Or.inr (by simp [DF])⟩ (by first | trivial | (simp only [Okv]; omega) | (simp [Okv]; try omega)) ?_
  refine r_aload_n hC dX2_insert_10 rfl ?_
  refine r_iload_n hC dX2_insert_11 rfl ?_
  refine r_iload_n hC dX2_insert_12 rfl ?_
  refine r_iconst hC dX2_insert_13 rfl ?_
  refine r_iaddE hC ((a + 1)) dX2_insert_14 (by omega) (by unfold inR; omega) ?_
  refine r_aload_n hC dX2_insert_15 rfl ?_
  refine z_getI (jz := 14) hM dX2_insert_16 fl_RX2_63 rfl rfl rfl (fun v2 h_v2 o_v2 t_v2 => ?_)
  have w_v2 := ((t_v2 (Or.inl (by simp [Tb]))).trans (mu_self _ _ _ _ _)).symm
  subst w_v2
  refine z_inv3 hM dX2_insert_19 vl_RX2_89 rfl rfl rfl (Nat.le_of_ble_eq_true rfl) (Nat.le_of_ble_eq_true rfl) ?_
  refine x_shift (by omega) (by omega) (by omega) (by omega) (by omega) (by omega) ?_
  refine r_aload_n hC dX2_insert_22 rfl ?_
  refine z_getR hM dX2_insert_23 fl_RX2_15 rfl rfl (vld_of (n := 7) rfl (by omega) (by omega)) ?_
  refine r_iload_n hC dX2_insert_26 rfl ?_
  refine r_iload_n hC dX2_insert_27 rfl ?_
  refine z_iastT hM dX2_insert_28 rfl (by omega) (by omega) ⟨Or.inr (by simp [DL]), Or.inr (by simp [DF])⟩ (by first | trivial | (simp only [Okv]; omega) | (simp [Okv]; try omega)) ?_
  refine r_aload_n hC dX2_insert_29 rfl ?_
  refine z_getR hM dX2_insert_30 fl_RX2_19 rfl rfl (vld_of (n := 7) rfl (by omega) (by omega)) ?_
  refine r_iload_n hC dX2_insert_33 rfl ?_
  refine r_iload_n hC dX2_insert_34 rfl ?_
  refine z_iastT hM dX2_insert_35 rfl (by omega) (by omega) ⟨Or.inr (by simp [DL]), Or.inr (by simp [DF])⟩ (by first | trivial | (simp only [Okv]; omega) | (simp [Okv]; try omega)) ?_
  refine r_aload_n hC dX2_insert_36 rfl ?_
  refine z_getR hM dX2_insert_37 fl_RX2_22 rfl rfl (vld_of (n := 7) rfl (by omega) (by omega)) ?_
  refine r_iload_n hC dX2_insert_40 rfl ?_
  refine r_aload_n hC dX2_insert_41 rfl ?_
  refine z_getI (jz := 12) hM dX2_insert_42 fl_RX2_57 rfl rfl rfl (fun v3 h_v3 o_v3 t_v3 => ?_)
  have w_v3 := ((t_v3 (Or.inl (by simp [Tb]))).trans ((mu_ne (by omega)).trans ((mu_ne (by omega)).trans ((cpy_ne (by omega)).trans ((cpy_ne (by omega)).trans ((cpy_ne (by omega)).trans ((mu_ne (by omega)).trans (rfl)))))))).symm
  subst w_v3
  refine z_iastT hM dX2_insert_45 rfl (by omega) (by omega) ⟨Or.inr (by simp [DL]), Or.inr (by simp [DF])⟩ (by first | trivial | (simp only [Okv]; omega) | (simp [Okv]; try omega)) ?_
  refine r_aload_n hC dX2_insert_46 rfl ?_
  refine r_dup hC dX2_insert_47 rfl ?_
  refine z_getI (jz := 6) hM dX2_insert_48 fl_RX2_48 rfl rfl rfl (fun v4 h_v4 o_v4 t_v4 => ?_)
  have w_v4 := ((t_v4 (Or.inl (by simp [Tb]))).trans ((mu_ne (by omega)).trans ((mu_ne (by omega)).trans ((mu_ne (by omega)).trans ((cpy_ne (by omega)).trans ((cpy_ne (by omega)).trans ((cpy_ne (by omega)).trans ((mu_ne (by omega)).trans (rfl))))))))).symm
  subst w_v4
  have q_v4 : 0 ≤ (σ 7 i 6) ∧ (σ 7 i 6) ≤ 121 := o_v4.1 rfl
  refine r_iconst hC dX2_insert_51 rfl ?_
  refine r_iaddE hC (((σ 7 i 6) + 1)) dX2_insert_52 (by omega) (by unfold inR; omega) ?_
  refine z_putIT (jz := 6) hM dX2_insert_53 fw_RX2_48 rfl rfl rfl ⟨Or.inl rfl, Or.inr (by simp [DF])⟩ (by first | trivial | (simp only [Okv]; omega) | (simp [Okv]; try omega)) ?_
  refine r_aload_n hC dX2_insert_56 rfl ?_
  refine r_dup hC dX2_insert_57 rfl ?_
  refine z_getI (jz := 12) hM dX2_insert_58 fl_RX2_57 rfl rfl rfl (fun v5 h_v5 o_v5 t_v5 => ?_)
  have w_v5 := ((t_v5 (Or.inl (by simp [Tb]))).trans ((mu_ne (by omega)).trans ((mu_ne (by omega)).trans ((mu_ne (by omega)).trans ((mu_ne (by omega)).trans ((cpy_ne (by omega)).trans ((cpy_ne (by omega)).trans ((cpy_ne (by omega)).trans ((mu_ne (by omega)).trans (rfl)))))))))).symm
  subst w_v5
  refine r_iconst hC dX2_insert_61 rfl ?_
  refine r_iadd hC dX2_insert_62 ?_
  have f6 := inR_le (inR_wr ((σ 7 i 12) + 1))
  refine z_putIT (jz := 12) hM dX2_insert_63 fw_RX2_57 rfl rfl rfl ⟨Or.inr (by simp [DL]), Or.inr (by simp [DF])⟩ (by first | trivial | (simp only [Okv]; omega) | (simp [Okv]; try omega)) ?_
  refine r_aload_n hC dX2_insert_66 rfl ?_
  refine r_aload_n hC dX2_insert_67 rfl ?_
  refine z_getI (jz := 10) hM dX2_insert_68 fl_RX2_51 rfl rfl rfl (fun v7 h_v7 o_v7 t_v7 => ?_)
  have w_v7 := ((t_v7 (Or.inl (by simp [Tb]))).trans ((mu_ne (by omega)).trans ((mu_ne (by omega)).trans ((mu_ne (by omega)).trans ((mu_ne (by omega)).trans ((mu_ne (by omega)).trans ((cpy_ne (by omega)).trans ((cpy_ne (by omega)).trans ((cpy_ne (by omega)).trans ((mu_ne (by omega)).trans (rfl))))))))))).symm
  subst w_v7
  refine r_iload_n hC dX2_insert_71 rfl ?_
  refine z_ins2 hM dX2_insert_72 tl_RX2_93 rfl (Nat.le_of_ble_eq_true rfl) (Nat.le_of_ble_eq_true rfl) ?_
  refine x_maxE ?_
  refine z_putIT (jz := 10) hM dX2_insert_75 fw_RX2_51 rfl rfl rfl ⟨Or.inr (by simp [DL]), Or.inr (by simp [DF])⟩ (by first | trivial | (simp only [Okv]; omega) | (simp [Okv]; try omega)) ?_
  refine y_vret hK rfl dX2_insert_78 ?_
  have hm : insM σ i a t v = (mu (mu (mu (mu (mu (mu (cpy (cpy (cpy (mu σ 7 i 14 ((σ 7 i 6) - a)) 8 i a 8 i (a + 1) ((σ 7 i 6) - a)) 9 i a 9 i (a + 1) ((σ 7 i 6) - a)) 10 i a 10 i (a + 1) ((σ 7 i 6) - a)) 8 i a t) 9 i a v) 10 i a (σ 7 i 12)) 7 i 6 ((σ 7 i 6) + 1)) 7 i 12 (wr ((σ 7 i 12) + 1))) 7 i 10 (max (σ 7 i 10) t)) := insM_eq (by omega) (by omega) (by omega) (by omega)
  rw [hm] at k
  exact k
theorem x_remove {eb ec : Bool} {d : Nat} {P : Option Vl → Mm → Prop} {σ : Mm} {i a : Int} (b_i : 0 ≤ i ∧ i ≤ 6) (b_a : 0 ≤ a ∧ a ≤ 120) (ha : a < σ 7 i 6)  (k : P none (remM σ i a)) : WT (true, eb, ec) (d + 2) 35 [vR 7 i, vI a] σ P := by
  refine WT_in fun K hK => ?_
  have hK : StpY (true, eb, ec) cX2_remove RX2 (none) (WT (true, eb, ec) (d + 1)) P K := hK
  have hM := hK.1
  have hC := hK.1.1
  show K 0 [some (vR 7 i), some (vI a)] [] σ
  refine r_aload_n hC dX2_remove_0 rfl ?_
  refine r_iload_n hC dX2_remove_1 rfl ?_
  refine r_iconst hC dX2_remove_2 rfl ?_
  refine r_iaddE hC ((a + 1)) dX2_remove_3 (by omega) (by unfold inR; omega) ?_
  refine r_iload_n hC dX2_remove_4 rfl ?_
  refine r_aload_n hC dX2_remove_5 rfl ?_
  refine z_getI (jz := 6) hM dX2_remove_6 fl_RX2_48 rfl rfl rfl (fun v1 h_v1 o_v1 t_v1 => ?_)
  have w_v1 := ((t_v1 (Or.inl (by simp [Tb]))).trans (rfl)).symm
  subst w_v1
  have q_v1 : 0 ≤ (σ 7 i 6) ∧ (σ 7 i 6) ≤ 121 := o_v1.1 rfl
  refine r_iload_n hC dX2_remove_9 rfl ?_
  refine r_isubE hC (((σ 7 i 6) - a)) dX2_remove_10 (by omega) (by unfold inR; omega) ?_
  refine r_iconst hC dX2_remove_11 rfl ?_
  refine r_isubE hC ((((σ 7 i 6) - a) - 1)) dX2_remove_12 (by omega) (by unfold inR; omega) ?_
  refine z_inv3 hM dX2_remove_13 vl_RX2_89 rfl rfl rfl (Nat.le_of_ble_eq_true rfl) (Nat.le_of_ble_eq_true rfl) ?_
  refine x_shift (by omega) (by omega) (by omega) (by omega) (by omega) (by omega) ?_
  refine r_aload_n hC dX2_remove_16 rfl ?_
  refine r_dup hC dX2_remove_17 rfl ?_
  refine z_getI (jz := 6) hM dX2_remove_18 fl_RX2_48 rfl rfl rfl (fun v2 h_v2 o_v2 t_v2 => ?_)
  have w_v2 := ((t_v2 (Or.inl (by simp [Tb]))).trans ((cpy_ne (by omega)).trans ((cpy_ne (by omega)).trans ((cpy_ne (by omega)).trans (rfl))))).symm
  subst w_v2
  have q_v2 : 0 ≤ (σ 7 i 6) ∧ (σ 7 i 6) ≤ 121 := o_v2.1 rfl
  refine r_iconst hC dX2_remove_21 rfl ?_
  refine r_isubE hC (((σ 7 i 6) - 1)) dX2_remove_22 (by omega) (by unfold inR; omega) ?_
  refine z_putIT (jz := 6) hM dX2_remove_23 fw_RX2_48 rfl rfl rfl ⟨Or.inl rfl, Or.inr (by simp [DF])⟩ (by first | trivial | (simp only [Okv]; omega) | (simp [Okv]; try omega)) ?_
  refine y_vret hK rfl dX2_remove_26 ?_
  have hm : remM σ i a = (mu (cpy (cpy (cpy σ 8 i (a + 1) 8 i a (((σ 7 i 6) - a) - 1)) 9 i (a + 1) 9 i a (((σ 7 i 6) - a) - 1)) 10 i (a + 1) 10 i a (((σ 7 i 6) - a) - 1)) 7 i 6 ((σ 7 i 6) - 1)) := by rw [remM_eq (by omega)]
  rw [hm] at k
  exact k
theorem hc_gt {f : Int → Int} {t c : Int} (h : 1 ≤ c) (hf : t < f (c - 1)) : hc f t c.toNat = hc f t (c - 1).toNat := by
  rw [show c.toNat = (c - 1).toNat + 1 from by omega]
  show (if f ((c - 1).toNat : Int) ≤ t then (((c - 1).toNat : Nat) : Int) + 1 else hc f t (c - 1).toNat) = _
  rw [show (((c - 1).toNat : Nat) : Int) = c - 1 from by omega, if_neg (by omega)]
theorem hc_le {f : Int → Int} {t c : Int} (h : 1 ≤ c) (hf : f (c - 1) ≤ t) : hc f t c.toNat = c := by
  rw [show c.toNat = (c - 1).toNat + 1 from by omega]
  show (if f ((c - 1).toNat : Int) ≤ t then (((c - 1).toNat : Nat) : Int) + 1 else hc f t (c - 1).toNat) = _
  rw [show (((c - 1).toNat : Nat) : Int) = c - 1 from by omega, if_pos hf]
  omega
theorem hc_0 {f : Int → Int} {t c : Int} (h : c ≤ 0) : hc f t c.toNat = 0 := by
  rw [show c.toNat = 0 from by omega]
  rfl
theorem x_heldUntil {eb ec : Bool} {d : Nat} {P : Option Vl → Mm → Prop} {σ : Mm} {i t : Int} (b_i : 0 ≤ i ∧ i ≤ 6)  (k : 0 ≤ hU σ i t ∧ hU σ i t ≤ σ 7 i 6 → P (some (vI (hU σ i t))) σ) : WT (true, eb, ec) (d + 1) 31 [vR 7 i, vL t] σ P := by
  refine WT_in fun K hK => ?_
  have hK : StpY (true, eb, ec) cX2_heldUntil RX2 (some .int) (WT (true, eb, ec) (d + 0)) P K := hK
  have hM := hK.1
  have hC := hK.1.1
  show K 0 [some (vR 7 i), some (vL t), none, none] [] σ
  refine r_aload_n hC dX2_heldUntil_0 rfl ?_
  refine z_getI (jz := 6) hM dX2_heldUntil_1 fl_RX2_48 rfl rfl rfl (fun v1 h_v1 o_v1 t_v1 => ?_)
  have w_v1 := ((t_v1 (Or.inl (by simp [Tb]))).trans (rfl)).symm
  subst w_v1
  have q_v1 : 0 ≤ (σ 7 i 6) ∧ (σ 7 i 6) ≤ 121 := o_v1.1 rfl
  refine r_istore_n hC dX2_heldUntil_4 rfl ?_
  have L5 : ∀ (n5 : Nat) (w2 : Int), 0 ≤ w2 ∧ w2 ≤ 121 → (hc (σ 8 i) t ((w2)).toNat = hU σ i t) → w2 - 0 < (n5 : Int) → K 5 [some (vR 7 i), some (vL t), none, some (vI w2)] [] σ := by
    intro n5
    induction n5 with
    | zero => intro w2  f_w2 i0_5 hm  ; omega
    | succ n5 ih5 =>
      intro w2  f_w2 i0_5 hm5  
      refine r_iload_n hC dX2_heldUntil_5 rfl ?_
      refine r_if_le (tgt := 29) hC dX2_heldUntil_6 rfl (fun h3 => ?_) (fun h3 => ?_)
      · refine r_iload_n hC dX2_heldUntil_29 rfl ?_
        refine y_iret hK rfl dX2_heldUntil_30 ?_
        have hv : hU σ i t = w2 := by rw [← i0_5]; first | exact hc_le (by omega) (by omega) | (rw [hc_0 (by omega)]; omega)
        have hb := hU_b (V := σ) (i := i) (t := t) (by omega)
        rw [hv] at k hb
        exact k hb
      · refine r_aload_n hC dX2_heldUntil_9 rfl ?_
        refine z_getR hM dX2_heldUntil_10 fl_RX2_15 rfl rfl (vld_of (n := 7) rfl (by omega) (by omega)) ?_
        refine r_iload_n hC dX2_heldUntil_13 rfl ?_
        refine r_iconst hC dX2_heldUntil_14 rfl ?_
        refine r_isubE hC ((w2 - 1)) dX2_heldUntil_15 (by omega) (by unfold inR; omega) ?_
        refine z_iald hM dX2_heldUntil_16 rfl (by omega) (by omega) (fun v4 h_v4 o_v4 t_v4 => ?_)
        have w_v4 := ((t_v4 (Or.inl (by simp [Tb]))).trans (rfl)).symm
        subst w_v4
        refine r_i2l hC dX2_heldUntil_17 ?_
        refine r_lload_n hC dX2_heldUntil_18 rfl ?_
        refine r_lcmp hC dX2_heldUntil_19 ?_
        have f5 := lcmp_f (σ 8 i (w2 - 1)) t
        refine r_if_le (tgt := 29) hC dX2_heldUntil_20 rfl (fun h6 => ?_) (fun h6 => ?_)
        · refine r_iload_n hC dX2_heldUntil_29 rfl ?_
          refine y_iret hK rfl dX2_heldUntil_30 ?_
          have hv : hU σ i t = w2 := by rw [← i0_5]; first | exact hc_le (by omega) (by omega) | (rw [hc_0 (by omega)]; omega)
          have hb := hU_b (V := σ) (i := i) (t := t) (by omega)
          rw [hv] at k hb
          exact k hb
        · refine r_iincE hC ((w2 - 1)) dX2_heldUntil_23 rfl rfl (by omega) (by unfold inR; omega) ?_
          refine r_goto (tgt := 5) hC dX2_heldUntil_26 rfl ?_
          exact ih5 ((w2 - 1))  (by omega) (by first | rfl | (rw [← hc_gt (by omega) (by omega)]; exact i0_5)) (by omega)  
  exact L5 123 ((σ 7 i 6))  (by omega) (by first | rfl | (rw [← hc_gt (by omega) (by omega)]; exact i0_5)) (by omega)  
theorem x_isFull {eb ec : Bool} {d : Nat} {P : Option Vl → Mm → Prop} {σ : Mm} {i : Int} (b_i : 0 ≤ i ∧ i ≤ 6)  (k1 : (fuV σ i) → P (some (vI 1)) σ) (k0 : ¬ (fuV σ i) → P (some (vI 0)) σ) : WT (true, eb, ec) (d + 1) 29 [vR 7 i] σ P := by
  refine WT_in fun K hK => ?_
  have hK : StpY (true, eb, ec) cX2_isFull RX2 (some .boolean) (WT (true, eb, ec) (d + 0)) P K := hK
  have hM := hK.1
  have hC := hK.1.1
  show K 0 [some (vR 7 i)] [] σ
  refine r_aload_n hC dX2_isFull_0 rfl ?_
  refine z_getI (jz := 3) hM dX2_isFull_1 fl_RX2_39 rfl rfl rfl (fun v1 h_v1 o_v1 t_v1 => ?_)
  have w_v1 := ((t_v1 (Or.inl (by simp [Tb]))).trans (rfl)).symm
  subst w_v1
  refine r_iconst hC dX2_isFull_4 rfl ?_
  refine r_icmp_eq (tgt := 21) hC dX2_isFull_5 rfl (fun h2 => ?_) (fun h2 => ?_)
  · refine r_iconst hC dX2_isFull_21 rfl ?_
    refine y_zret hK rfl dX2_isFull_22 (by omega) ?_
    first | exact k1 (by omega) | exact k0 (by omega)
  · refine r_aload_n hC dX2_isFull_8 rfl ?_
    refine z_getI (jz := 6) hM dX2_isFull_9 fl_RX2_48 rfl rfl rfl (fun v3 h_v3 o_v3 t_v3 => ?_)
    have w_v3 := ((t_v3 (Or.inl (by simp [Tb]))).trans (rfl)).symm
    subst w_v3
    have q_v3 : 0 ≤ (σ 7 i 6) ∧ (σ 7 i 6) ≤ 121 := o_v3.1 rfl
    refine r_bipush hC dX2_isFull_12 rfl ?_
    refine r_icmp_lt (tgt := 21) hC dX2_isFull_14 rfl (fun h4 => ?_) (fun h4 => ?_)
    · refine r_iconst hC dX2_isFull_21 rfl ?_
      refine y_zret hK rfl dX2_isFull_22 (by omega) ?_
      first | exact k1 (by omega) | exact k0 (by omega)
    · refine r_iconst hC dX2_isFull_17 rfl ?_
      refine r_goto (tgt := 22) hC dX2_isFull_18 rfl ?_
      refine y_zret hK rfl dX2_isFull_22 (by omega) ?_
      first | exact k1 (by omega) | exact k0 (by omega)
theorem x_isTooLate {eb ec : Bool} {d : Nat} {P : Option Vl → Mm → Prop} {σ : Mm} {i t : Int} (b_i : 0 ≤ i ∧ i ≤ 6)  (k1 : (t < wr (σ 7 i 10 - σ 7 i 5)) → P (some (vI 1)) σ) (k0 : ¬ (t < wr (σ 7 i 10 - σ 7 i 5)) → P (some (vI 0)) σ) : WT (true, eb, ec) (d + 1) 30 [vR 7 i, vI t] σ P := by
  refine WT_in fun K hK => ?_
  have hK : StpY (true, eb, ec) cX2_isTooLate RX2 (some .boolean) (WT (true, eb, ec) (d + 0)) P K := hK
  have hM := hK.1
  have hC := hK.1.1
  show K 0 [some (vR 7 i), some (vI t)] [] σ
  refine r_rngz hC (fun g0 => ?_)
  have r_t : -2147483648 ≤ t ∧ t ≤ 2147483647 := inR_le (g0 (vI t) (by simp))
  refine r_iload_n hC dX2_isTooLate_0 rfl ?_
  refine r_aload_n hC dX2_isTooLate_1 rfl ?_
  refine z_getI (jz := 10) hM dX2_isTooLate_2 fl_RX2_51 rfl rfl rfl (fun v1 h_v1 o_v1 t_v1 => ?_)
  have w_v1 := ((t_v1 (Or.inl (by simp [Tb]))).trans (rfl)).symm
  subst w_v1
  refine r_aload_n hC dX2_isTooLate_5 rfl ?_
  refine z_getI (jz := 5) hM dX2_isTooLate_6 fl_RX2_45 rfl rfl rfl (fun v2 h_v2 o_v2 t_v2 => ?_)
  have w_v2 := ((t_v2 (Or.inl (by simp [Tb]))).trans (rfl)).symm
  subst w_v2
  refine r_isub hC dX2_isTooLate_9 ?_
  have f3 := inR_le (inR_wr ((σ 7 i 10) - (σ 7 i 5)))
  refine r_icmp_ge (tgt := 17) hC dX2_isTooLate_10 rfl (fun h4 => ?_) (fun h4 => ?_)
  · refine r_iconst hC dX2_isTooLate_17 rfl ?_
    refine y_zret hK rfl dX2_isTooLate_18 (by omega) ?_
    first | exact k1 (by omega) | exact k0 (by omega)
  · refine r_iconst hC dX2_isTooLate_13 rfl ?_
    refine r_goto (tgt := 18) hC dX2_isTooLate_14 rfl ?_
    refine y_zret hK rfl dX2_isTooLate_18 (by omega) ?_
    first | exact k1 (by omega) | exact k0 (by omega)
theorem x_goes {eb ec : Bool} {d : Nat} {P : Option Vl → Mm → Prop} {σ : Mm} {i m t z : Int} (b_i : 0 ≤ i ∧ i ≤ 6)  (k1 : ((σ 7 i 3 = 1 ∧ σ 7 i 4 < m) ∨ (σ 7 i 3 = 2 ∧ t ≤ wr (z - σ 7 i 4))) → P (some (vI 1)) σ) (k0 : ¬ ((σ 7 i 3 = 1 ∧ σ 7 i 4 < m) ∨ (σ 7 i 3 = 2 ∧ t ≤ wr (z - σ 7 i 4))) → P (some (vI 0)) σ) : WT (true, eb, ec) (d + 1) 33 [vR 7 i, vI m, vI t, vI z] σ P := by
  refine WT_in fun K hK => ?_
  have hK : StpY (true, eb, ec) cX2_goes RX2 (some .boolean) (WT (true, eb, ec) (d + 0)) P K := hK
  have hM := hK.1
  have hC := hK.1.1
  show K 0 [some (vR 7 i), some (vI m), some (vI t), some (vI z)] [] σ
  refine r_rngz hC (fun g0 => ?_)
  have r_m : -2147483648 ≤ m ∧ m ≤ 2147483647 := inR_le (g0 (vI m) (by simp))
  have r_t : -2147483648 ≤ t ∧ t ≤ 2147483647 := inR_le (g0 (vI t) (by simp))
  have r_z : -2147483648 ≤ z ∧ z ≤ 2147483647 := inR_le (g0 (vI z) (by simp))
  refine r_aload_n hC dX2_goes_0 rfl ?_
  refine z_getI (jz := 3) hM dX2_goes_1 fl_RX2_39 rfl rfl rfl (fun v1 h_v1 o_v1 t_v1 => ?_)
  have w_v1 := ((t_v1 (Or.inl (by simp [Tb]))).trans (rfl)).symm
  subst w_v1
  refine r_iconst hC dX2_goes_4 rfl ?_
  refine r_icmp_ne (tgt := 16) hC dX2_goes_5 rfl (fun h2 => ?_) (fun h2 => ?_)
  · refine r_aload_n hC dX2_goes_16 rfl ?_
    refine z_getI (jz := 3) hM dX2_goes_17 fl_RX2_39 rfl rfl rfl (fun v3 h_v3 o_v3 t_v3 => ?_)
    have w_v3 := ((t_v3 (Or.inl (by simp [Tb]))).trans (rfl)).symm
    subst w_v3
    refine r_iconst hC dX2_goes_20 rfl ?_
    refine r_icmp_ne (tgt := 38) hC dX2_goes_21 rfl (fun h4 => ?_) (fun h4 => ?_)
    · refine r_iconst hC dX2_goes_38 rfl ?_
      refine y_zret hK rfl dX2_goes_39 (by omega) ?_
      first | exact k1 (by omega) | exact k0 (by omega)
    · refine r_iload_n hC dX2_goes_24 rfl ?_
      refine r_iload_n hC dX2_goes_25 rfl ?_
      refine r_aload_n hC dX2_goes_26 rfl ?_
      refine z_getI (jz := 4) hM dX2_goes_27 fl_RX2_42 rfl rfl rfl (fun v5 h_v5 o_v5 t_v5 => ?_)
      have w_v5 := ((t_v5 (Or.inl (by simp [Tb]))).trans (rfl)).symm
      subst w_v5
      refine r_isub hC dX2_goes_30 ?_
      have f6 := inR_le (inR_wr (z - (σ 7 i 4)))
      refine r_icmp_gt (tgt := 38) hC dX2_goes_31 rfl (fun h7 => ?_) (fun h7 => ?_)
      · refine r_iconst hC dX2_goes_38 rfl ?_
        refine y_zret hK rfl dX2_goes_39 (by omega) ?_
        first | exact k1 (by omega) | exact k0 (by omega)
      · refine r_iconst hC dX2_goes_34 rfl ?_
        refine r_goto (tgt := 39) hC dX2_goes_35 rfl ?_
        refine y_zret hK rfl dX2_goes_39 (by omega) ?_
        first | exact k1 (by omega) | exact k0 (by omega)
  · refine r_iload_n hC dX2_goes_8 rfl ?_
    refine r_aload_n hC dX2_goes_9 rfl ?_
    refine z_getI (jz := 4) hM dX2_goes_10 fl_RX2_42 rfl rfl rfl (fun v8 h_v8 o_v8 t_v8 => ?_)
    have w_v8 := ((t_v8 (Or.inl (by simp [Tb]))).trans (rfl)).symm
    subst w_v8
    refine r_icmp_gt (tgt := 34) hC dX2_goes_13 rfl (fun h9 => ?_) (fun h9 => ?_)
    · refine r_iconst hC dX2_goes_34 rfl ?_
      refine r_goto (tgt := 39) hC dX2_goes_35 rfl ?_
      refine y_zret hK rfl dX2_goes_39 (by omega) ?_
      first | exact k1 (by omega) | exact k0 (by omega)
    · refine r_aload_n hC dX2_goes_16 rfl ?_
      refine z_getI (jz := 3) hM dX2_goes_17 fl_RX2_39 rfl rfl rfl (fun v10 h_v10 o_v10 t_v10 => ?_)
      have w_v10 := ((t_v10 (Or.inl (by simp [Tb]))).trans (rfl)).symm
      subst w_v10
      refine r_iconst hC dX2_goes_20 rfl ?_
      refine r_icmp_ne (tgt := 38) hC dX2_goes_21 rfl (fun h11 => ?_) (fun h11 => by omega)
      refine r_iconst hC dX2_goes_38 rfl ?_
      refine y_zret hK rfl dX2_goes_39 (by omega) ?_
      first | exact k1 (by omega) | exact k0 (by omega)
theorem x_startsSession {eb ec : Bool} {d : Nat} {P : Option Vl → Mm → Prop} {σ : Mm} {i x z : Int} (b_i : 0 ≤ i ∧ i ≤ 6) (b_x : 0 ≤ x ∧ x ≤ 120)  (k1 : (x = 0 ∨ wr (σ 8 i x - σ 8 i (x - 1)) > z) → P (some (vI 1)) σ) (k0 : ¬ (x = 0 ∨ wr (σ 8 i x - σ 8 i (x - 1)) > z) → P (some (vI 0)) σ) : WT (true, eb, ec) (d + 1) 32 [vR 7 i, vI x, vI z] σ P := by
  refine WT_in fun K hK => ?_
  have hK : StpY (true, eb, ec) cX2_startsSession RX2 (some .boolean) (WT (true, eb, ec) (d + 0)) P K := hK
  have hM := hK.1
  have hC := hK.1.1
  show K 0 [some (vR 7 i), some (vI x), some (vI z)] [] σ
  refine r_rngz hC (fun g0 => ?_)
  have r_z : -2147483648 ≤ z ∧ z ≤ 2147483647 := inR_le (g0 (vI z) (by simp))
  refine r_iload_n hC dX2_startsSession_0 rfl ?_
  refine r_if_eq (tgt := 23) hC dX2_startsSession_1 rfl (fun h1 => ?_) (fun h1 => ?_)
  · refine r_iconst hC dX2_startsSession_23 rfl ?_
    refine r_goto (tgt := 28) hC dX2_startsSession_24 rfl ?_
    refine y_zret hK rfl dX2_startsSession_28 (by omega) ?_
    first | exact k1 (by omega) | exact k0 (by omega)
  · refine r_aload_n hC dX2_startsSession_4 rfl ?_
    refine z_getR hM dX2_startsSession_5 fl_RX2_15 rfl rfl (vld_of (n := 7) rfl (by omega) (by omega)) ?_
    refine r_iload_n hC dX2_startsSession_8 rfl ?_
    refine z_iald hM dX2_startsSession_9 rfl (by omega) (by omega) (fun v2 h_v2 o_v2 t_v2 => ?_)
    have w_v2 := ((t_v2 (Or.inl (by simp [Tb]))).trans (rfl)).symm
    subst w_v2
    refine r_aload_n hC dX2_startsSession_10 rfl ?_
    refine z_getR hM dX2_startsSession_11 fl_RX2_15 rfl rfl (vld_of (n := 7) rfl (by omega) (by omega)) ?_
    refine r_iload_n hC dX2_startsSession_14 rfl ?_
    refine r_iconst hC dX2_startsSession_15 rfl ?_
    refine r_isubE hC ((x - 1)) dX2_startsSession_16 (by omega) (by unfold inR; omega) ?_
    refine z_iald hM dX2_startsSession_17 rfl (by omega) (by omega) (fun v3 h_v3 o_v3 t_v3 => ?_)
    have w_v3 := ((t_v3 (Or.inl (by simp [Tb]))).trans (rfl)).symm
    subst w_v3
    refine r_isub hC dX2_startsSession_18 ?_
    have f4 := inR_le (inR_wr ((σ 8 i x) - (σ 8 i (x - 1))))
    refine r_iload_n hC dX2_startsSession_19 rfl ?_
    refine r_icmp_le (tgt := 27) hC dX2_startsSession_20 rfl (fun h5 => ?_) (fun h5 => ?_)
    · refine r_iconst hC dX2_startsSession_27 rfl ?_
      refine y_zret hK rfl dX2_startsSession_28 (by omega) ?_
      first | exact k1 (by omega) | exact k0 (by omega)
    · refine r_iconst hC dX2_startsSession_23 rfl ?_
      refine r_goto (tgt := 28) hC dX2_startsSession_24 rfl ?_
      refine y_zret hK rfl dX2_startsSession_28 (by omega) ?_
      first | exact k1 (by omega) | exact k0 (by omega)
