-- B: what the movers come to, in the class's places (V: a memory, i: a LANE)
def su (V : Mm) (k : Nat) (i : Int) (f : Int → Int) : Mm := fun c x y => if c = k ∧ x = i then f y else V c x y
theorem su_ne {V : Mm} {k c : Nat} {i x y : Int} {f : Int → Int} (h : ¬ (c = k ∧ x = i)) : su V k i f c x y = V c x y := if_neg h
theorem su_at {V : Mm} {k : Nat} {i y : Int} {f : Int → Int} : su V k i f k i y = f y := if_pos ⟨rfl, rfl⟩
theorem cpy_ne {τ : Mm} {c0 c1 c : Nat} {i0 i1 sp dp n x y : Int} (h : c ≠ c1) : cpy τ c0 i0 sp c1 i1 dp n c x y = τ c x y := if_neg (fun q => h q.1)
def r7 (a0 a1 a2 a3 a4 a5 a6 : Int) (g : Int → Int) : Int → Int := fun y => if y = 0 then a0 else if y = 1 then a1 else if y = 2 then a2 else if y = 3 then a3 else if y = 4 then a4 else if y = 5 then a5 else if y = 6 then a6 else g y
theorem mu7 {σ : Mm} {k : Nat} {i a0 a1 a2 a3 a4 a5 a6 : Int} {ρ : Mm} (g : Gx (fun c x y => c = k ∧ x = i ∧ 0 ≤ y ∧ y ≤ 6) σ ρ) (h0 : ρ k i 0 = a0) (h1 : ρ k i 1 = a1) (h2 : ρ k i 2 = a2) (h3 : ρ k i 3 = a3) (h4 : ρ k i 4 = a4) (h5 : ρ k i 5 = a5) (h6 : ρ k i 6 = a6) : ρ = su σ k i (r7 a0 a1 a2 a3 a4 a5 a6 (σ k i)) := by
  funext c x y
  by_cases hc : c = k ∧ x = i
  · obtain ⟨rfl, rfl⟩ := hc
    rw [su_at]
    unfold r7
    by_cases e0 : y = 0
    · subst e0; rw [if_pos rfl]; exact h0
    rw [if_neg e0]
    by_cases e1 : y = 1
    · subst e1; rw [if_pos rfl]; exact h1
    rw [if_neg e1]
    by_cases e2 : y = 2
    · subst e2; rw [if_pos rfl]; exact h2
    rw [if_neg e2]
    by_cases e3 : y = 3
    · subst e3; rw [if_pos rfl]; exact h3
    rw [if_neg e3]
    by_cases e4 : y = 4
    · subst e4; rw [if_pos rfl]; exact h4
    rw [if_neg e4]
    by_cases e5 : y = 5
    · subst e5; rw [if_pos rfl]; exact h5
    rw [if_neg e5]
    by_cases e6 : y = 6
    · subst e6; rw [if_pos rfl]; exact h6
    rw [if_neg e6]
    exact g _ _ _ (by omega)
  · rw [su_ne hc]
    exact g _ _ _ (fun q => hc ⟨q.1, q.2.1⟩)
/-- how many are of a time or one ahead of it, seen from the newest -/
def hc (f : Int → Int) (t : Int) : Nat → Int
  | 0 => 0
  | n + 1 => if f n ≤ t then (n : Int) + 1 else hc f t n
def hU (V : Mm) (i t : Int) : Int := hc (V 8 i) t (V 7 i 6).toNat
theorem hc_b (f : Int → Int) (t : Int) : ∀ n : Nat, 0 ≤ hc f t n ∧ hc f t n ≤ n
  | 0 => ⟨Int.le_refl _, Int.le_refl _⟩
  | n + 1 => by
    have ih := hc_b f t n
    show 0 ≤ (if f n ≤ t then (n : Int) + 1 else hc f t n) ∧ (if f n ≤ t then (n : Int) + 1 else hc f t n) ≤ _
    split <;> omega
theorem hU_b {V : Mm} {i t : Int} (h : 0 ≤ V 7 i 6) : 0 ≤ hU V i t ∧ hU V i t ≤ V 7 i 6 := by
  have := hc_b (V 8 i) t (V 7 i 6).toNat
  unfold hU
  omega
-- FRONT, MIDDLE, BACK: the end of a MOVE that took c
def emL (f : Int → Int) : Int := if f 1 = 0 ∧ f 2 > f 0 then f 2 + f 0 else f 3
def emM (f : Int → Int) : Int := if f 1 = 0 ∧ f 2 > f 0 then f 2 else f 1
def emT (c : Int) (f : Int → Int) : Int := (if f 1 = 0 ∧ f 2 > f 0 then c - 1 else c) + min 3 (emL f)
def emR (c : Int) (f : Int → Int) : Int → Int := r7 (if emL f - min 3 (emL f) = 0 then f 0 + emM f else f 0) (if emL f - min 3 (emL f) = 0 then 0 else emM f) (if f 1 = 0 ∧ f 2 > f 0 then 0 else f 2) (emL f - min 3 (emL f)) (emT c f) (wr (f 5 + emT c f)) (max (f 6) (emT c f)) f
def ft (f : Int → Int) (j a : Int) : Int → Int := fun y => if y = j then a else f y
def adR (f : Int → Int) : Int → Int := emR (if f 2 > 0 then 1 else 0) (ft f 2 (f 2 + 1))
def dfR (f : Int → Int) : Int → Int := emR 0 (ft (ft f 0 (f 0 - 1)) 3 (if f 3 > 0 then f 3 - 1 else f 3))
def lyR (h : Int) (f : Int → Int) : Int → Int := r7 h 0 0 0 (max 0 (h - 1)) (wr (f 5 + max 0 (h - 1))) (f 6) f
def zrR (f : Int → Int) : Int → Int := r7 0 0 0 0 0 0 0 f
def adM (V : Mm) (i : Int) : Mm := su V 11 i (adR (V 11 i))
def dfM (V : Mm) (i : Int) : Mm := su V 11 i (dfR (V 11 i))
def lyM (V : Mm) (i h : Int) : Mm := su V 11 i (lyR h (V 11 i))
-- what lies in a row: one more, one less
def insR (f : Int → Int) (a h x : Int) : Int → Int := fun y => if y = a then x else if a < y ∧ y ≤ h then f (y - 1) else f y
def remR (f : Int → Int) (e h : Int) : Int → Int := fun y => if e ≤ y ∧ y < h - 1 then f (y + 1) else f y
def insM (V : Mm) (i a t v : Int) : Mm := fun c x y => if x = i then (if c = 8 then insR (V 8 i) a (V 7 i 6) t y else if c = 9 then insR (V 9 i) a (V 7 i 6) v y else if c = 10 then insR (V 10 i) a (V 7 i 6) (V 7 i 12) y else if c = 7 then (if y = 6 then V 7 i 6 + 1 else if y = 12 then wr (V 7 i 12 + 1) else if y = 10 then max (V 7 i 10) t else if y = 14 then V 7 i 6 - a else V 7 i y) else V c x y) else V c x y
def remM (V : Mm) (i e : Int) : Mm := fun c x y => if x = i then (if c = 8 ∨ c = 9 ∨ c = 10 then remR (V c i) e (V 7 i 6) y else if c = 7 ∧ y = 6 then V 7 i 6 - 1 else V c x y) else V c x y
-- WATCHES
def rch (a b : Int) : Prop := a ≠ NO ∧ b ≤ a
def nmV (V : Mm) (i w : Int) : Int := cm (V 16 0) (V 15 0) (V 7 i 2) (V 9 i) (V 7 i 6).toNat w
def isR (V : Mm) (i w : Int) : Int := if nmV V i (V 12 w 1) ≠ NO ∧ V 12 w 2 ≤ nmV V i (V 12 w 1) then 1 else 0
def rgM (V : Mm) (i : Int) : Mm := fun c w y => if c = 12 ∧ (0 ≤ w ∧ w < 8) ∧ V 12 w 0 = i then (if y = 3 then isR V i w else if y = 4 then (if isR V i w = 1 ∧ V 12 w 3 = 0 then wr (V 12 w 4 + 1) else V 12 w 4) else if y = 5 then (if isR V i w = 1 ∧ V 12 w 3 = 0 then V 7 i 10 else V 12 w 5) else V 12 w y) else V c w y
def dpM (V : Mm) (i : Int) : Mm := rgM (dfM (mu (remM V i 0) 7 i 13 (wr (V 7 i 13 + 1))) i) i
abbrev goV (V : Mm) (i : Int) : Prop := (V 7 i 3 = 1 ∧ V 7 i 4 < V 7 i 6) ∨ (V 7 i 3 = 2 ∧ 0 < V 7 i 6 ∧ V 8 i 0 ≤ wr (V 7 i 10 - V 7 i 4))
def drps (i : Int) : Nat → Mm → Mm
  | 0, V => V
  | n + 1, V => if goV V i then drps i n (dpM V i) else V
def dpN (i : Int) : Nat → Mm → Mm
  | 0, V => V
  | n + 1, V => dpN i n (dpM V i)
def enM (V : Mm) (i t v : Int) : Mm := rgM (if hU V i t = V 7 i 6 then adM (insM V i (hU V i t) t v) i else lyM (insM V i (hU V i t) t v) i (V 7 i 6 + 1)) i
def plM (V : Mm) (i t v : Int) : Mm := drps i (V 7 i 6 + 1).toNat (enM V i t v)
-- LINKS
def ses (T : Int → Int) (g : Int) : Nat → Int
  | 0 => 0
  | n + 1 => if wr (T (n + 1) - T n) > g then (n : Int) + 1 else ses T g n
def gvN (V : Mm) (i : Int) : Int := cm (V 16 0) (V 15 0) (V 7 i 2) (fun j => V 9 i (ses (V 8 i) (V 13 i 1) (V 7 i 6 - 1).toNat + j)) (V 7 i 6 - ses (V 8 i) (V 13 i 1) (V 7 i 6 - 1).toNat).toNat (V 13 i 2)
abbrev fuV (V : Mm) (i : Int) : Prop := V 7 i 3 ≠ 1 ∧ 120 ≤ V 7 i 6
abbrev ltV (V : Mm) (i t : Int) : Prop := t < wr (V 7 i 10 - V 7 i 5)
abbrev gvC (V : Mm) (i t : Int) : Prop := (0 ≤ V 13 i 0 ∧ V 13 i 0 ≤ 3 ∧ V 7 (V 13 i 0) 1 = 1) ∧ 1 ≤ V 7 i 6 ∧ wr (t - V 8 i (V 7 i 6 - 1)) > V 13 i 1 ∧ ¬ fuV V (V 13 i 0) ∧ gvN V i ≠ NO ∧ ¬ ltV V (V 13 i 0) (V 8 i (V 7 i 6 - 1))
def gvM (V : Mm) (i t : Int) : Mm := if gvC V i t then plM (mu V 13 i 3 (wr (V 13 i 3 + 1))) (V 13 i 0) (V 8 i (V 7 i 6 - 1)) (max (-1000) (min 1000 (gvN V i))) else V
def ntM (V : Mm) : Mm := fun c x y => if c = 7 ∧ (0 ≤ x ∧ x ≤ 3) ∧ y = 15 then max (V 7 x 15) (V 7 x 6) else V c x y
theorem lcmp_f (a b : Int) : (-1 ≤ lcmp a b ∧ lcmp a b ≤ 1) ∧ (lcmp a b ≤ 0 ↔ a ≤ b) ∧ (lcmp a b < 0 ↔ a < b) := by
  unfold lcmp
  split
  · omega
  · split <;> omega
theorem mu_row {V : Mm} {k : Nat} {i j a : Int} : mu V k i j a k i = ft (V k i) j a := by
  funext y
  unfold mu ft
  by_cases h : y = j
  · rw [if_pos ⟨rfl, rfl, h⟩, if_pos h]
  · rw [if_neg (fun q => h q.2.2), if_neg h]
theorem su_mu {V : Mm} {k : Nat} {i j a : Int} {f : Int → Int} : su (mu V k i j a) k i f = su V k i f := by
  funext c x y
  unfold su
  by_cases h : c = k ∧ x = i
  · rw [if_pos h, if_pos h]
  · rw [if_neg h, if_neg h, mu_ne (fun q => h ⟨q.1, q.2.1⟩)]
theorem adM_1 {V : Mm} {i : Int} (h : V 11 i 2 > 0) : adM V i = su (mu V 11 i 2 (V 11 i 2 + 1)) 11 i (emR 1 ((mu V 11 i 2 (V 11 i 2 + 1)) 11 i)) := by
  rw [su_mu, mu_row]
  unfold adM adR
  rw [if_pos h]
theorem adM_0 {V : Mm} {i : Int} (h : ¬ V 11 i 2 > 0) : adM V i = su (mu V 11 i 2 (V 11 i 2 + 1)) 11 i (emR 0 ((mu V 11 i 2 (V 11 i 2 + 1)) 11 i)) := by
  rw [su_mu, mu_row]
  unfold adM adR
  rw [if_neg h]
theorem ft_self (f : Int → Int) (j : Int) : ft f j (f j) = f := by
  funext y
  unfold ft
  split
  · rename_i h; rw [h]
  · rfl
theorem dfM_1 {V : Mm} {i : Int} (h : V 11 i 3 > 0) : dfM V i = su (mu (mu V 11 i 0 (V 11 i 0 - 1)) 11 i 3 (V 11 i 3 - 1)) 11 i (emR 0 ((mu (mu V 11 i 0 (V 11 i 0 - 1)) 11 i 3 (V 11 i 3 - 1)) 11 i)) := by
  rw [su_mu, mu_row, su_mu, mu_row]
  unfold dfM dfR
  rw [if_pos h]
theorem dfM_0 {V : Mm} {i : Int} (h : ¬ V 11 i 3 > 0) : dfM V i = su (mu V 11 i 0 (V 11 i 0 - 1)) 11 i (emR 0 ((mu V 11 i 0 (V 11 i 0 - 1)) 11 i)) := by
  rw [su_mu, mu_row]
  unfold dfM dfR
  rw [if_neg h, show V 11 i 3 = ft (V 11 i) 0 (V 11 i 0 - 1) 3 from rfl, ft_self]
theorem cpy_in {τ : Mm} {c0 c1 : Nat} {i0 i1 sp dp n j : Int} (h : dp ≤ j ∧ j < dp + n) : cpy τ c0 i0 sp c1 i1 dp n c1 i1 j = τ c0 i0 (sp + (j - dp)) := if_pos ⟨rfl, rfl, h⟩
theorem cpy_ni {τ : Mm} {c0 c1 c : Nat} {i0 i1 sp dp n x y : Int} (h : ¬ (c = c1 ∧ x = i1)) : cpy τ c0 i0 sp c1 i1 dp n c x y = τ c x y := if_neg (fun q => h ⟨q.1, q.2.1⟩)
theorem insM_eq {V : Mm} {i a t v n w z : Int} (hn : n = V 7 i 6 - a) (ha : 0 ≤ a ∧ a ≤ V 7 i 6) (hw : w = wr (V 7 i 12 + 1)) (hz : z = max (V 7 i 10) t) : insM V i a t v = mu (mu (mu (mu (mu (mu (cpy (cpy (cpy (mu V 7 i 14 n) 8 i a 8 i (a + 1) n) 9 i a 9 i (a + 1) n) 10 i a 10 i (a + 1) n) 8 i a t) 9 i a v) 10 i a (V 7 i 12)) 7 i 6 (V 7 i 6 + 1)) 7 i 12 w) 7 i 10 z := by
  subst hn hw hz
  funext c x y
  by_cases hx : x = i
  · subst hx
    unfold insM
    rw [if_pos rfl]
    by_cases h8 : c = 8
    · subst h8
      rw [if_pos rfl, mu_ne (by omega), mu_ne (by omega), mu_ne (by omega), mu_ne (by omega), mu_ne (by omega)]
      unfold insR
      by_cases e1 : y = a
      · subst e1; rw [if_pos rfl, mu_self]
      · rw [if_neg e1, mu_ne (by omega), cpy_ne (by omega), cpy_ne (by omega)]
        by_cases e2 : a < y ∧ y ≤ V 7 x 6
        · rw [if_pos e2, cpy_in (by omega), show a + (y - (a + 1)) = y - 1 from by omega, mu_ne (by omega)]
        · rw [if_neg e2, cpy_off (by omega), mu_ne (by omega)]
    rw [if_neg h8]
    by_cases h9 : c = 9
    · subst h9
      rw [if_pos rfl, mu_ne (by omega), mu_ne (by omega), mu_ne (by omega), mu_ne (by omega)]
      unfold insR
      by_cases e1 : y = a
      · subst e1; rw [if_pos rfl, mu_self]
      · rw [if_neg e1, mu_ne (by omega), mu_ne (by omega), cpy_ne (by omega)]
        by_cases e2 : a < y ∧ y ≤ V 7 x 6
        · rw [if_pos e2, cpy_in (by omega), show a + (y - (a + 1)) = y - 1 from by omega, cpy_ne (by omega), mu_ne (by omega)]
        · rw [if_neg e2, cpy_off (by omega), cpy_ne (by omega), mu_ne (by omega)]
    rw [if_neg h9]
    by_cases h10 : c = 10
    · subst h10
      rw [if_pos rfl, mu_ne (by omega), mu_ne (by omega), mu_ne (by omega)]
      unfold insR
      by_cases e1 : y = a
      · subst e1; rw [if_pos rfl, mu_self]
      · rw [if_neg e1, mu_ne (by omega), mu_ne (by omega), mu_ne (by omega)]
        by_cases e2 : a < y ∧ y ≤ V 7 x 6
        · rw [if_pos e2, cpy_in (by omega), show a + (y - (a + 1)) = y - 1 from by omega, cpy_ne (by omega), cpy_ne (by omega), mu_ne (by omega)]
        · rw [if_neg e2, cpy_off (by omega), cpy_ne (by omega), cpy_ne (by omega), mu_ne (by omega)]
    rw [if_neg h10]
    by_cases h7 : c = 7
    · subst h7
      rw [if_pos rfl]
      by_cases e6 : y = 6
      · subst e6
        rw [if_pos rfl, mu_ne (by omega), mu_ne (by omega), mu_self]
      rw [if_neg e6]
      by_cases e12 : y = 12
      · subst e12
        rw [if_pos rfl, mu_ne (by omega), mu_self]
      rw [if_neg e12]
      by_cases e10 : y = 10
      · subst e10
        rw [if_pos rfl, mu_self]
      rw [if_neg e10]
      rw [mu_ne (by omega), mu_ne (by omega), mu_ne (by omega), mu_ne (by omega), mu_ne (by omega), mu_ne (by omega), cpy_ne (by omega), cpy_ne (by omega), cpy_ne (by omega)]
      by_cases e14 : y = 14
      · subst e14
        rw [if_pos rfl, mu_self]
      · rw [if_neg e14, mu_ne (by omega)]
    · rw [if_neg h7, mu_ne (by omega), mu_ne (by omega), mu_ne (by omega), mu_ne (by omega), mu_ne (by omega), mu_ne (by omega), cpy_ne (by omega), cpy_ne (by omega), cpy_ne (by omega), mu_ne (by omega)]
  · unfold insM
    rw [if_neg hx, mu_ne (by omega), mu_ne (by omega), mu_ne (by omega), mu_ne (by omega), mu_ne (by omega), mu_ne (by omega)]
    rw [cpy_ni (by omega), cpy_ni (by omega), cpy_ni (by omega), mu_ne (by omega)]
theorem remM_eq {V : Mm} {i a : Int} (ha : 0 ≤ a ∧ a < V 7 i 6) : remM V i a = mu (cpy (cpy (cpy V 8 i (a + 1) 8 i a (V 7 i 6 - a - 1)) 9 i (a + 1) 9 i a (V 7 i 6 - a - 1)) 10 i (a + 1) 10 i a (V 7 i 6 - a - 1)) 7 i 6 (V 7 i 6 - 1) := by
  funext c x y
  unfold remM
  by_cases hx : x = i
  · subst hx
    rw [if_pos rfl]
    by_cases h : c = 8 ∨ c = 9 ∨ c = 10
    · rw [if_pos h, mu_ne (by omega)]
      unfold remR
      by_cases e : a ≤ y ∧ y < V 7 x 6 - 1
      · rw [if_pos e]
        rcases h with rfl | rfl | rfl
        · rw [cpy_ne (by omega), cpy_ne (by omega), cpy_in (by omega), show a + 1 + (y - a) = y + 1 from by omega]
        · rw [cpy_ne (by omega), cpy_in (by omega), show a + 1 + (y - a) = y + 1 from by omega, cpy_ne (by omega)]
        · rw [cpy_in (by omega), show a + 1 + (y - a) = y + 1 from by omega, cpy_ne (by omega), cpy_ne (by omega)]
      · rw [if_neg e]
        rcases h with rfl | rfl | rfl
        · rw [cpy_ne (by omega), cpy_ne (by omega), cpy_off (by omega)]
        · rw [cpy_ne (by omega), cpy_off (by omega), cpy_ne (by omega)]
        · rw [cpy_off (by omega), cpy_ne (by omega), cpy_ne (by omega)]
    · rw [if_neg h]
      by_cases e : c = 7 ∧ y = 6
      · obtain ⟨rfl, rfl⟩ := e
        rw [if_pos ⟨rfl, rfl⟩, mu_self]
      · rw [if_neg e, mu_ne (by omega), cpy_ne (by omega), cpy_ne (by omega), cpy_ne (by omega)]
  · rw [if_neg hx, mu_ne (by omega), cpy_ni (by omega), cpy_ni (by omega), cpy_ni (by omega)]
theorem insM_ne {V : Mm} {i a t v x y : Int} {c : Nat} (h : ¬ (x = i ∧ (c = 8 ∨ c = 9 ∨ c = 10 ∨ (c = 7 ∧ (y = 6 ∨ y = 12 ∨ y = 10 ∨ y = 14))))) : insM V i a t v c x y = V c x y := by
  unfold insM
  by_cases hx : x = i
  · subst hx
    rw [if_pos rfl, if_neg (by omega), if_neg (by omega), if_neg (by omega)]
    split
    · rename_i h7
      subst h7
      rw [if_neg (by omega), if_neg (by omega), if_neg (by omega), if_neg (by omega)]
    · rfl
  · rw [if_neg hx]
theorem insM_6 {V : Mm} {i a t v : Int} : insM V i a t v 7 i 6 = V 7 i 6 + 1 := by
  unfold insM
  rw [if_pos rfl, if_neg (by omega), if_neg (by omega), if_neg (by omega), if_pos rfl, if_pos rfl]
theorem remM_ne {V : Mm} {i a x y : Int} {c : Nat} (h : ¬ (x = i ∧ (c = 8 ∨ c = 9 ∨ c = 10 ∨ (c = 7 ∧ y = 6)))) : remM V i a c x y = V c x y := by
  unfold remM
  by_cases hx : x = i
  · subst hx
    rw [if_pos rfl, if_neg (by omega), if_neg (by omega)]
  · rw [if_neg hx]
theorem remM_6 {V : Mm} {i a : Int} : remM V i a 7 i 6 = V 7 i 6 - 1 := by
  unfold remM
  rw [if_pos rfl, if_neg (by omega), if_pos ⟨rfl, rfl⟩]
theorem rgM_ne {V : Mm} {i w y : Int} {c : Nat} (h : ¬ (c = 12 ∧ 3 ≤ y ∧ y ≤ 5)) : rgM V i c w y = V c w y := by
  unfold rgM
  split
  · rename_i q
    rw [if_neg (by omega), if_neg (by omega), if_neg (by omega), q.1]
  · rfl
theorem adM_ne {V : Mm} {i x y : Int} {c : Nat} (h : ¬ (c = 11 ∧ x = i)) : adM V i c x y = V c x y := su_ne h
theorem dfM_ne {V : Mm} {i x y : Int} {c : Nat} (h : ¬ (c = 11 ∧ x = i)) : dfM V i c x y = V c x y := su_ne h
theorem lyM_ne {V : Mm} {i hh x y : Int} {c : Nat} (h : ¬ (c = 11 ∧ x = i)) : lyM V i hh c x y = V c x y := su_ne h
theorem dpM_ne {V : Mm} {i x y : Int} {c : Nat} (h : ¬ (c = 12 ∧ 3 ≤ y ∧ y ≤ 5) ∧ ¬ (c = 11 ∧ x = i) ∧ ¬ (x = i ∧ (c = 8 ∨ c = 9 ∨ c = 10 ∨ (c = 7 ∧ (y = 6 ∨ y = 13))))) : dpM V i c x y = V c x y := by
  unfold dpM
  rw [rgM_ne h.1, dfM_ne h.2.1, mu_ne (by omega), remM_ne (by omega)]
theorem dpM_6 {V : Mm} {i : Int} : dpM V i 7 i 6 = V 7 i 6 - 1 := by
  unfold dpM
  rw [rgM_ne (by omega), dfM_ne (by omega), mu_ne (by omega), remM_6]
theorem r7_0 {a0 a1 a2 a3 a4 a5 a6 : Int} {g : Int → Int} : r7 a0 a1 a2 a3 a4 a5 a6 g 0 = a0 := if_pos rfl
theorem r7_1 {a0 a1 a2 a3 a4 a5 a6 : Int} {g : Int → Int} : r7 a0 a1 a2 a3 a4 a5 a6 g 1 = a1 := (if_neg (by decide)).trans (if_pos rfl)
theorem r7_2 {a0 a1 a2 a3 a4 a5 a6 : Int} {g : Int → Int} : r7 a0 a1 a2 a3 a4 a5 a6 g 2 = a2 := (if_neg (by decide)).trans ((if_neg (by decide)).trans (if_pos rfl))
theorem r7_3 {a0 a1 a2 a3 a4 a5 a6 : Int} {g : Int → Int} : r7 a0 a1 a2 a3 a4 a5 a6 g 3 = a3 := (if_neg (by decide)).trans ((if_neg (by decide)).trans ((if_neg (by decide)).trans (if_pos rfl)))
/-- what FRONT, MIDDLE, BACK and the STEPS left keep, h being held -/
def FI (f : Int → Int) (h : Int) : Prop := (0 ≤ f 0 ∧ 0 ≤ f 1 ∧ 0 ≤ f 2 ∧ 0 ≤ f 3) ∧ f 0 + f 1 + f 2 = h ∧ (f 3 = 0 ↔ f 1 = 0) ∧ (f 3 = 0 ∨ f 3 ≤ 2 * f 0 - 2) ∧ 3 * f 2 + f 3 ≤ 3 * (f 0 + f 1) ∧ (f 1 ≠ 0 ∨ f 2 ≤ f 0)
theorem FI_ad {f : Int → Int} {h : Int} (p : FI f h) : FI (adR f) (h + 1) := by
  have a0 : ft f 2 (f 2 + 1) 0 = f 0 := if_neg (by decide)
  have a1 : ft f 2 (f 2 + 1) 1 = f 1 := if_neg (by decide)
  have a2 : ft f 2 (f 2 + 1) 2 = f 2 + 1 := if_pos rfl
  have a3 : ft f 2 (f 2 + 1) 3 = f 3 := if_neg (by decide)
  unfold FI at p
  unfold FI adR emR
  rw [r7_0, r7_1, r7_2, r7_3]
  simp only [emL, emM, a0, a1, a2, a3]
  by_cases hb : f 1 = 0 ∧ f 2 + 1 > f 0
  · simp only [if_pos hb]
    by_cases hz : f 2 + 1 + f 0 - min 3 (f 2 + 1 + f 0) = 0
    · simp only [if_pos hz, if_pos hb, emM, a0, a1, a2, a3, iff_true]; omega
    · simp only [if_neg hz, a0, a1, a2, a3]; omega
  · simp only [if_neg hb]
    by_cases hz : f 3 - min 3 (f 3) = 0
    · simp only [if_pos hz, if_neg hb, emM, a0, a1, a2, a3, iff_true]; omega
    · simp only [if_neg hz, a0, a1, a2, a3]; omega
theorem FI_df {f : Int → Int} {h : Int} (p : FI f h) (h1 : 1 ≤ h) : FI (dfR f) (h - 1) := by
  have a0 : ft (ft f 0 (f 0 - 1)) 3 (if f 3 > 0 then f 3 - 1 else f 3) 0 = f 0 - 1 := (if_neg (by decide)).trans (if_pos rfl)
  have a1 : ft (ft f 0 (f 0 - 1)) 3 (if f 3 > 0 then f 3 - 1 else f 3) 1 = f 1 := (if_neg (by decide)).trans (if_neg (by decide))
  have a2 : ft (ft f 0 (f 0 - 1)) 3 (if f 3 > 0 then f 3 - 1 else f 3) 2 = f 2 := (if_neg (by decide)).trans (if_neg (by decide))
  have a3 : ft (ft f 0 (f 0 - 1)) 3 (if f 3 > 0 then f 3 - 1 else f 3) 3 = (if f 3 > 0 then f 3 - 1 else f 3) := if_pos rfl
  unfold FI at p
  unfold FI dfR emR
  rw [r7_0, r7_1, r7_2, r7_3]
  simp only [emL, emM, a0, a1, a2, a3]
  by_cases hb : f 1 = 0 ∧ f 2 > f 0 - 1
  · simp only [if_pos hb]
    by_cases hz : f 2 + (f 0 - 1) - min 3 (f 2 + (f 0 - 1)) = 0
    · simp only [if_pos hz, if_pos hb, emM, a0, a1, a2, a3, iff_true]; omega
    · simp only [if_neg hz, a0, a1, a2, a3]; omega
  · simp only [if_neg hb]
    by_cases hl : f 3 > 0
    · simp only [if_pos hl]
      by_cases hz : f 3 - 1 - min 3 (f 3 - 1) = 0
      · simp only [if_pos hz, if_neg hb, emM, a0, a1, a2, a3, iff_true]; omega
      · simp only [if_neg hz, a0, a1, a2, a3]; omega
    · simp only [if_neg hl]
      by_cases hz : f 3 - min 3 (f 3) = 0
      · simp only [if_pos hz, if_neg hb, emM, a0, a1, a2, a3, iff_true]; omega
      · simp only [if_neg hz, a0, a1, a2, a3]; omega
theorem FI_ly {f : Int → Int} {h : Int} (h0 : 0 ≤ h) : FI (lyR h f) h := by
  unfold FI lyR
  rw [r7_0, r7_1, r7_2, r7_3]
  omega
/-- a LANE on its way: number, what its FLIP keeps -/
def LI (V : Mm) (i : Int) : Prop := V 7 i 0 = i ∧ FI (V 11 i) (V 7 i 6) ∧ 0 ≤ V 7 i 6
def WI (V : Mm) : Prop := ∀ w : Int, 0 ≤ w → w < 8 → V 12 w 3 = 0 ∨ V 12 w 3 = 1
theorem isR_01 (V : Mm) (i w : Int) : isR V i w = 0 ∨ isR V i w = 1 := by
  unfold isR
  split
  · exact Or.inr rfl
  · exact Or.inl rfl
theorem WI.rg {V : Mm} (h : WI V) (i : Int) : WI (rgM V i) := fun w h0 h1 => by
  unfold rgM
  split
  · rw [if_pos rfl]
    exact isR_01 V i w
  · exact h w h0 h1
theorem WI.to {V W : Mm} (h : WI V) (e : ∀ w y : Int, W 12 w y = V 12 w y) : WI W := fun w h0 h1 => by rw [e]; exact h w h0 h1
theorem LI.rg {V : Mm} {i j : Int} (h : LI V i) : LI (rgM V j) i := by
  unfold LI
  rw [rgM_ne (by omega), rgM_ne (by omega), show (rgM V j) 11 i = V 11 i from funext fun y => rgM_ne (by omega)]
  exact h
theorem LI.dp {V : Mm} {i : Int} (h : LI V i) (h1 : 1 ≤ V 7 i 6) : LI (dpM V i) i := by
  refine LI.rg ?_
  refine ⟨?_, ?_, ?_⟩
  · rw [dfM_ne (by omega), mu_ne (by omega), remM_ne (by omega)]; exact h.1
  · rw [dfM_ne (by omega), mu_ne (by omega), remM_6, show dfM (mu (remM V i 0) 7 i 13 (wr (V 7 i 13 + 1))) i 11 i = dfR (V 11 i) from funext fun y => by
      unfold dfM
      rw [su_at, show (mu (remM V i 0) 7 i 13 (wr (V 7 i 13 + 1))) 11 i = V 11 i from funext fun z => (mu_ne (by omega)).trans (remM_ne (by omega))]]
    exact FI_df h.2.1 h1
  · rw [dfM_ne (by omega), mu_ne (by omega), remM_6]; omega
theorem WI.dp {V : Mm} (h : WI V) (i : Int) : WI (dpM V i) := WI.rg (WI.to h fun w y => (dfM_ne (by omega)).trans ((mu_ne (by omega)).trans (remM_ne (by omega)))) i

theorem drps_yes {i : Int} {n : Nat} {V : Mm} (h : goV V i) : drps i (n + 1) V = drps i n (dpM V i) := if_pos h
theorem drps_no {i : Int} {n : Nat} {V : Mm} (h : ¬ goV V i) : drps i n V = V := by
  cases n with
  | zero => rfl
  | succ n => exact if_neg h
-- rings, one WATCH after another
def rgK (V : Mm) (i n : Int) : Mm := fun c w y => if c = 12 ∧ (0 ≤ w ∧ w < n) ∧ V 12 w 0 = i then (if y = 3 then isR V i w else if y = 4 then (if isR V i w = 1 ∧ V 12 w 3 = 0 then wr (V 12 w 4 + 1) else V 12 w 4) else if y = 5 then (if isR V i w = 1 ∧ V 12 w 3 = 0 then V 7 i 10 else V 12 w 5) else V 12 w y) else V c w y
def noM (V : Mm) (w z t : Int) : Mm := fun c x y => if c = 12 ∧ x = w then (if y = 3 then z else if y = 4 then (if z = 1 ∧ V 12 w 3 = 0 then wr (V 12 w 4 + 1) else V 12 w 4) else if y = 5 then (if z = 1 ∧ V 12 w 3 = 0 then t else V 12 w 5) else V 12 w y) else V c x y
theorem noM_ne {V : Mm} {w z t x y : Int} {c : Nat} (h : ¬ (c = 12 ∧ x = w ∧ 3 ≤ y ∧ y ≤ 5)) : noM V w z t c x y = V c x y := by
  unfold noM
  split
  · rename_i q
    rw [if_neg (by omega), if_neg (by omega), if_neg (by omega), q.1, q.2]
  · rfl
theorem rgK_8 {V : Mm} {i n : Int} (h : n = 8) : rgK V i n = rgM V i := by
  subst h
  rfl
theorem rgK_0 {V : Mm} {i n : Int} (h : n = 0) (c : Nat) (x y : Int) : rgK V i n c x y = V c x y := if_neg (by omega)
theorem rgK_lo {V : Mm} {i n w y : Int} (h : y < 3) : rgK V i n 12 w y = V 12 w y := by
  unfold rgK
  split
  · rw [if_neg (by omega), if_neg (by omega), if_neg (by omega)]
  · rfl
theorem rgK_up {V : Mm} {i n w y : Int} (h : n ≤ w) : rgK V i n 12 w y = V 12 w y := if_neg (by omega)
theorem rgK_no {V : Mm} {i w : Int} (h : V 12 w 0 ≠ i) (c : Nat) (x y : Int) : rgK V i (w + 1) c x y = rgK V i w c x y := by
  unfold rgK
  by_cases hx : x = w
  · subst hx
    rw [if_neg (fun q => h q.2.2), if_neg (fun q => h q.2.2)]
  · by_cases hq : c = 12 ∧ (0 ≤ x ∧ x < w) ∧ V 12 x 0 = i
    · rw [if_pos ⟨hq.1, ⟨hq.2.1.1, by omega⟩, hq.2.2⟩, if_pos hq]
    · rw [if_neg hq, if_neg (fun q => hq ⟨q.1, ⟨q.2.1.1, by omega⟩, q.2.2⟩)]
theorem rgK_yes {V ρ : Mm} {i w z t : Int} (h0 : 0 ≤ w) (h : V 12 w 0 = i) (he : ∀ x y : Int, ρ 12 x y = rgK V i w 12 x y) (hz : z = isR V i w) (ht : t = V 7 i 10) (x y : Int) : noM ρ w z t 12 x y = rgK V i (w + 1) 12 x y := by
  subst hz ht
  by_cases hx : x = w
  · subst hx
    have e1 : noM ρ x (isR V i x) (V 7 i 10) 12 x y = (if y = 3 then isR V i x else if y = 4 then (if isR V i x = 1 ∧ ρ 12 x 3 = 0 then wr (ρ 12 x 4 + 1) else ρ 12 x 4) else if y = 5 then (if isR V i x = 1 ∧ ρ 12 x 3 = 0 then V 7 i 10 else ρ 12 x 5) else ρ 12 x y) := if_pos ⟨rfl, rfl⟩
    have e2 : rgK V i (x + 1) 12 x y = (if y = 3 then isR V i x else if y = 4 then (if isR V i x = 1 ∧ V 12 x 3 = 0 then wr (V 12 x 4 + 1) else V 12 x 4) else if y = 5 then (if isR V i x = 1 ∧ V 12 x 3 = 0 then V 7 i 10 else V 12 x 5) else V 12 x y) := if_pos ⟨rfl, ⟨h0, by omega⟩, h⟩
    rw [e1, e2, he x 3, he x 4, he x 5, he x y, rgK_up (by omega), rgK_up (by omega), rgK_up (by omega), rgK_up (by omega)]
  · rw [noM_ne (fun q => hx q.2.1), he]
    by_cases hq : (0 ≤ x ∧ x < w) ∧ V 12 x 0 = i
    · exact (if_pos ⟨rfl, hq⟩ : rgK V i w 12 x y = _).trans (if_pos ⟨rfl, ⟨hq.1.1, by omega⟩, hq.2⟩ : rgK V i (w + 1) 12 x y = _).symm
    · exact (if_neg (fun q => hq q.2) : rgK V i w 12 x y = _).trans (if_neg (fun q => hq ⟨⟨q.2.1.1, by omega⟩, q.2.2⟩) : rgK V i (w + 1) 12 x y = _).symm
theorem rgM_id {V : Mm} {i : Int} (h : ∀ w : Int, 0 ≤ w → w < 8 → V 12 w 0 ≠ i) : rgM V i = V := by
  funext c w y
  unfold rgM
  exact if_neg (fun q => h w q.2.1.1 q.2.1.2 q.2.2)
theorem isR_c {V W : Mm} {i w : Int} (h16 : W 16 0 = V 16 0) (h15 : W 15 0 = V 15 0) (h7 : W 7 i 2 = V 7 i 2) (h9 : W 9 i = V 9 i) (h6 : W 7 i 6 = V 7 i 6) (h12 : ∀ y : Int, W 12 w y = V 12 w y) : isR W i w = isR V i w := by
  unfold isR nmV
  rw [h16, h15, h7, h9, h6, h12 1, h12 2]
theorem rgM_c {V W : Mm} {i x y : Int} {c : Nat} (h16 : W 16 0 = V 16 0) (h15 : W 15 0 = V 15 0) (h7 : W 7 i 2 = V 7 i 2) (h9 : W 9 i = V 9 i) (h6 : W 7 i 6 = V 7 i 6) (h10 : W 7 i 10 = V 7 i 10) (h12 : ∀ w y : Int, W 12 w y = V 12 w y) (hc : W c x y = V c x y) : rgM W i c x y = rgM V i c x y := by
  unfold rgM
  rw [isR_c h16 h15 h7 h9 h6 (h12 x), h12 x 0, h12 x 3, h12 x 4, h12 x 5, h12 x y, h10, hc]
theorem ntM_eq {V : Mm} : ntM V = mu (mu (mu (mu V 7 0 15 (max (V 7 0 15) (V 7 0 6))) 7 1 15 (max (V 7 1 15) (V 7 1 6))) 7 2 15 (max (V 7 2 15) (V 7 2 6))) 7 3 15 (max (V 7 3 15) (V 7 3 6)) := by
  funext c x y
  unfold ntM mu
  by_cases h : c = 7 ∧ (0 ≤ x ∧ x ≤ 3) ∧ y = 15
  · obtain ⟨rfl, hx, rfl⟩ := h
    rw [if_pos ⟨rfl, hx, rfl⟩]
    rcases (by omega : x = 0 ∨ x = 1 ∨ x = 2 ∨ x = 3) with rfl | rfl | rfl | rfl
    · rw [if_neg (by omega), if_neg (by omega), if_neg (by omega), if_pos ⟨rfl, rfl, rfl⟩]
    · rw [if_neg (by omega), if_neg (by omega), if_pos ⟨rfl, rfl, rfl⟩]
    · rw [if_neg (by omega), if_pos ⟨rfl, rfl, rfl⟩]
    · rw [if_pos ⟨rfl, rfl, rfl⟩]
  · rw [if_neg h, if_neg (by omega), if_neg (by omega), if_neg (by omega), if_neg (by omega)]
-- a LANE's own places: what a call on another LANE leaves
def own (c : Nat) (y : Int) : Prop := ¬ (c = 12 ∧ 3 ≤ y ∧ y ≤ 5)
theorem enM_ne {V : Mm} {i t v x y : Int} {c : Nat} (h : x ≠ i) (ho : own c y) : enM V i t v c x y = V c x y := by
  unfold enM
  rw [rgM_ne ho]
  split
  · rw [adM_ne (fun q => h q.2), insM_ne (fun q => h q.1)]
  · rw [lyM_ne (fun q => h q.2), insM_ne (fun q => h q.1)]
theorem drps_ne {i x y : Int} {c : Nat} (h : x ≠ i) (ho : own c y) : ∀ (n : Nat) (V : Mm), drps i n V c x y = V c x y
  | 0, _ => rfl
  | n + 1, V => by
    show (if goV V i then drps i n (dpM V i) else V) c x y = V c x y
    split
    · rw [drps_ne h ho n, dpM_ne ⟨ho, fun q => h q.2, fun q => h q.1⟩]
    · rfl
theorem plM_ne {V : Mm} {i t v x y : Int} {c : Nat} (h : x ≠ i) (ho : own c y) : plM V i t v c x y = V c x y := by
  unfold plM
  rw [drps_ne h ho, enM_ne h ho]
theorem gvM_ne {V : Mm} {i t x y : Int} {c : Nat} (h : x ≠ V 13 i 0) (ho : own c y) (h13 : ¬ (c = 13 ∧ x = i ∧ y = 3)) : gvM V i t c x y = V c x y := by
  unfold gvM
  split
  · rw [plM_ne h ho, mu_ne h13]
  · rfl
theorem LI.to {V W : Mm} {i : Int} (h : LI V i) (h0 : W 7 i 0 = V 7 i 0) (h6 : W 7 i 6 = V 7 i 6) (h11 : ∀ y : Int, W 11 i y = V 11 i y) : LI W i := by
  unfold LI
  rw [h0, h6, show W 11 i = V 11 i from funext h11]
  exact h
theorem LI.en {V : Mm} {i t v : Int} (h : LI V i) : LI (enM V i t v) i := by
  refine LI.rg ?_
  split
  · refine ⟨?_, ?_, ?_⟩
    · rw [adM_ne (by omega), insM_ne (by omega)]; exact h.1
    · rw [adM_ne (by omega), insM_6, show adM (insM V i (hU V i t) t v) i 11 i = adR (V 11 i) from funext fun y => by
        unfold adM
        rw [su_at, show (insM V i (hU V i t) t v) 11 i = V 11 i from funext fun z => insM_ne (by omega)]]
      exact FI_ad h.2.1
    · rw [adM_ne (by omega), insM_6]; have := h.2.2; omega
  · refine ⟨?_, ?_, ?_⟩
    · rw [lyM_ne (by omega), insM_ne (by omega)]; exact h.1
    · rw [lyM_ne (by omega), insM_6, show lyM (insM V i (hU V i t) t v) i (V 7 i 6 + 1) 11 i = lyR (V 7 i 6 + 1) (V 11 i) from funext fun y => by
        unfold lyM
        rw [su_at, show (insM V i (hU V i t) t v) 11 i = V 11 i from funext fun z => insM_ne (by omega)]]
      exact FI_ly (by have := h.2.2; omega)
    · rw [lyM_ne (by omega), insM_6]; have := h.2.2; omega
theorem LI_drps {i : Int} : ∀ (n : Nat) {V : Mm}, LI V i → V 7 i 3 = 1 ∧ 0 ≤ V 7 i 4 ∨ V 7 i 3 ≠ 1 → LI (drps i n V) i
  | 0, _, h, _ => h
  | n + 1, V, h, hz => by
    show LI (if goV V i then drps i n (dpM V i) else V) i
    split
    · rename_i hg
      refine LI_drps n (h.dp ?_) ?_
      · rcases hg with q | q
        · omega
        · omega
      · rw [dpM_ne (by omega), dpM_ne (by omega)]; exact hz
    · exact h
theorem LI.pl {V : Mm} {i t v : Int} (h : LI V i) (hz : V 7 i 3 = 1 ∧ 0 ≤ V 7 i 4 ∨ V 7 i 3 ≠ 1) : LI (plM V i t v) i := by
  refine LI_drps _ h.en ?_
  have e : ∀ y : Int, y = 3 ∨ y = 4 → enM V i t v 7 i y = V 7 i y := fun y hy => by
    unfold enM
    rw [rgM_ne (by omega)]
    split
    · rw [adM_ne (by omega), insM_ne (by omega)]
    · rw [lyM_ne (by omega), insM_ne (by omega)]
  rw [e 3 (Or.inl rfl), e 4 (Or.inr rfl)]
  exact hz
-- B: the class's movers
theorem x_endMove {eb ec : Bool} {d : Nat} {P : Option Vl → Mm → Prop} {σ : Mm} {i c f m b l q s o : Int} (b_i : 0 ≤ i ∧ i ≤ 7) (b_c : 0 ≤ c ∧ c ≤ 1) (b_f : -1 ≤ f ∧ f ≤ 121) (qg0 : σ 11 i 0 = f) (b_m : 0 ≤ m ∧ m ≤ 121) (qg1 : σ 11 i 1 = m) (b_b : 0 ≤ b ∧ b ≤ 122) (qg2 : σ 11 i 2 = b) (b_l : 0 ≤ l ∧ l ≤ 242) (qg3 : σ 11 i 3 = l) (qg4 : σ 11 i 4 = q) (qg5 : σ 11 i 5 = s) (qg6 : σ 11 i 6 = o)  (k : ∀ ρ : Mm, Gx (fun c x y => c = 11 ∧ x = i ∧ 0 ≤ y ∧ y ≤ 6) σ ρ → ρ 11 i 0 = (if (if m = 0 ∧ b > f then b + f else l) - min 3 (if m = 0 ∧ b > f then b + f else l) = 0 then f + (if m = 0 ∧ b > f then b else m) else f) → ρ 11 i 1 = (if (if m = 0 ∧ b > f then b + f else l) - min 3 (if m = 0 ∧ b > f then b + f else l) = 0 then 0 else (if m = 0 ∧ b > f then b else m)) → ρ 11 i 2 = (if m = 0 ∧ b > f then 0 else b) → ρ 11 i 3 = ((if m = 0 ∧ b > f then b + f else l) - min 3 (if m = 0 ∧ b > f then b + f else l)) → ρ 11 i 4 = (((if m = 0 ∧ b > f then c - 1 else c) + min 3 (if m = 0 ∧ b > f then b + f else l))) → ρ 11 i 5 = (wr (s + ((if m = 0 ∧ b > f then c - 1 else c) + min 3 (if m = 0 ∧ b > f then b + f else l)))) → ρ 11 i 6 = (max o ((if m = 0 ∧ b > f then c - 1 else c) + min 3 (if m = 0 ∧ b > f then b + f else l))) → P none ρ) : WT (true, eb, ec) (d + 2) 6 [vR 11 i, vI c] σ P := by
  refine WT_in fun K hK => ?_
  have hK : StpY (true, eb, ec) cX0_endMove RX0 (none) (WT (true, eb, ec) (d + 1)) P K := hK
  have hM := hK.1
  have hC := hK.1.1
  show K 0 [some (vR 11 i), some (vI c), none, none] [] σ
  refine r_iload_n hC dX0_endMove_0 rfl ?_
  refine r_istore_n hC dX0_endMove_1 rfl ?_
  refine r_aload_n hC dX0_endMove_2 rfl ?_
  refine z_getI (jz := 1) hM dX0_endMove_3 fl_RX0_15 rfl rfl rfl (fun v1 h_v1 o_v1 t_v1 => ?_)
  have e_v1 : m = v1 := ((t_v1 ((Or.inl (by first | exact trivial | exact tb7_ (by decide) | simp [Tb])))).trans qg1).symm
  clear t_v1
  subst e_v1
  refine r_if_ne (tgt := 49) hC dX0_endMove_6 rfl (fun h2 => ?_) (fun h2 => ?_)
  · refine r_iconst hC dX0_endMove_49 rfl ?_
    refine r_aload_n hC dX0_endMove_50 rfl ?_
    refine z_getI (jz := 3) hM dX0_endMove_51 fl_RX0_21 rfl rfl rfl (fun v3 h_v3 o_v3 t_v3 => ?_)
    have e_v3 : l = v3 := ((t_v3 ((Or.inl (by first | exact trivial | exact tb7_ (by decide) | simp [Tb])))).trans qg3).symm
    clear t_v3
    subst e_v3
    refine z_ins2 hM dX0_endMove_54 tl_RX0_43 rfl (Nat.le_of_ble_eq_true rfl) (Nat.le_of_ble_eq_true rfl) ?_
    refine x_min (fun v4 h_v4 => ?_)
    refine r_istore_n hC dX0_endMove_57 rfl ?_
    refine r_aload_n hC dX0_endMove_58 rfl ?_
    refine r_dup hC dX0_endMove_59 rfl ?_
    refine z_getI (jz := 3) hM dX0_endMove_60 fl_RX0_21 rfl rfl rfl (fun v5 h_v5 o_v5 t_v5 => ?_)
    have e_v5 : l = v5 := ((t_v5 ((Or.inl (by first | exact trivial | exact tb7_ (by decide) | simp [Tb])))).trans qg3).symm
    clear t_v5
    subst e_v5
    refine r_iload_n hC dX0_endMove_63 rfl ?_
    refine r_isubE hC ((l - v4)) dX0_endMove_64 (by omega) (by unfold inR; omega) ?_
    refine z_putIG (jz := 3) hM dX0_endMove_65 fw_RX0_21 rfl rfl rfl ⟨Or.inr (by first | exact id | exact dl7_ (by decide) | simp [DL]), Or.inr (by first | exact id | exact df14_ (by decide) | simp [DF])⟩ (by first | trivial | (simp only [Okv]; omega) | (simp [Okv]; try omega)) (fun ρ6 a_ρ6 q_ρ6 => ?_)
    refine r_iload_n hC dX0_endMove_68 rfl ?_
    refine r_iload_n hC dX0_endMove_69 rfl ?_
    refine r_iaddE hC ((c + v4)) dX0_endMove_70 (by omega) (by unfold inR; omega) ?_
    refine r_istore_n hC dX0_endMove_71 rfl ?_
    refine r_aload_n hC dX0_endMove_72 rfl ?_
    refine z_getI (jz := 3) hM dX0_endMove_73 fl_RX0_21 rfl rfl rfl (fun v7 h_v7 o_v7 t_v7 => ?_)
    have e_v7 : (l - v4) = v7 := ((t_v7 ((Or.inl (by first | exact trivial | exact tb7_ (by decide) | simp [Tb])))).trans q_ρ6).symm
    clear t_v7
    subst e_v7
    refine r_if_ne (tgt := 97) hC dX0_endMove_76 rfl (fun h8 => ?_) (fun h8 => ?_)
    · refine r_aload_n hC dX0_endMove_97 rfl ?_
      refine r_iload_n hC dX0_endMove_98 rfl ?_
      refine z_putIG (jz := 4) hM dX0_endMove_99 fw_RX0_24 rfl rfl rfl ⟨Or.inr (by first | exact id | exact dl7_ (by decide) | simp [DL]), Or.inr (by first | exact id | exact df14_ (by decide) | simp [DF])⟩ (by first | trivial | (simp only [Okv]; omega) | (simp [Okv]; try omega)) (fun ρ9 a_ρ9 q_ρ9 => ?_)
      refine r_aload_n hC dX0_endMove_102 rfl ?_
      refine r_dup hC dX0_endMove_103 rfl ?_
      refine z_getI (jz := 5) hM dX0_endMove_104 fl_RX0_27 rfl rfl rfl (fun v10 h_v10 o_v10 t_v10 => ?_)
      have e_v10 : s = v10 := ((t_v10 ((Or.inl (by first | exact trivial | exact tb7_ (by decide) | simp [Tb])))).trans ((a_ρ9 _ _ _ (by first | exact xs_ (by decide) | exact xc_ (by decide) | omega)).trans ((a_ρ6 _ _ _ (by first | exact xs_ (by decide) | exact xc_ (by decide) | omega)).trans qg5))).symm
      clear t_v10
      subst e_v10
      refine r_iload_n hC dX0_endMove_107 rfl ?_
      refine r_iadd hC dX0_endMove_108 ?_
      have f11 := inR_le (inR_wr (s + (c + v4)))
      refine z_putIG (jz := 5) hM dX0_endMove_109 fw_RX0_27 rfl rfl rfl ⟨Or.inr (by first | exact id | exact dl7_ (by decide) | simp [DL]), Or.inr (by first | exact id | exact df14_ (by decide) | simp [DF])⟩ (by first | trivial | (simp only [Okv]; omega) | (simp [Okv]; try omega)) (fun ρ12 a_ρ12 q_ρ12 => ?_)
      refine r_aload_n hC dX0_endMove_112 rfl ?_
      refine r_aload_n hC dX0_endMove_113 rfl ?_
      refine z_getI (jz := 6) hM dX0_endMove_114 fl_RX0_30 rfl rfl rfl (fun v13 h_v13 o_v13 t_v13 => ?_)
      have e_v13 : o = v13 := ((t_v13 ((Or.inl (by first | exact trivial | exact tb7_ (by decide) | simp [Tb])))).trans ((a_ρ12 _ _ _ (by first | exact xs_ (by decide) | exact xc_ (by decide) | omega)).trans ((a_ρ9 _ _ _ (by first | exact xs_ (by decide) | exact xc_ (by decide) | omega)).trans ((a_ρ6 _ _ _ (by first | exact xs_ (by decide) | exact xc_ (by decide) | omega)).trans qg6)))).symm
      clear t_v13
      subst e_v13
      refine r_iload_n hC dX0_endMove_117 rfl ?_
      refine z_ins2 hM dX0_endMove_118 tl_RX0_37 rfl (Nat.le_of_ble_eq_true rfl) (Nat.le_of_ble_eq_true rfl) ?_
      refine x_max (fun v14 h_v14 => ?_)
      refine z_putIG (jz := 6) hM dX0_endMove_121 fw_RX0_30 rfl rfl rfl ⟨Or.inr (by first | exact id | exact dl7_ (by decide) | simp [DL]), Or.inr (by first | exact id | exact df14_ (by decide) | simp [DF])⟩ (by first | trivial | (simp only [Okv]; omega) | (simp [Okv]; try omega)) (fun ρ15 a_ρ15 q_ρ15 => ?_)
      refine y_vret hK rfl dX0_endMove_124 ?_
      exact k _ (((((Gx.rf).al a_ρ6 (by first | (simp; done) | omega | (simp; omega))).al a_ρ9 (by first | (simp; done) | omega | (simp; omega))).al a_ρ12 (by first | (simp; done) | omega | (simp; omega))).al a_ρ15 (by first | (simp; done) | omega | (simp; omega))) (by have hq := ((a_ρ15 _ _ _ (by first | exact xs_ (by decide) | exact xc_ (by decide) | omega)).trans ((a_ρ12 _ _ _ (by first | exact xs_ (by decide) | exact xc_ (by decide) | omega)).trans ((a_ρ9 _ _ _ (by first | exact xs_ (by decide) | exact xc_ (by decide) | omega)).trans ((a_ρ6 _ _ _ (by first | exact xs_ (by decide) | exact xc_ (by decide) | omega)).trans qg0)))); refine hq.trans ?_; (repeat' split) <;> omega) (by have hq := ((a_ρ15 _ _ _ (by first | exact xs_ (by decide) | exact xc_ (by decide) | omega)).trans ((a_ρ12 _ _ _ (by first | exact xs_ (by decide) | exact xc_ (by decide) | omega)).trans ((a_ρ9 _ _ _ (by first | exact xs_ (by decide) | exact xc_ (by decide) | omega)).trans ((a_ρ6 _ _ _ (by first | exact xs_ (by decide) | exact xc_ (by decide) | omega)).trans qg1)))); refine hq.trans ?_; (repeat' split) <;> omega) (by have hq := ((a_ρ15 _ _ _ (by first | exact xs_ (by decide) | exact xc_ (by decide) | omega)).trans ((a_ρ12 _ _ _ (by first | exact xs_ (by decide) | exact xc_ (by decide) | omega)).trans ((a_ρ9 _ _ _ (by first | exact xs_ (by decide) | exact xc_ (by decide) | omega)).trans ((a_ρ6 _ _ _ (by first | exact xs_ (by decide) | exact xc_ (by decide) | omega)).trans qg2)))); refine hq.trans ?_; (repeat' split) <;> omega) (by have hq := ((a_ρ15 _ _ _ (by first | exact xs_ (by decide) | exact xc_ (by decide) | omega)).trans ((a_ρ12 _ _ _ (by first | exact xs_ (by decide) | exact xc_ (by decide) | omega)).trans ((a_ρ9 _ _ _ (by first | exact xs_ (by decide) | exact xc_ (by decide) | omega)).trans q_ρ6))); refine hq.trans ?_; (repeat' split) <;> omega) (by have hq := ((a_ρ15 _ _ _ (by first | exact xs_ (by decide) | exact xc_ (by decide) | omega)).trans ((a_ρ12 _ _ _ (by first | exact xs_ (by decide) | exact xc_ (by decide) | omega)).trans q_ρ9)); refine hq.trans ?_; (repeat' split) <;> omega) (by have hq := ((a_ρ15 _ _ _ (by first | exact xs_ (by decide) | exact xc_ (by decide) | omega)).trans q_ρ12); refine hq.trans (congrArg wr ?_); (repeat' split) <;> omega) (by have hq := q_ρ15; refine hq.trans ?_; (repeat' split) <;> omega)
    · refine r_aload_n hC dX0_endMove_79 rfl ?_
      refine r_dup hC dX0_endMove_80 rfl ?_
      refine z_getI (jz := 0) hM dX0_endMove_81 fl_RX0_9 rfl rfl rfl (fun v16 h_v16 o_v16 t_v16 => ?_)
      have e_v16 : f = v16 := ((t_v16 ((Or.inl (by first | exact trivial | exact tb7_ (by decide) | simp [Tb])))).trans ((a_ρ6 _ _ _ (by first | exact xs_ (by decide) | exact xc_ (by decide) | omega)).trans qg0)).symm
      clear t_v16
      subst e_v16
      refine r_aload_n hC dX0_endMove_84 rfl ?_
      refine z_getI (jz := 1) hM dX0_endMove_85 fl_RX0_15 rfl rfl rfl (fun v17 h_v17 o_v17 t_v17 => ?_)
      have e_v17 : m = v17 := ((t_v17 ((Or.inl (by first | exact trivial | exact tb7_ (by decide) | simp [Tb])))).trans ((a_ρ6 _ _ _ (by first | exact xs_ (by decide) | exact xc_ (by decide) | omega)).trans qg1)).symm
      clear t_v17
      subst e_v17
      refine r_iaddE hC ((f + m)) dX0_endMove_88 (by omega) (by unfold inR; omega) ?_
      refine z_putIG (jz := 0) hM dX0_endMove_89 fw_RX0_9 rfl rfl rfl ⟨Or.inr (by first | exact id | exact dl7_ (by decide) | simp [DL]), Or.inr (by first | exact id | exact df14_ (by decide) | simp [DF])⟩ (by first | trivial | (simp only [Okv]; omega) | (simp [Okv]; try omega)) (fun ρ18 a_ρ18 q_ρ18 => ?_)
      refine r_aload_n hC dX0_endMove_92 rfl ?_
      refine r_iconst hC dX0_endMove_93 rfl ?_
      refine z_putIG (jz := 1) hM dX0_endMove_94 fw_RX0_15 rfl rfl rfl ⟨Or.inr (by first | exact id | exact dl7_ (by decide) | simp [DL]), Or.inr (by first | exact id | exact df14_ (by decide) | simp [DF])⟩ (by first | trivial | (simp only [Okv]; omega) | (simp [Okv]; try omega)) (fun ρ19 a_ρ19 q_ρ19 => ?_)
      refine r_aload_n hC dX0_endMove_97 rfl ?_
      refine r_iload_n hC dX0_endMove_98 rfl ?_
      refine z_putIG (jz := 4) hM dX0_endMove_99 fw_RX0_24 rfl rfl rfl ⟨Or.inr (by first | exact id | exact dl7_ (by decide) | simp [DL]), Or.inr (by first | exact id | exact df14_ (by decide) | simp [DF])⟩ (by first | trivial | (simp only [Okv]; omega) | (simp [Okv]; try omega)) (fun ρ20 a_ρ20 q_ρ20 => ?_)
      refine r_aload_n hC dX0_endMove_102 rfl ?_
      refine r_dup hC dX0_endMove_103 rfl ?_
      refine z_getI (jz := 5) hM dX0_endMove_104 fl_RX0_27 rfl rfl rfl (fun v21 h_v21 o_v21 t_v21 => ?_)
      have e_v21 : s = v21 := ((t_v21 ((Or.inl (by first | exact trivial | exact tb7_ (by decide) | simp [Tb])))).trans ((a_ρ20 _ _ _ (by first | exact xs_ (by decide) | exact xc_ (by decide) | omega)).trans ((a_ρ19 _ _ _ (by first | exact xs_ (by decide) | exact xc_ (by decide) | omega)).trans ((a_ρ18 _ _ _ (by first | exact xs_ (by decide) | exact xc_ (by decide) | omega)).trans ((a_ρ6 _ _ _ (by first | exact xs_ (by decide) | exact xc_ (by decide) | omega)).trans qg5))))).symm
      clear t_v21
      subst e_v21
      refine r_iload_n hC dX0_endMove_107 rfl ?_
      refine r_iadd hC dX0_endMove_108 ?_
      have f22 := inR_le (inR_wr (s + (c + v4)))
      refine z_putIG (jz := 5) hM dX0_endMove_109 fw_RX0_27 rfl rfl rfl ⟨Or.inr (by first | exact id | exact dl7_ (by decide) | simp [DL]), Or.inr (by first | exact id | exact df14_ (by decide) | simp [DF])⟩ (by first | trivial | (simp only [Okv]; omega) | (simp [Okv]; try omega)) (fun ρ23 a_ρ23 q_ρ23 => ?_)
      refine r_aload_n hC dX0_endMove_112 rfl ?_
      refine r_aload_n hC dX0_endMove_113 rfl ?_
      refine z_getI (jz := 6) hM dX0_endMove_114 fl_RX0_30 rfl rfl rfl (fun v24 h_v24 o_v24 t_v24 => ?_)
      have e_v24 : o = v24 := ((t_v24 ((Or.inl (by first | exact trivial | exact tb7_ (by decide) | simp [Tb])))).trans ((a_ρ23 _ _ _ (by first | exact xs_ (by decide) | exact xc_ (by decide) | omega)).trans ((a_ρ20 _ _ _ (by first | exact xs_ (by decide) | exact xc_ (by decide) | omega)).trans ((a_ρ19 _ _ _ (by first | exact xs_ (by decide) | exact xc_ (by decide) | omega)).trans ((a_ρ18 _ _ _ (by first | exact xs_ (by decide) | exact xc_ (by decide) | omega)).trans ((a_ρ6 _ _ _ (by first | exact xs_ (by decide) | exact xc_ (by decide) | omega)).trans qg6)))))).symm
      clear t_v24
      subst e_v24
      refine r_iload_n hC dX0_endMove_117 rfl ?_
      refine z_ins2 hM dX0_endMove_118 tl_RX0_37 rfl (Nat.le_of_ble_eq_true rfl) (Nat.le_of_ble_eq_true rfl) ?_
      refine x_max (fun v25 h_v25 => ?_)
      refine z_putIG (jz := 6) hM dX0_endMove_121 fw_RX0_30 rfl rfl rfl ⟨Or.inr (by first | exact id | exact dl7_ (by decide) | simp [DL]), Or.inr (by first | exact id | exact df14_ (by decide) | simp [DF])⟩ (by first | trivial | (simp only [Okv]; omega) | (simp [Okv]; try omega)) (fun ρ26 a_ρ26 q_ρ26 => ?_)
      refine y_vret hK rfl dX0_endMove_124 ?_
      exact k _ (((((((Gx.rf).al a_ρ6 (by first | (simp; done) | omega | (simp; omega))).al a_ρ18 (by first | (simp; done) | omega | (simp; omega))).al a_ρ19 (by first | (simp; done) | omega | (simp; omega))).al a_ρ20 (by first | (simp; done) | omega | (simp; omega))).al a_ρ23 (by first | (simp; done) | omega | (simp; omega))).al a_ρ26 (by first | (simp; done) | omega | (simp; omega))) (by have hq := ((a_ρ26 _ _ _ (by first | exact xs_ (by decide) | exact xc_ (by decide) | omega)).trans ((a_ρ23 _ _ _ (by first | exact xs_ (by decide) | exact xc_ (by decide) | omega)).trans ((a_ρ20 _ _ _ (by first | exact xs_ (by decide) | exact xc_ (by decide) | omega)).trans ((a_ρ19 _ _ _ (by first | exact xs_ (by decide) | exact xc_ (by decide) | omega)).trans q_ρ18)))); refine hq.trans ?_; (repeat' split) <;> omega) (by have hq := ((a_ρ26 _ _ _ (by first | exact xs_ (by decide) | exact xc_ (by decide) | omega)).trans ((a_ρ23 _ _ _ (by first | exact xs_ (by decide) | exact xc_ (by decide) | omega)).trans ((a_ρ20 _ _ _ (by first | exact xs_ (by decide) | exact xc_ (by decide) | omega)).trans q_ρ19))); refine hq.trans ?_; (repeat' split) <;> omega) (by have hq := ((a_ρ26 _ _ _ (by first | exact xs_ (by decide) | exact xc_ (by decide) | omega)).trans ((a_ρ23 _ _ _ (by first | exact xs_ (by decide) | exact xc_ (by decide) | omega)).trans ((a_ρ20 _ _ _ (by first | exact xs_ (by decide) | exact xc_ (by decide) | omega)).trans ((a_ρ19 _ _ _ (by first | exact xs_ (by decide) | exact xc_ (by decide) | omega)).trans ((a_ρ18 _ _ _ (by first | exact xs_ (by decide) | exact xc_ (by decide) | omega)).trans ((a_ρ6 _ _ _ (by first | exact xs_ (by decide) | exact xc_ (by decide) | omega)).trans qg2)))))); refine hq.trans ?_; (repeat' split) <;> omega) (by have hq := ((a_ρ26 _ _ _ (by first | exact xs_ (by decide) | exact xc_ (by decide) | omega)).trans ((a_ρ23 _ _ _ (by first | exact xs_ (by decide) | exact xc_ (by decide) | omega)).trans ((a_ρ20 _ _ _ (by first | exact xs_ (by decide) | exact xc_ (by decide) | omega)).trans ((a_ρ19 _ _ _ (by first | exact xs_ (by decide) | exact xc_ (by decide) | omega)).trans ((a_ρ18 _ _ _ (by first | exact xs_ (by decide) | exact xc_ (by decide) | omega)).trans q_ρ6))))); refine hq.trans ?_; (repeat' split) <;> omega) (by have hq := ((a_ρ26 _ _ _ (by first | exact xs_ (by decide) | exact xc_ (by decide) | omega)).trans ((a_ρ23 _ _ _ (by first | exact xs_ (by decide) | exact xc_ (by decide) | omega)).trans q_ρ20)); refine hq.trans ?_; (repeat' split) <;> omega) (by have hq := ((a_ρ26 _ _ _ (by first | exact xs_ (by decide) | exact xc_ (by decide) | omega)).trans q_ρ23); refine hq.trans (congrArg wr ?_); (repeat' split) <;> omega) (by have hq := q_ρ26; refine hq.trans ?_; (repeat' split) <;> omega)
  · refine r_aload_n hC dX0_endMove_9 rfl ?_
    refine z_getI (jz := 2) hM dX0_endMove_10 fl_RX0_18 rfl rfl rfl (fun v27 h_v27 o_v27 t_v27 => ?_)
    have e_v27 : b = v27 := ((t_v27 ((Or.inl (by first | exact trivial | exact tb7_ (by decide) | simp [Tb])))).trans qg2).symm
    clear t_v27
    subst e_v27
    refine r_aload_n hC dX0_endMove_13 rfl ?_
    refine z_getI (jz := 0) hM dX0_endMove_14 fl_RX0_9 rfl rfl rfl (fun v28 h_v28 o_v28 t_v28 => ?_)
    have e_v28 : f = v28 := ((t_v28 ((Or.inl (by first | exact trivial | exact tb7_ (by decide) | simp [Tb])))).trans qg0).symm
    clear t_v28
    subst e_v28
    refine r_icmp_le (tgt := 49) hC dX0_endMove_17 rfl (fun h29 => ?_) (fun h29 => ?_)
    · refine r_iconst hC dX0_endMove_49 rfl ?_
      refine r_aload_n hC dX0_endMove_50 rfl ?_
      refine z_getI (jz := 3) hM dX0_endMove_51 fl_RX0_21 rfl rfl rfl (fun v30 h_v30 o_v30 t_v30 => ?_)
      have e_v30 : l = v30 := ((t_v30 ((Or.inl (by first | exact trivial | exact tb7_ (by decide) | simp [Tb])))).trans qg3).symm
      clear t_v30
      subst e_v30
      refine z_ins2 hM dX0_endMove_54 tl_RX0_43 rfl (Nat.le_of_ble_eq_true rfl) (Nat.le_of_ble_eq_true rfl) ?_
      refine x_min (fun v31 h_v31 => ?_)
      refine r_istore_n hC dX0_endMove_57 rfl ?_
      refine r_aload_n hC dX0_endMove_58 rfl ?_
      refine r_dup hC dX0_endMove_59 rfl ?_
      refine z_getI (jz := 3) hM dX0_endMove_60 fl_RX0_21 rfl rfl rfl (fun v32 h_v32 o_v32 t_v32 => ?_)
      have e_v32 : l = v32 := ((t_v32 ((Or.inl (by first | exact trivial | exact tb7_ (by decide) | simp [Tb])))).trans qg3).symm
      clear t_v32
      subst e_v32
      refine r_iload_n hC dX0_endMove_63 rfl ?_
      refine r_isubE hC ((l - v31)) dX0_endMove_64 (by omega) (by unfold inR; omega) ?_
      refine z_putIG (jz := 3) hM dX0_endMove_65 fw_RX0_21 rfl rfl rfl ⟨Or.inr (by first | exact id | exact dl7_ (by decide) | simp [DL]), Or.inr (by first | exact id | exact df14_ (by decide) | simp [DF])⟩ (by first | trivial | (simp only [Okv]; omega) | (simp [Okv]; try omega)) (fun ρ33 a_ρ33 q_ρ33 => ?_)
      refine r_iload_n hC dX0_endMove_68 rfl ?_
      refine r_iload_n hC dX0_endMove_69 rfl ?_
      refine r_iaddE hC ((c + v31)) dX0_endMove_70 (by omega) (by unfold inR; omega) ?_
      refine r_istore_n hC dX0_endMove_71 rfl ?_
      refine r_aload_n hC dX0_endMove_72 rfl ?_
      refine z_getI (jz := 3) hM dX0_endMove_73 fl_RX0_21 rfl rfl rfl (fun v34 h_v34 o_v34 t_v34 => ?_)
      have e_v34 : (l - v31) = v34 := ((t_v34 ((Or.inl (by first | exact trivial | exact tb7_ (by decide) | simp [Tb])))).trans q_ρ33).symm
      clear t_v34
      subst e_v34
      refine r_if_ne (tgt := 97) hC dX0_endMove_76 rfl (fun h35 => ?_) (fun h35 => ?_)
      · refine r_aload_n hC dX0_endMove_97 rfl ?_
        refine r_iload_n hC dX0_endMove_98 rfl ?_
        refine z_putIG (jz := 4) hM dX0_endMove_99 fw_RX0_24 rfl rfl rfl ⟨Or.inr (by first | exact id | exact dl7_ (by decide) | simp [DL]), Or.inr (by first | exact id | exact df14_ (by decide) | simp [DF])⟩ (by first | trivial | (simp only [Okv]; omega) | (simp [Okv]; try omega)) (fun ρ36 a_ρ36 q_ρ36 => ?_)
        refine r_aload_n hC dX0_endMove_102 rfl ?_
        refine r_dup hC dX0_endMove_103 rfl ?_
        refine z_getI (jz := 5) hM dX0_endMove_104 fl_RX0_27 rfl rfl rfl (fun v37 h_v37 o_v37 t_v37 => ?_)
        have e_v37 : s = v37 := ((t_v37 ((Or.inl (by first | exact trivial | exact tb7_ (by decide) | simp [Tb])))).trans ((a_ρ36 _ _ _ (by first | exact xs_ (by decide) | exact xc_ (by decide) | omega)).trans ((a_ρ33 _ _ _ (by first | exact xs_ (by decide) | exact xc_ (by decide) | omega)).trans qg5))).symm
        clear t_v37
        subst e_v37
        refine r_iload_n hC dX0_endMove_107 rfl ?_
        refine r_iadd hC dX0_endMove_108 ?_
        have f38 := inR_le (inR_wr (s + (c + v31)))
        refine z_putIG (jz := 5) hM dX0_endMove_109 fw_RX0_27 rfl rfl rfl ⟨Or.inr (by first | exact id | exact dl7_ (by decide) | simp [DL]), Or.inr (by first | exact id | exact df14_ (by decide) | simp [DF])⟩ (by first | trivial | (simp only [Okv]; omega) | (simp [Okv]; try omega)) (fun ρ39 a_ρ39 q_ρ39 => ?_)
        refine r_aload_n hC dX0_endMove_112 rfl ?_
        refine r_aload_n hC dX0_endMove_113 rfl ?_
        refine z_getI (jz := 6) hM dX0_endMove_114 fl_RX0_30 rfl rfl rfl (fun v40 h_v40 o_v40 t_v40 => ?_)
        have e_v40 : o = v40 := ((t_v40 ((Or.inl (by first | exact trivial | exact tb7_ (by decide) | simp [Tb])))).trans ((a_ρ39 _ _ _ (by first | exact xs_ (by decide) | exact xc_ (by decide) | omega)).trans ((a_ρ36 _ _ _ (by first | exact xs_ (by decide) | exact xc_ (by decide) | omega)).trans ((a_ρ33 _ _ _ (by first | exact xs_ (by decide) | exact xc_ (by decide) | omega)).trans qg6)))).symm
        clear t_v40
        subst e_v40
        refine r_iload_n hC dX0_endMove_117 rfl ?_
        refine z_ins2 hM dX0_endMove_118 tl_RX0_37 rfl (Nat.le_of_ble_eq_true rfl) (Nat.le_of_ble_eq_true rfl) ?_
        refine x_max (fun v41 h_v41 => ?_)
        refine z_putIG (jz := 6) hM dX0_endMove_121 fw_RX0_30 rfl rfl rfl ⟨Or.inr (by first | exact id | exact dl7_ (by decide) | simp [DL]), Or.inr (by first | exact id | exact df14_ (by decide) | simp [DF])⟩ (by first | trivial | (simp only [Okv]; omega) | (simp [Okv]; try omega)) (fun ρ42 a_ρ42 q_ρ42 => ?_)
        refine y_vret hK rfl dX0_endMove_124 ?_
        exact k _ (((((Gx.rf).al a_ρ33 (by first | (simp; done) | omega | (simp; omega))).al a_ρ36 (by first | (simp; done) | omega | (simp; omega))).al a_ρ39 (by first | (simp; done) | omega | (simp; omega))).al a_ρ42 (by first | (simp; done) | omega | (simp; omega))) (by have hq := ((a_ρ42 _ _ _ (by first | exact xs_ (by decide) | exact xc_ (by decide) | omega)).trans ((a_ρ39 _ _ _ (by first | exact xs_ (by decide) | exact xc_ (by decide) | omega)).trans ((a_ρ36 _ _ _ (by first | exact xs_ (by decide) | exact xc_ (by decide) | omega)).trans ((a_ρ33 _ _ _ (by first | exact xs_ (by decide) | exact xc_ (by decide) | omega)).trans qg0)))); refine hq.trans ?_; (repeat' split) <;> omega) (by have hq := ((a_ρ42 _ _ _ (by first | exact xs_ (by decide) | exact xc_ (by decide) | omega)).trans ((a_ρ39 _ _ _ (by first | exact xs_ (by decide) | exact xc_ (by decide) | omega)).trans ((a_ρ36 _ _ _ (by first | exact xs_ (by decide) | exact xc_ (by decide) | omega)).trans ((a_ρ33 _ _ _ (by first | exact xs_ (by decide) | exact xc_ (by decide) | omega)).trans qg1)))); refine hq.trans ?_; (repeat' split) <;> omega) (by have hq := ((a_ρ42 _ _ _ (by first | exact xs_ (by decide) | exact xc_ (by decide) | omega)).trans ((a_ρ39 _ _ _ (by first | exact xs_ (by decide) | exact xc_ (by decide) | omega)).trans ((a_ρ36 _ _ _ (by first | exact xs_ (by decide) | exact xc_ (by decide) | omega)).trans ((a_ρ33 _ _ _ (by first | exact xs_ (by decide) | exact xc_ (by decide) | omega)).trans qg2)))); refine hq.trans ?_; (repeat' split) <;> omega) (by have hq := ((a_ρ42 _ _ _ (by first | exact xs_ (by decide) | exact xc_ (by decide) | omega)).trans ((a_ρ39 _ _ _ (by first | exact xs_ (by decide) | exact xc_ (by decide) | omega)).trans ((a_ρ36 _ _ _ (by first | exact xs_ (by decide) | exact xc_ (by decide) | omega)).trans q_ρ33))); refine hq.trans ?_; (repeat' split) <;> omega) (by have hq := ((a_ρ42 _ _ _ (by first | exact xs_ (by decide) | exact xc_ (by decide) | omega)).trans ((a_ρ39 _ _ _ (by first | exact xs_ (by decide) | exact xc_ (by decide) | omega)).trans q_ρ36)); refine hq.trans ?_; (repeat' split) <;> omega) (by have hq := ((a_ρ42 _ _ _ (by first | exact xs_ (by decide) | exact xc_ (by decide) | omega)).trans q_ρ39); refine hq.trans (congrArg wr ?_); (repeat' split) <;> omega) (by have hq := q_ρ42; refine hq.trans ?_; (repeat' split) <;> omega)
      · refine r_aload_n hC dX0_endMove_79 rfl ?_
        refine r_dup hC dX0_endMove_80 rfl ?_
        refine z_getI (jz := 0) hM dX0_endMove_81 fl_RX0_9 rfl rfl rfl (fun v43 h_v43 o_v43 t_v43 => ?_)
        have e_v43 : f = v43 := ((t_v43 ((Or.inl (by first | exact trivial | exact tb7_ (by decide) | simp [Tb])))).trans ((a_ρ33 _ _ _ (by first | exact xs_ (by decide) | exact xc_ (by decide) | omega)).trans qg0)).symm
        clear t_v43
        subst e_v43
        refine r_aload_n hC dX0_endMove_84 rfl ?_
        refine z_getI (jz := 1) hM dX0_endMove_85 fl_RX0_15 rfl rfl rfl (fun v44 h_v44 o_v44 t_v44 => ?_)
        have e_v44 : m = v44 := ((t_v44 ((Or.inl (by first | exact trivial | exact tb7_ (by decide) | simp [Tb])))).trans ((a_ρ33 _ _ _ (by first | exact xs_ (by decide) | exact xc_ (by decide) | omega)).trans qg1)).symm
        clear t_v44
        subst e_v44
        refine r_iaddE hC ((f + m)) dX0_endMove_88 (by omega) (by unfold inR; omega) ?_
        refine z_putIG (jz := 0) hM dX0_endMove_89 fw_RX0_9 rfl rfl rfl ⟨Or.inr (by first | exact id | exact dl7_ (by decide) | simp [DL]), Or.inr (by first | exact id | exact df14_ (by decide) | simp [DF])⟩ (by first | trivial | (simp only [Okv]; omega) | (simp [Okv]; try omega)) (fun ρ45 a_ρ45 q_ρ45 => ?_)
        refine r_aload_n hC dX0_endMove_92 rfl ?_
        refine r_iconst hC dX0_endMove_93 rfl ?_
        refine z_putIG (jz := 1) hM dX0_endMove_94 fw_RX0_15 rfl rfl rfl ⟨Or.inr (by first | exact id | exact dl7_ (by decide) | simp [DL]), Or.inr (by first | exact id | exact df14_ (by decide) | simp [DF])⟩ (by first | trivial | (simp only [Okv]; omega) | (simp [Okv]; try omega)) (fun ρ46 a_ρ46 q_ρ46 => ?_)
        refine r_aload_n hC dX0_endMove_97 rfl ?_
        refine r_iload_n hC dX0_endMove_98 rfl ?_
        refine z_putIG (jz := 4) hM dX0_endMove_99 fw_RX0_24 rfl rfl rfl ⟨Or.inr (by first | exact id | exact dl7_ (by decide) | simp [DL]), Or.inr (by first | exact id | exact df14_ (by decide) | simp [DF])⟩ (by first | trivial | (simp only [Okv]; omega) | (simp [Okv]; try omega)) (fun ρ47 a_ρ47 q_ρ47 => ?_)
        refine r_aload_n hC dX0_endMove_102 rfl ?_
        refine r_dup hC dX0_endMove_103 rfl ?_
        refine z_getI (jz := 5) hM dX0_endMove_104 fl_RX0_27 rfl rfl rfl (fun v48 h_v48 o_v48 t_v48 => ?_)
        have e_v48 : s = v48 := ((t_v48 ((Or.inl (by first | exact trivial | exact tb7_ (by decide) | simp [Tb])))).trans ((a_ρ47 _ _ _ (by first | exact xs_ (by decide) | exact xc_ (by decide) | omega)).trans ((a_ρ46 _ _ _ (by first | exact xs_ (by decide) | exact xc_ (by decide) | omega)).trans ((a_ρ45 _ _ _ (by first | exact xs_ (by decide) | exact xc_ (by decide) | omega)).trans ((a_ρ33 _ _ _ (by first | exact xs_ (by decide) | exact xc_ (by decide) | omega)).trans qg5))))).symm
        clear t_v48
        subst e_v48
        refine r_iload_n hC dX0_endMove_107 rfl ?_
        refine r_iadd hC dX0_endMove_108 ?_
        have f49 := inR_le (inR_wr (s + (c + v31)))
        refine z_putIG (jz := 5) hM dX0_endMove_109 fw_RX0_27 rfl rfl rfl ⟨Or.inr (by first | exact id | exact dl7_ (by decide) | simp [DL]), Or.inr (by first | exact id | exact df14_ (by decide) | simp [DF])⟩ (by first | trivial | (simp only [Okv]; omega) | (simp [Okv]; try omega)) (fun ρ50 a_ρ50 q_ρ50 => ?_)
        refine r_aload_n hC dX0_endMove_112 rfl ?_
        refine r_aload_n hC dX0_endMove_113 rfl ?_
        refine z_getI (jz := 6) hM dX0_endMove_114 fl_RX0_30 rfl rfl rfl (fun v51 h_v51 o_v51 t_v51 => ?_)
        have e_v51 : o = v51 := ((t_v51 ((Or.inl (by first | exact trivial | exact tb7_ (by decide) | simp [Tb])))).trans ((a_ρ50 _ _ _ (by first | exact xs_ (by decide) | exact xc_ (by decide) | omega)).trans ((a_ρ47 _ _ _ (by first | exact xs_ (by decide) | exact xc_ (by decide) | omega)).trans ((a_ρ46 _ _ _ (by first | exact xs_ (by decide) | exact xc_ (by decide) | omega)).trans ((a_ρ45 _ _ _ (by first | exact xs_ (by decide) | exact xc_ (by decide) | omega)).trans ((a_ρ33 _ _ _ (by first | exact xs_ (by decide) | exact xc_ (by decide) | omega)).trans qg6)))))).symm
        clear t_v51
        subst e_v51
        refine r_iload_n hC dX0_endMove_117 rfl ?_
        refine z_ins2 hM dX0_endMove_118 tl_RX0_37 rfl (Nat.le_of_ble_eq_true rfl) (Nat.le_of_ble_eq_true rfl) ?_
        refine x_max (fun v52 h_v52 => ?_)
        refine z_putIG (jz := 6) hM dX0_endMove_121 fw_RX0_30 rfl rfl rfl ⟨Or.inr (by first | exact id | exact dl7_ (by decide) | simp [DL]), Or.inr (by first | exact id | exact df14_ (by decide) | simp [DF])⟩ (by first | trivial | (simp only [Okv]; omega) | (simp [Okv]; try omega)) (fun ρ53 a_ρ53 q_ρ53 => ?_)
        refine y_vret hK rfl dX0_endMove_124 ?_
        exact k _ (((((((Gx.rf).al a_ρ33 (by first | (simp; done) | omega | (simp; omega))).al a_ρ45 (by first | (simp; done) | omega | (simp; omega))).al a_ρ46 (by first | (simp; done) | omega | (simp; omega))).al a_ρ47 (by first | (simp; done) | omega | (simp; omega))).al a_ρ50 (by first | (simp; done) | omega | (simp; omega))).al a_ρ53 (by first | (simp; done) | omega | (simp; omega))) (by have hq := ((a_ρ53 _ _ _ (by first | exact xs_ (by decide) | exact xc_ (by decide) | omega)).trans ((a_ρ50 _ _ _ (by first | exact xs_ (by decide) | exact xc_ (by decide) | omega)).trans ((a_ρ47 _ _ _ (by first | exact xs_ (by decide) | exact xc_ (by decide) | omega)).trans ((a_ρ46 _ _ _ (by first | exact xs_ (by decide) | exact xc_ (by decide) | omega)).trans q_ρ45)))); refine hq.trans ?_; (repeat' split) <;> omega) (by have hq := ((a_ρ53 _ _ _ (by first | exact xs_ (by decide) | exact xc_ (by decide) | omega)).trans ((a_ρ50 _ _ _ (by first | exact xs_ (by decide) | exact xc_ (by decide) | omega)).trans ((a_ρ47 _ _ _ (by first | exact xs_ (by decide) | exact xc_ (by decide) | omega)).trans q_ρ46))); refine hq.trans ?_; (repeat' split) <;> omega) (by have hq := ((a_ρ53 _ _ _ (by first | exact xs_ (by decide) | exact xc_ (by decide) | omega)).trans ((a_ρ50 _ _ _ (by first | exact xs_ (by decide) | exact xc_ (by decide) | omega)).trans ((a_ρ47 _ _ _ (by first | exact xs_ (by decide) | exact xc_ (by decide) | omega)).trans ((a_ρ46 _ _ _ (by first | exact xs_ (by decide) | exact xc_ (by decide) | omega)).trans ((a_ρ45 _ _ _ (by first | exact xs_ (by decide) | exact xc_ (by decide) | omega)).trans ((a_ρ33 _ _ _ (by first | exact xs_ (by decide) | exact xc_ (by decide) | omega)).trans qg2)))))); refine hq.trans ?_; (repeat' split) <;> omega) (by have hq := ((a_ρ53 _ _ _ (by first | exact xs_ (by decide) | exact xc_ (by decide) | omega)).trans ((a_ρ50 _ _ _ (by first | exact xs_ (by decide) | exact xc_ (by decide) | omega)).trans ((a_ρ47 _ _ _ (by first | exact xs_ (by decide) | exact xc_ (by decide) | omega)).trans ((a_ρ46 _ _ _ (by first | exact xs_ (by decide) | exact xc_ (by decide) | omega)).trans ((a_ρ45 _ _ _ (by first | exact xs_ (by decide) | exact xc_ (by decide) | omega)).trans q_ρ33))))); refine hq.trans ?_; (repeat' split) <;> omega) (by have hq := ((a_ρ53 _ _ _ (by first | exact xs_ (by decide) | exact xc_ (by decide) | omega)).trans ((a_ρ50 _ _ _ (by first | exact xs_ (by decide) | exact xc_ (by decide) | omega)).trans q_ρ47)); refine hq.trans ?_; (repeat' split) <;> omega) (by have hq := ((a_ρ53 _ _ _ (by first | exact xs_ (by decide) | exact xc_ (by decide) | omega)).trans q_ρ50); refine hq.trans (congrArg wr ?_); (repeat' split) <;> omega) (by have hq := q_ρ53; refine hq.trans ?_; (repeat' split) <;> omega)
    · refine r_aload_n hC dX0_endMove_20 rfl ?_
      refine r_aload_n hC dX0_endMove_21 rfl ?_
      refine z_getI (jz := 2) hM dX0_endMove_22 fl_RX0_18 rfl rfl rfl (fun v54 h_v54 o_v54 t_v54 => ?_)
      have e_v54 : b = v54 := ((t_v54 ((Or.inl (by first | exact trivial | exact tb7_ (by decide) | simp [Tb])))).trans qg2).symm
      clear t_v54
      subst e_v54
      refine z_putIG (jz := 1) hM dX0_endMove_25 fw_RX0_15 rfl rfl rfl ⟨Or.inr (by first | exact id | exact dl7_ (by decide) | simp [DL]), Or.inr (by first | exact id | exact df14_ (by decide) | simp [DF])⟩ (by first | trivial | (simp only [Okv]; omega) | (simp [Okv]; try omega)) (fun ρ55 a_ρ55 q_ρ55 => ?_)
      refine r_aload_n hC dX0_endMove_28 rfl ?_
      refine r_iconst hC dX0_endMove_29 rfl ?_
      refine z_putIG (jz := 2) hM dX0_endMove_30 fw_RX0_18 rfl rfl rfl ⟨Or.inr (by first | exact id | exact dl7_ (by decide) | simp [DL]), Or.inr (by first | exact id | exact df14_ (by decide) | simp [DF])⟩ (by first | trivial | (simp only [Okv]; omega) | (simp [Okv]; try omega)) (fun ρ56 a_ρ56 q_ρ56 => ?_)
      refine r_aload_n hC dX0_endMove_33 rfl ?_
      refine r_aload_n hC dX0_endMove_34 rfl ?_
      refine z_getI (jz := 1) hM dX0_endMove_35 fl_RX0_15 rfl rfl rfl (fun v57 h_v57 o_v57 t_v57 => ?_)
      have e_v57 : b = v57 := ((t_v57 ((Or.inl (by first | exact trivial | exact tb7_ (by decide) | simp [Tb])))).trans ((a_ρ56 _ _ _ (by first | exact xs_ (by decide) | exact xc_ (by decide) | omega)).trans q_ρ55)).symm
      clear t_v57
      subst e_v57
      refine r_aload_n hC dX0_endMove_38 rfl ?_
      refine z_getI (jz := 0) hM dX0_endMove_39 fl_RX0_9 rfl rfl rfl (fun v58 h_v58 o_v58 t_v58 => ?_)
      have e_v58 : f = v58 := ((t_v58 ((Or.inl (by first | exact trivial | exact tb7_ (by decide) | simp [Tb])))).trans ((a_ρ56 _ _ _ (by first | exact xs_ (by decide) | exact xc_ (by decide) | omega)).trans ((a_ρ55 _ _ _ (by first | exact xs_ (by decide) | exact xc_ (by decide) | omega)).trans qg0))).symm
      clear t_v58
      subst e_v58
      refine r_iaddE hC ((b + f)) dX0_endMove_42 (by omega) (by unfold inR; omega) ?_
      refine z_putIG (jz := 3) hM dX0_endMove_43 fw_RX0_21 rfl rfl rfl ⟨Or.inr (by first | exact id | exact dl7_ (by decide) | simp [DL]), Or.inr (by first | exact id | exact df14_ (by decide) | simp [DF])⟩ (by first | trivial | (simp only [Okv]; omega) | (simp [Okv]; try omega)) (fun ρ59 a_ρ59 q_ρ59 => ?_)
      refine r_iincE hC ((c - 1)) dX0_endMove_46 rfl rfl (by omega) (by unfold inR; omega) ?_
      refine r_iconst hC dX0_endMove_49 rfl ?_
      refine r_aload_n hC dX0_endMove_50 rfl ?_
      refine z_getI (jz := 3) hM dX0_endMove_51 fl_RX0_21 rfl rfl rfl (fun v60 h_v60 o_v60 t_v60 => ?_)
      have e_v60 : (b + f) = v60 := ((t_v60 ((Or.inl (by first | exact trivial | exact tb7_ (by decide) | simp [Tb])))).trans q_ρ59).symm
      clear t_v60
      subst e_v60
      refine z_ins2 hM dX0_endMove_54 tl_RX0_43 rfl (Nat.le_of_ble_eq_true rfl) (Nat.le_of_ble_eq_true rfl) ?_
      refine x_min (fun v61 h_v61 => ?_)
      refine r_istore_n hC dX0_endMove_57 rfl ?_
      refine r_aload_n hC dX0_endMove_58 rfl ?_
      refine r_dup hC dX0_endMove_59 rfl ?_
      refine z_getI (jz := 3) hM dX0_endMove_60 fl_RX0_21 rfl rfl rfl (fun v62 h_v62 o_v62 t_v62 => ?_)
      have e_v62 : (b + f) = v62 := ((t_v62 ((Or.inl (by first | exact trivial | exact tb7_ (by decide) | simp [Tb])))).trans q_ρ59).symm
      clear t_v62
      subst e_v62
      refine r_iload_n hC dX0_endMove_63 rfl ?_
      refine r_isubE hC (((b + f) - v61)) dX0_endMove_64 (by omega) (by unfold inR; omega) ?_
      refine z_putIG (jz := 3) hM dX0_endMove_65 fw_RX0_21 rfl rfl rfl ⟨Or.inr (by first | exact id | exact dl7_ (by decide) | simp [DL]), Or.inr (by first | exact id | exact df14_ (by decide) | simp [DF])⟩ (by first | trivial | (simp only [Okv]; omega) | (simp [Okv]; try omega)) (fun ρ63 a_ρ63 q_ρ63 => ?_)
      refine r_iload_n hC dX0_endMove_68 rfl ?_
      refine r_iload_n hC dX0_endMove_69 rfl ?_
      refine r_iaddE hC (((c - 1) + v61)) dX0_endMove_70 (by omega) (by unfold inR; omega) ?_
      refine r_istore_n hC dX0_endMove_71 rfl ?_
      show K _ [_, _, _, _] _ _
      refine r_aload_n hC dX0_endMove_72 rfl ?_
      refine z_getI (jz := 3) hM dX0_endMove_73 fl_RX0_21 rfl rfl rfl (fun v64 h_v64 o_v64 t_v64 => ?_)
      have e_v64 : ((b + f) - v61) = v64 := ((t_v64 ((Or.inl (by first | exact trivial | exact tb7_ (by decide) | simp [Tb])))).trans q_ρ63).symm
      clear t_v64
      subst e_v64
      refine r_if_ne (tgt := 97) hC dX0_endMove_76 rfl (fun h65 => ?_) (fun h65 => ?_)
      · refine r_aload_n hC dX0_endMove_97 rfl ?_
        refine r_iload_n hC dX0_endMove_98 rfl ?_
        refine z_putIG (jz := 4) hM dX0_endMove_99 fw_RX0_24 rfl rfl rfl ⟨Or.inr (by first | exact id | exact dl7_ (by decide) | simp [DL]), Or.inr (by first | exact id | exact df14_ (by decide) | simp [DF])⟩ (by first | trivial | (simp only [Okv]; omega) | (simp [Okv]; try omega)) (fun ρ66 a_ρ66 q_ρ66 => ?_)
        refine r_aload_n hC dX0_endMove_102 rfl ?_
        refine r_dup hC dX0_endMove_103 rfl ?_
        refine z_getI (jz := 5) hM dX0_endMove_104 fl_RX0_27 rfl rfl rfl (fun v67 h_v67 o_v67 t_v67 => ?_)
        have e_v67 : s = v67 := ((t_v67 ((Or.inl (by first | exact trivial | exact tb7_ (by decide) | simp [Tb])))).trans ((a_ρ66 _ _ _ (by first | exact xs_ (by decide) | exact xc_ (by decide) | omega)).trans ((a_ρ63 _ _ _ (by first | exact xs_ (by decide) | exact xc_ (by decide) | omega)).trans ((a_ρ59 _ _ _ (by first | exact xs_ (by decide) | exact xc_ (by decide) | omega)).trans ((a_ρ56 _ _ _ (by first | exact xs_ (by decide) | exact xc_ (by decide) | omega)).trans ((a_ρ55 _ _ _ (by first | exact xs_ (by decide) | exact xc_ (by decide) | omega)).trans qg5)))))).symm
        clear t_v67
        subst e_v67
        refine r_iload_n hC dX0_endMove_107 rfl ?_
        refine r_iadd hC dX0_endMove_108 ?_
        have f68 := inR_le (inR_wr (s + ((c - 1) + v61)))
        refine z_putIG (jz := 5) hM dX0_endMove_109 fw_RX0_27 rfl rfl rfl ⟨Or.inr (by first | exact id | exact dl7_ (by decide) | simp [DL]), Or.inr (by first | exact id | exact df14_ (by decide) | simp [DF])⟩ (by first | trivial | (simp only [Okv]; omega) | (simp [Okv]; try omega)) (fun ρ69 a_ρ69 q_ρ69 => ?_)
        refine r_aload_n hC dX0_endMove_112 rfl ?_
        refine r_aload_n hC dX0_endMove_113 rfl ?_
        refine z_getI (jz := 6) hM dX0_endMove_114 fl_RX0_30 rfl rfl rfl (fun v70 h_v70 o_v70 t_v70 => ?_)
        have e_v70 : o = v70 := ((t_v70 ((Or.inl (by first | exact trivial | exact tb7_ (by decide) | simp [Tb])))).trans ((a_ρ69 _ _ _ (by first | exact xs_ (by decide) | exact xc_ (by decide) | omega)).trans ((a_ρ66 _ _ _ (by first | exact xs_ (by decide) | exact xc_ (by decide) | omega)).trans ((a_ρ63 _ _ _ (by first | exact xs_ (by decide) | exact xc_ (by decide) | omega)).trans ((a_ρ59 _ _ _ (by first | exact xs_ (by decide) | exact xc_ (by decide) | omega)).trans ((a_ρ56 _ _ _ (by first | exact xs_ (by decide) | exact xc_ (by decide) | omega)).trans ((a_ρ55 _ _ _ (by first | exact xs_ (by decide) | exact xc_ (by decide) | omega)).trans qg6))))))).symm
        clear t_v70
        subst e_v70
        refine r_iload_n hC dX0_endMove_117 rfl ?_
        refine z_ins2 hM dX0_endMove_118 tl_RX0_37 rfl (Nat.le_of_ble_eq_true rfl) (Nat.le_of_ble_eq_true rfl) ?_
        refine x_max (fun v71 h_v71 => ?_)
        refine z_putIG (jz := 6) hM dX0_endMove_121 fw_RX0_30 rfl rfl rfl ⟨Or.inr (by first | exact id | exact dl7_ (by decide) | simp [DL]), Or.inr (by first | exact id | exact df14_ (by decide) | simp [DF])⟩ (by first | trivial | (simp only [Okv]; omega) | (simp [Okv]; try omega)) (fun ρ72 a_ρ72 q_ρ72 => ?_)
        refine y_vret hK rfl dX0_endMove_124 ?_
        exact k _ ((((((((Gx.rf).al a_ρ55 (by first | (simp; done) | omega | (simp; omega))).al a_ρ56 (by first | (simp; done) | omega | (simp; omega))).al a_ρ59 (by first | (simp; done) | omega | (simp; omega))).al a_ρ63 (by first | (simp; done) | omega | (simp; omega))).al a_ρ66 (by first | (simp; done) | omega | (simp; omega))).al a_ρ69 (by first | (simp; done) | omega | (simp; omega))).al a_ρ72 (by first | (simp; done) | omega | (simp; omega))) (by have hq := ((a_ρ72 _ _ _ (by first | exact xs_ (by decide) | exact xc_ (by decide) | omega)).trans ((a_ρ69 _ _ _ (by first | exact xs_ (by decide) | exact xc_ (by decide) | omega)).trans ((a_ρ66 _ _ _ (by first | exact xs_ (by decide) | exact xc_ (by decide) | omega)).trans ((a_ρ63 _ _ _ (by first | exact xs_ (by decide) | exact xc_ (by decide) | omega)).trans ((a_ρ59 _ _ _ (by first | exact xs_ (by decide) | exact xc_ (by decide) | omega)).trans ((a_ρ56 _ _ _ (by first | exact xs_ (by decide) | exact xc_ (by decide) | omega)).trans ((a_ρ55 _ _ _ (by first | exact xs_ (by decide) | exact xc_ (by decide) | omega)).trans qg0))))))); refine hq.trans ?_; (repeat' split) <;> omega) (by have hq := ((a_ρ72 _ _ _ (by first | exact xs_ (by decide) | exact xc_ (by decide) | omega)).trans ((a_ρ69 _ _ _ (by first | exact xs_ (by decide) | exact xc_ (by decide) | omega)).trans ((a_ρ66 _ _ _ (by first | exact xs_ (by decide) | exact xc_ (by decide) | omega)).trans ((a_ρ63 _ _ _ (by first | exact xs_ (by decide) | exact xc_ (by decide) | omega)).trans ((a_ρ59 _ _ _ (by first | exact xs_ (by decide) | exact xc_ (by decide) | omega)).trans ((a_ρ56 _ _ _ (by first | exact xs_ (by decide) | exact xc_ (by decide) | omega)).trans q_ρ55)))))); refine hq.trans ?_; (repeat' split) <;> omega) (by have hq := ((a_ρ72 _ _ _ (by first | exact xs_ (by decide) | exact xc_ (by decide) | omega)).trans ((a_ρ69 _ _ _ (by first | exact xs_ (by decide) | exact xc_ (by decide) | omega)).trans ((a_ρ66 _ _ _ (by first | exact xs_ (by decide) | exact xc_ (by decide) | omega)).trans ((a_ρ63 _ _ _ (by first | exact xs_ (by decide) | exact xc_ (by decide) | omega)).trans ((a_ρ59 _ _ _ (by first | exact xs_ (by decide) | exact xc_ (by decide) | omega)).trans q_ρ56))))); refine hq.trans ?_; (repeat' split) <;> omega) (by have hq := ((a_ρ72 _ _ _ (by first | exact xs_ (by decide) | exact xc_ (by decide) | omega)).trans ((a_ρ69 _ _ _ (by first | exact xs_ (by decide) | exact xc_ (by decide) | omega)).trans ((a_ρ66 _ _ _ (by first | exact xs_ (by decide) | exact xc_ (by decide) | omega)).trans q_ρ63))); refine hq.trans ?_; (repeat' split) <;> omega) (by have hq := ((a_ρ72 _ _ _ (by first | exact xs_ (by decide) | exact xc_ (by decide) | omega)).trans ((a_ρ69 _ _ _ (by first | exact xs_ (by decide) | exact xc_ (by decide) | omega)).trans q_ρ66)); refine hq.trans ?_; (repeat' split) <;> omega) (by have hq := ((a_ρ72 _ _ _ (by first | exact xs_ (by decide) | exact xc_ (by decide) | omega)).trans q_ρ69); refine hq.trans (congrArg wr ?_); (repeat' split) <;> omega) (by have hq := q_ρ72; refine hq.trans ?_; (repeat' split) <;> omega)
      · refine r_aload_n hC dX0_endMove_79 rfl ?_
        refine r_dup hC dX0_endMove_80 rfl ?_
        refine z_getI (jz := 0) hM dX0_endMove_81 fl_RX0_9 rfl rfl rfl (fun v73 h_v73 o_v73 t_v73 => ?_)
        have e_v73 : f = v73 := ((t_v73 ((Or.inl (by first | exact trivial | exact tb7_ (by decide) | simp [Tb])))).trans ((a_ρ63 _ _ _ (by first | exact xs_ (by decide) | exact xc_ (by decide) | omega)).trans ((a_ρ59 _ _ _ (by first | exact xs_ (by decide) | exact xc_ (by decide) | omega)).trans ((a_ρ56 _ _ _ (by first | exact xs_ (by decide) | exact xc_ (by decide) | omega)).trans ((a_ρ55 _ _ _ (by first | exact xs_ (by decide) | exact xc_ (by decide) | omega)).trans qg0))))).symm
        clear t_v73
        subst e_v73
        refine r_aload_n hC dX0_endMove_84 rfl ?_
        refine z_getI (jz := 1) hM dX0_endMove_85 fl_RX0_15 rfl rfl rfl (fun v74 h_v74 o_v74 t_v74 => ?_)
        have e_v74 : b = v74 := ((t_v74 ((Or.inl (by first | exact trivial | exact tb7_ (by decide) | simp [Tb])))).trans ((a_ρ63 _ _ _ (by first | exact xs_ (by decide) | exact xc_ (by decide) | omega)).trans ((a_ρ59 _ _ _ (by first | exact xs_ (by decide) | exact xc_ (by decide) | omega)).trans ((a_ρ56 _ _ _ (by first | exact xs_ (by decide) | exact xc_ (by decide) | omega)).trans q_ρ55)))).symm
        clear t_v74
        subst e_v74
        refine r_iaddE hC ((f + b)) dX0_endMove_88 (by omega) (by unfold inR; omega) ?_
        refine z_putIG (jz := 0) hM dX0_endMove_89 fw_RX0_9 rfl rfl rfl ⟨Or.inr (by first | exact id | exact dl7_ (by decide) | simp [DL]), Or.inr (by first | exact id | exact df14_ (by decide) | simp [DF])⟩ (by first | trivial | (simp only [Okv]; omega) | (simp [Okv]; try omega)) (fun ρ75 a_ρ75 q_ρ75 => ?_)
        refine r_aload_n hC dX0_endMove_92 rfl ?_
        refine r_iconst hC dX0_endMove_93 rfl ?_
        refine z_putIG (jz := 1) hM dX0_endMove_94 fw_RX0_15 rfl rfl rfl ⟨Or.inr (by first | exact id | exact dl7_ (by decide) | simp [DL]), Or.inr (by first | exact id | exact df14_ (by decide) | simp [DF])⟩ (by first | trivial | (simp only [Okv]; omega) | (simp [Okv]; try omega)) (fun ρ76 a_ρ76 q_ρ76 => ?_)
        refine r_aload_n hC dX0_endMove_97 rfl ?_
        refine r_iload_n hC dX0_endMove_98 rfl ?_
        refine z_putIG (jz := 4) hM dX0_endMove_99 fw_RX0_24 rfl rfl rfl ⟨Or.inr (by first | exact id | exact dl7_ (by decide) | simp [DL]), Or.inr (by first | exact id | exact df14_ (by decide) | simp [DF])⟩ (by first | trivial | (simp only [Okv]; omega) | (simp [Okv]; try omega)) (fun ρ77 a_ρ77 q_ρ77 => ?_)
        refine r_aload_n hC dX0_endMove_102 rfl ?_
        refine r_dup hC dX0_endMove_103 rfl ?_
        refine z_getI (jz := 5) hM dX0_endMove_104 fl_RX0_27 rfl rfl rfl (fun v78 h_v78 o_v78 t_v78 => ?_)
        have e_v78 : s = v78 := ((t_v78 ((Or.inl (by first | exact trivial | exact tb7_ (by decide) | simp [Tb])))).trans ((a_ρ77 _ _ _ (by first | exact xs_ (by decide) | exact xc_ (by decide) | omega)).trans ((a_ρ76 _ _ _ (by first | exact xs_ (by decide) | exact xc_ (by decide) | omega)).trans ((a_ρ75 _ _ _ (by first | exact xs_ (by decide) | exact xc_ (by decide) | omega)).trans ((a_ρ63 _ _ _ (by first | exact xs_ (by decide) | exact xc_ (by decide) | omega)).trans ((a_ρ59 _ _ _ (by first | exact xs_ (by decide) | exact xc_ (by decide) | omega)).trans ((a_ρ56 _ _ _ (by first | exact xs_ (by decide) | exact xc_ (by decide) | omega)).trans ((a_ρ55 _ _ _ (by first | exact xs_ (by decide) | exact xc_ (by decide) | omega)).trans qg5)))))))).symm
        clear t_v78
        subst e_v78
        refine r_iload_n hC dX0_endMove_107 rfl ?_
        refine r_iadd hC dX0_endMove_108 ?_
        have f79 := inR_le (inR_wr (s + ((c - 1) + v61)))
        refine z_putIG (jz := 5) hM dX0_endMove_109 fw_RX0_27 rfl rfl rfl ⟨Or.inr (by first | exact id | exact dl7_ (by decide) | simp [DL]), Or.inr (by first | exact id | exact df14_ (by decide) | simp [DF])⟩ (by first | trivial | (simp only [Okv]; omega) | (simp [Okv]; try omega)) (fun ρ80 a_ρ80 q_ρ80 => ?_)
        refine r_aload_n hC dX0_endMove_112 rfl ?_
        refine r_aload_n hC dX0_endMove_113 rfl ?_
        refine z_getI (jz := 6) hM dX0_endMove_114 fl_RX0_30 rfl rfl rfl (fun v81 h_v81 o_v81 t_v81 => ?_)
        have e_v81 : o = v81 := ((t_v81 ((Or.inl (by first | exact trivial | exact tb7_ (by decide) | simp [Tb])))).trans ((a_ρ80 _ _ _ (by first | exact xs_ (by decide) | exact xc_ (by decide) | omega)).trans ((a_ρ77 _ _ _ (by first | exact xs_ (by decide) | exact xc_ (by decide) | omega)).trans ((a_ρ76 _ _ _ (by first | exact xs_ (by decide) | exact xc_ (by decide) | omega)).trans ((a_ρ75 _ _ _ (by first | exact xs_ (by decide) | exact xc_ (by decide) | omega)).trans ((a_ρ63 _ _ _ (by first | exact xs_ (by decide) | exact xc_ (by decide) | omega)).trans ((a_ρ59 _ _ _ (by first | exact xs_ (by decide) | exact xc_ (by decide) | omega)).trans ((a_ρ56 _ _ _ (by first | exact xs_ (by decide) | exact xc_ (by decide) | omega)).trans ((a_ρ55 _ _ _ (by first | exact xs_ (by decide) | exact xc_ (by decide) | omega)).trans qg6))))))))).symm
        clear t_v81
        subst e_v81
        refine r_iload_n hC dX0_endMove_117 rfl ?_
        refine z_ins2 hM dX0_endMove_118 tl_RX0_37 rfl (Nat.le_of_ble_eq_true rfl) (Nat.le_of_ble_eq_true rfl) ?_
        refine x_max (fun v82 h_v82 => ?_)
        refine z_putIG (jz := 6) hM dX0_endMove_121 fw_RX0_30 rfl rfl rfl ⟨Or.inr (by first | exact id | exact dl7_ (by decide) | simp [DL]), Or.inr (by first | exact id | exact df14_ (by decide) | simp [DF])⟩ (by first | trivial | (simp only [Okv]; omega) | (simp [Okv]; try omega)) (fun ρ83 a_ρ83 q_ρ83 => ?_)
        refine y_vret hK rfl dX0_endMove_124 ?_
        exact k _ ((((((((((Gx.rf).al a_ρ55 (by first | (simp; done) | omega | (simp; omega))).al a_ρ56 (by first | (simp; done) | omega | (simp; omega))).al a_ρ59 (by first | (simp; done) | omega | (simp; omega))).al a_ρ63 (by first | (simp; done) | omega | (simp; omega))).al a_ρ75 (by first | (simp; done) | omega | (simp; omega))).al a_ρ76 (by first | (simp; done) | omega | (simp; omega))).al a_ρ77 (by first | (simp; done) | omega | (simp; omega))).al a_ρ80 (by first | (simp; done) | omega | (simp; omega))).al a_ρ83 (by first | (simp; done) | omega | (simp; omega))) (by have hq := ((a_ρ83 _ _ _ (by first | exact xs_ (by decide) | exact xc_ (by decide) | omega)).trans ((a_ρ80 _ _ _ (by first | exact xs_ (by decide) | exact xc_ (by decide) | omega)).trans ((a_ρ77 _ _ _ (by first | exact xs_ (by decide) | exact xc_ (by decide) | omega)).trans ((a_ρ76 _ _ _ (by first | exact xs_ (by decide) | exact xc_ (by decide) | omega)).trans q_ρ75)))); refine hq.trans ?_; (repeat' split) <;> omega) (by have hq := ((a_ρ83 _ _ _ (by first | exact xs_ (by decide) | exact xc_ (by decide) | omega)).trans ((a_ρ80 _ _ _ (by first | exact xs_ (by decide) | exact xc_ (by decide) | omega)).trans ((a_ρ77 _ _ _ (by first | exact xs_ (by decide) | exact xc_ (by decide) | omega)).trans q_ρ76))); refine hq.trans ?_; (repeat' split) <;> omega) (by have hq := ((a_ρ83 _ _ _ (by first | exact xs_ (by decide) | exact xc_ (by decide) | omega)).trans ((a_ρ80 _ _ _ (by first | exact xs_ (by decide) | exact xc_ (by decide) | omega)).trans ((a_ρ77 _ _ _ (by first | exact xs_ (by decide) | exact xc_ (by decide) | omega)).trans ((a_ρ76 _ _ _ (by first | exact xs_ (by decide) | exact xc_ (by decide) | omega)).trans ((a_ρ75 _ _ _ (by first | exact xs_ (by decide) | exact xc_ (by decide) | omega)).trans ((a_ρ63 _ _ _ (by first | exact xs_ (by decide) | exact xc_ (by decide) | omega)).trans ((a_ρ59 _ _ _ (by first | exact xs_ (by decide) | exact xc_ (by decide) | omega)).trans q_ρ56))))))); refine hq.trans ?_; (repeat' split) <;> omega) (by have hq := ((a_ρ83 _ _ _ (by first | exact xs_ (by decide) | exact xc_ (by decide) | omega)).trans ((a_ρ80 _ _ _ (by first | exact xs_ (by decide) | exact xc_ (by decide) | omega)).trans ((a_ρ77 _ _ _ (by first | exact xs_ (by decide) | exact xc_ (by decide) | omega)).trans ((a_ρ76 _ _ _ (by first | exact xs_ (by decide) | exact xc_ (by decide) | omega)).trans ((a_ρ75 _ _ _ (by first | exact xs_ (by decide) | exact xc_ (by decide) | omega)).trans q_ρ63))))); refine hq.trans ?_; (repeat' split) <;> omega) (by have hq := ((a_ρ83 _ _ _ (by first | exact xs_ (by decide) | exact xc_ (by decide) | omega)).trans ((a_ρ80 _ _ _ (by first | exact xs_ (by decide) | exact xc_ (by decide) | omega)).trans q_ρ77)); refine hq.trans ?_; (repeat' split) <;> omega) (by have hq := ((a_ρ83 _ _ _ (by first | exact xs_ (by decide) | exact xc_ (by decide) | omega)).trans q_ρ80); refine hq.trans (congrArg wr ?_); (repeat' split) <;> omega) (by have hq := q_ρ83; refine hq.trans ?_; (repeat' split) <;> omega)
theorem x_endMoveM {eb ec : Bool} {d : Nat} {P : Option Vl → Mm → Prop} {σ : Mm} {i c f m b l : Int} (b_i : 0 ≤ i ∧ i ≤ 7) (b_c : 0 ≤ c ∧ c ≤ 1) (q0 : σ 11 i 0 = f) (q1 : σ 11 i 1 = m) (q2 : σ 11 i 2 = b) (q3 : σ 11 i 3 = l) (b_f : -1 ≤ f ∧ f ≤ 121) (b_m : 0 ≤ m ∧ m ≤ 121) (b_b : 0 ≤ b ∧ b ≤ 122) (b_l : 0 ≤ l ∧ l ≤ 242) (k : P none (su σ 11 i (emR c (σ 11 i)))) : WT (true, eb, ec) (d + 2) 6 [vR 11 i, vI c] σ P := by
  refine x_endMove (q := σ 11 i 4) (s := σ 11 i 5) (o := σ 11 i 6) b_i b_c b_f q0 b_m q1 b_b q2 b_l q3 rfl rfl rfl (fun ρ g h0 h1 h2 h3 h4 h5 h6 => ?_)
  subst q0 q1 q2 q3
  have e : ρ = su σ 11 i (emR c (σ 11 i)) := mu7 g h0 h1 h2 h3 h4 h5 h6
  rw [e]
  exact k
theorem x_maxE {e : Ev} {d : Nat} {P : Option Vl → Mm → Prop} {σ : Mm} {a b : Int} (k : P (some (vI (max a b))) σ) : WT e (d + 1) 264 [vI a, vI b] σ P := x_max (fun r h => by
  have e : r = max a b := by omega
  subst e
  exact k)
theorem x_minE {e : Ev} {d : Nat} {P : Option Vl → Mm → Prop} {σ : Mm} {a b : Int} (k : P (some (vI (min a b))) σ) : WT e (d + 1) 265 [vI a, vI b] σ P := x_min (fun r h => by
  have e : r = min a b := by omega
  subst e
  exact k)
theorem x_add {eb ec : Bool} {d : Nat} {P : Option Vl → Mm → Prop} {σ : Mm} {i : Int} (b_i : 0 ≤ i ∧ i ≤ 7) (hF : (0 ≤ σ 11 i 0 ∧ σ 11 i 0 ≤ 121) ∧ (0 ≤ σ 11 i 1 ∧ σ 11 i 1 ≤ 121) ∧ (0 ≤ σ 11 i 2 ∧ σ 11 i 2 ≤ 121) ∧ 0 ≤ σ 11 i 3 ∧ σ 11 i 3 ≤ 242)  (k : P none (adM σ i)) : WT (true, eb, ec) (d + 3) 3 [vR 11 i] σ P := by
  refine WT_in fun K hK => ?_
  have hK : StpY (true, eb, ec) cX0_add RX0 (none) (WT (true, eb, ec) (d + 2)) P K := hK
  have hM := hK.1
  have hC := hK.1.1
  show K 0 [some (vR 11 i), none] [] σ
  refine r_aload_n hC dX0_add_0 rfl ?_
  refine z_getI (jz := 2) hM dX0_add_1 fl_RX0_18 rfl rfl rfl (fun v1 h_v1 o_v1 t_v1 => ?_)
  have w_v1 := ((t_v1 (Or.inl (by first | exact trivial | exact tb7_ (by decide) | simp [Tb]))).trans (rfl)).symm
  clear t_v1
  subst w_v1
  refine r_if_le (tgt := 11) hC dX0_add_4 rfl (fun h2 => ?_) (fun h2 => ?_)
  · refine r_iconst hC dX0_add_11 rfl ?_
    refine r_istore_n hC dX0_add_12 rfl ?_
    refine r_aload_n hC dX0_add_13 rfl ?_
    refine r_dup hC dX0_add_14 rfl ?_
    refine z_getI (jz := 2) hM dX0_add_15 fl_RX0_18 rfl rfl rfl (fun v3 h_v3 o_v3 t_v3 => ?_)
    have w_v3 := ((t_v3 (Or.inl (by first | exact trivial | exact tb7_ (by decide) | simp [Tb]))).trans (rfl)).symm
    clear t_v3
    subst w_v3
    refine r_iconst hC dX0_add_18 rfl ?_
    refine r_iaddE hC (((σ 11 i 2) + 1)) dX0_add_19 (by omega) (by unfold inR; omega) ?_
    refine z_putIT (jz := 2) hM dX0_add_20 fw_RX0_18 rfl rfl rfl ⟨Or.inr (by first | exact id | exact dl7_ (by decide) | simp [DL]), Or.inr (by first | exact id | exact df14_ (by decide) | simp [DF])⟩ (by first | trivial | (simp only [Okv]; omega) | (simp [Okv]; try omega)) ?_
    refine r_aload_n hC dX0_add_23 rfl ?_
    refine r_iload_n hC dX0_add_24 rfl ?_
    refine z_inv1 hM dX0_add_25 vl_RX0_33 rfl rfl rfl (Nat.le_of_ble_eq_true rfl) (Nat.le_of_ble_eq_true rfl) ?_
    refine x_endMoveM (by omega) (by omega) ((mu_ne (by omega)).trans (rfl)) ((mu_ne (by omega)).trans (rfl)) (mu_self _ _ _ _ _) ((mu_ne (by omega)).trans (rfl)) (by omega) (by omega) (by omega) (by omega) ?_
    refine y_vret hK rfl dX0_add_28 ?_
    have hm : adM σ i = (su (mu σ 11 i 2 ((σ 11 i 2) + 1)) 11 i (emR 0 ((mu σ 11 i 2 ((σ 11 i 2) + 1)) 11 i))) := by first | exact adM_1 (by omega) | exact adM_0 (by omega)
    rw [hm] at k
    exact k
  · refine r_iconst hC dX0_add_7 rfl ?_
    refine r_goto (tgt := 12) hC dX0_add_8 rfl ?_
    refine r_istore_n hC dX0_add_12 rfl ?_
    refine r_aload_n hC dX0_add_13 rfl ?_
    refine r_dup hC dX0_add_14 rfl ?_
    refine z_getI (jz := 2) hM dX0_add_15 fl_RX0_18 rfl rfl rfl (fun v4 h_v4 o_v4 t_v4 => ?_)
    have w_v4 := ((t_v4 (Or.inl (by first | exact trivial | exact tb7_ (by decide) | simp [Tb]))).trans (rfl)).symm
    clear t_v4
    subst w_v4
    refine r_iconst hC dX0_add_18 rfl ?_
    refine r_iaddE hC (((σ 11 i 2) + 1)) dX0_add_19 (by omega) (by unfold inR; omega) ?_
    refine z_putIT (jz := 2) hM dX0_add_20 fw_RX0_18 rfl rfl rfl ⟨Or.inr (by first | exact id | exact dl7_ (by decide) | simp [DL]), Or.inr (by first | exact id | exact df14_ (by decide) | simp [DF])⟩ (by first | trivial | (simp only [Okv]; omega) | (simp [Okv]; try omega)) ?_
    refine r_aload_n hC dX0_add_23 rfl ?_
    refine r_iload_n hC dX0_add_24 rfl ?_
    refine z_inv1 hM dX0_add_25 vl_RX0_33 rfl rfl rfl (Nat.le_of_ble_eq_true rfl) (Nat.le_of_ble_eq_true rfl) ?_
    refine x_endMoveM (by omega) (by omega) ((mu_ne (by omega)).trans (rfl)) ((mu_ne (by omega)).trans (rfl)) (mu_self _ _ _ _ _) ((mu_ne (by omega)).trans (rfl)) (by omega) (by omega) (by omega) (by omega) ?_
    refine y_vret hK rfl dX0_add_28 ?_
    have hm : adM σ i = (su (mu σ 11 i 2 ((σ 11 i 2) + 1)) 11 i (emR 1 ((mu σ 11 i 2 ((σ 11 i 2) + 1)) 11 i))) := by first | exact adM_1 (by omega) | exact adM_0 (by omega)
    rw [hm] at k
    exact k
theorem x_drop {eb ec : Bool} {d : Nat} {P : Option Vl → Mm → Prop} {σ : Mm} {i : Int} (b_i : 0 ≤ i ∧ i ≤ 7) (hF : (0 ≤ σ 11 i 0 ∧ σ 11 i 0 ≤ 121) ∧ (0 ≤ σ 11 i 1 ∧ σ 11 i 1 ≤ 121) ∧ (0 ≤ σ 11 i 2 ∧ σ 11 i 2 ≤ 121) ∧ 0 ≤ σ 11 i 3 ∧ σ 11 i 3 ≤ 242)  (k : P none (dfM σ i)) : WT (true, eb, ec) (d + 3) 4 [vR 11 i] σ P := by
  refine WT_in fun K hK => ?_
  have hK : StpY (true, eb, ec) cX0_drop RX0 (none) (WT (true, eb, ec) (d + 2)) P K := hK
  have hM := hK.1
  have hC := hK.1.1
  show K 0 [some (vR 11 i)] [] σ
  refine r_aload_n hC dX0_drop_0 rfl ?_
  refine r_dup hC dX0_drop_1 rfl ?_
  refine z_getI (jz := 0) hM dX0_drop_2 fl_RX0_9 rfl rfl rfl (fun v1 h_v1 o_v1 t_v1 => ?_)
  have w_v1 := ((t_v1 (Or.inl (by first | exact trivial | exact tb7_ (by decide) | simp [Tb]))).trans (rfl)).symm
  clear t_v1
  subst w_v1
  refine r_iconst hC dX0_drop_5 rfl ?_
  refine r_isubE hC (((σ 11 i 0) - 1)) dX0_drop_6 (by omega) (by unfold inR; omega) ?_
  refine z_putIT (jz := 0) hM dX0_drop_7 fw_RX0_9 rfl rfl rfl ⟨Or.inr (by first | exact id | exact dl7_ (by decide) | simp [DL]), Or.inr (by first | exact id | exact df14_ (by decide) | simp [DF])⟩ (by first | trivial | (simp only [Okv]; omega) | (simp [Okv]; try omega)) ?_
  refine r_aload_n hC dX0_drop_10 rfl ?_
  refine z_getI (jz := 3) hM dX0_drop_11 fl_RX0_21 rfl rfl rfl (fun v2 h_v2 o_v2 t_v2 => ?_)
  have w_v2 := ((t_v2 (Or.inl (by first | exact trivial | exact tb7_ (by decide) | simp [Tb]))).trans ((mu_ne (by omega)).trans (rfl))).symm
  clear t_v2
  subst w_v2
  refine r_if_le (tgt := 27) hC dX0_drop_14 rfl (fun h3 => ?_) (fun h3 => ?_)
  · refine r_aload_n hC dX0_drop_27 rfl ?_
    refine r_iconst hC dX0_drop_28 rfl ?_
    refine z_inv1 hM dX0_drop_29 vl_RX0_33 rfl rfl rfl (Nat.le_of_ble_eq_true rfl) (Nat.le_of_ble_eq_true rfl) ?_
    refine x_endMoveM (by omega) (by omega) (mu_self _ _ _ _ _) ((mu_ne (by omega)).trans (rfl)) ((mu_ne (by omega)).trans (rfl)) ((mu_ne (by omega)).trans (rfl)) (by omega) (by omega) (by omega) (by omega) ?_
    refine y_vret hK rfl dX0_drop_32 ?_
    have hm : dfM σ i = (su (mu σ 11 i 0 ((σ 11 i 0) - 1)) 11 i (emR 0 ((mu σ 11 i 0 ((σ 11 i 0) - 1)) 11 i))) := by first | exact dfM_1 (by omega) | exact dfM_0 (by omega)
    rw [hm] at k
    exact k
  · refine r_aload_n hC dX0_drop_17 rfl ?_
    refine r_dup hC dX0_drop_18 rfl ?_
    refine z_getI (jz := 3) hM dX0_drop_19 fl_RX0_21 rfl rfl rfl (fun v4 h_v4 o_v4 t_v4 => ?_)
    have w_v4 := ((t_v4 (Or.inl (by first | exact trivial | exact tb7_ (by decide) | simp [Tb]))).trans ((mu_ne (by omega)).trans (rfl))).symm
    clear t_v4
    subst w_v4
    refine r_iconst hC dX0_drop_22 rfl ?_
    refine r_isubE hC (((σ 11 i 3) - 1)) dX0_drop_23 (by omega) (by unfold inR; omega) ?_
    refine z_putIT (jz := 3) hM dX0_drop_24 fw_RX0_21 rfl rfl rfl ⟨Or.inr (by first | exact id | exact dl7_ (by decide) | simp [DL]), Or.inr (by first | exact id | exact df14_ (by decide) | simp [DF])⟩ (by first | trivial | (simp only [Okv]; omega) | (simp [Okv]; try omega)) ?_
    refine r_aload_n hC dX0_drop_27 rfl ?_
    refine r_iconst hC dX0_drop_28 rfl ?_
    refine z_inv1 hM dX0_drop_29 vl_RX0_33 rfl rfl rfl (Nat.le_of_ble_eq_true rfl) (Nat.le_of_ble_eq_true rfl) ?_
    refine x_endMoveM (by omega) (by omega) ((mu_ne (by omega)).trans (mu_self _ _ _ _ _)) ((mu_ne (by omega)).trans ((mu_ne (by omega)).trans (rfl))) ((mu_ne (by omega)).trans ((mu_ne (by omega)).trans (rfl))) (mu_self _ _ _ _ _) (by omega) (by omega) (by omega) (by omega) ?_
    refine y_vret hK rfl dX0_drop_32 ?_
    have hm : dfM σ i = (su (mu (mu σ 11 i 0 ((σ 11 i 0) - 1)) 11 i 3 ((σ 11 i 3) - 1)) 11 i (emR 0 ((mu (mu σ 11 i 0 ((σ 11 i 0) - 1)) 11 i 3 ((σ 11 i 3) - 1)) 11 i))) := by first | exact dfM_1 (by omega) | exact dfM_0 (by omega)
    rw [hm] at k
    exact k
theorem x_layAnew {eb ec : Bool} {d : Nat} {P : Option Vl → Mm → Prop} {σ : Mm} {i h : Int} (b_i : 0 ≤ i ∧ i ≤ 7) (b_h : 0 ≤ h ∧ h ≤ 121)  (k : P none (lyM σ i h)) : WT (true, eb, ec) (d + 2) 5 [vR 11 i, vI h] σ P := by
  refine WT_in fun K hK => ?_
  have hK : StpY (true, eb, ec) cX0_layAnew RX0 (none) (WT (true, eb, ec) (d + 1)) P K := hK
  have hM := hK.1
  have hC := hK.1.1
  show K 0 [some (vR 11 i), some (vI h)] [] σ
  refine r_aload_n hC dX0_layAnew_0 rfl ?_
  refine r_iload_n hC dX0_layAnew_1 rfl ?_
  refine z_putIT (jz := 0) hM dX0_layAnew_2 fw_RX0_9 rfl rfl rfl ⟨Or.inr (by first | exact id | exact dl7_ (by decide) | simp [DL]), Or.inr (by first | exact id | exact df14_ (by decide) | simp [DF])⟩ (by first | trivial | (simp only [Okv]; omega) | (simp [Okv]; try omega)) ?_
  refine r_aload_n hC dX0_layAnew_5 rfl ?_
  refine r_iconst hC dX0_layAnew_6 rfl ?_
  refine z_putIT (jz := 1) hM dX0_layAnew_7 fw_RX0_15 rfl rfl rfl ⟨Or.inr (by first | exact id | exact dl7_ (by decide) | simp [DL]), Or.inr (by first | exact id | exact df14_ (by decide) | simp [DF])⟩ (by first | trivial | (simp only [Okv]; omega) | (simp [Okv]; try omega)) ?_
  refine r_aload_n hC dX0_layAnew_10 rfl ?_
  refine r_iconst hC dX0_layAnew_11 rfl ?_
  refine z_putIT (jz := 2) hM dX0_layAnew_12 fw_RX0_18 rfl rfl rfl ⟨Or.inr (by first | exact id | exact dl7_ (by decide) | simp [DL]), Or.inr (by first | exact id | exact df14_ (by decide) | simp [DF])⟩ (by first | trivial | (simp only [Okv]; omega) | (simp [Okv]; try omega)) ?_
  refine r_aload_n hC dX0_layAnew_15 rfl ?_
  refine r_iconst hC dX0_layAnew_16 rfl ?_
  refine z_putIT (jz := 3) hM dX0_layAnew_17 fw_RX0_21 rfl rfl rfl ⟨Or.inr (by first | exact id | exact dl7_ (by decide) | simp [DL]), Or.inr (by first | exact id | exact df14_ (by decide) | simp [DF])⟩ (by first | trivial | (simp only [Okv]; omega) | (simp [Okv]; try omega)) ?_
  refine r_aload_n hC dX0_layAnew_20 rfl ?_
  refine r_iconst hC dX0_layAnew_21 rfl ?_
  refine r_iload_n hC dX0_layAnew_22 rfl ?_
  refine r_iconst hC dX0_layAnew_23 rfl ?_
  refine r_isubE hC ((h - 1)) dX0_layAnew_24 (by omega) (by unfold inR; omega) ?_
  refine z_ins2 hM dX0_layAnew_25 tl_RX0_37 rfl (Nat.le_of_ble_eq_true rfl) (Nat.le_of_ble_eq_true rfl) ?_
  refine x_maxE ?_
  refine z_putIT (jz := 4) hM dX0_layAnew_28 fw_RX0_24 rfl rfl rfl ⟨Or.inr (by first | exact id | exact dl7_ (by decide) | simp [DL]), Or.inr (by first | exact id | exact df14_ (by decide) | simp [DF])⟩ (by first | trivial | (simp only [Okv]; omega) | (simp [Okv]; try omega)) ?_
  refine r_aload_n hC dX0_layAnew_31 rfl ?_
  refine r_dup hC dX0_layAnew_32 rfl ?_
  refine z_getI (jz := 5) hM dX0_layAnew_33 fl_RX0_27 rfl rfl rfl (fun v1 h_v1 o_v1 t_v1 => ?_)
  have w_v1 := ((t_v1 (Or.inl (by first | exact trivial | exact tb7_ (by decide) | simp [Tb]))).trans ((mu_ne (by omega)).trans ((mu_ne (by omega)).trans ((mu_ne (by omega)).trans ((mu_ne (by omega)).trans ((mu_ne (by omega)).trans (rfl))))))).symm
  clear t_v1
  subst w_v1
  refine r_aload_n hC dX0_layAnew_36 rfl ?_
  refine z_getI (jz := 4) hM dX0_layAnew_37 fl_RX0_24 rfl rfl rfl (fun v2 h_v2 o_v2 t_v2 => ?_)
  have w_v2 := ((t_v2 (Or.inl (by first | exact trivial | exact tb7_ (by decide) | simp [Tb]))).trans (mu_self _ _ _ _ _)).symm
  clear t_v2
  subst w_v2
  refine r_iadd hC dX0_layAnew_40 ?_
  have f3 := inR_le (inR_wr ((σ 11 i 5) + (max 0 (h - 1))))
  refine z_putIT (jz := 5) hM dX0_layAnew_41 fw_RX0_27 rfl rfl rfl ⟨Or.inr (by first | exact id | exact dl7_ (by decide) | simp [DL]), Or.inr (by first | exact id | exact df14_ (by decide) | simp [DF])⟩ (by first | trivial | (simp only [Okv]; omega) | (simp [Okv]; try omega)) ?_
  refine y_vret hK rfl dX0_layAnew_44 ?_
  have hm : (mu (mu (mu (mu (mu (mu σ 11 i 0 h) 11 i 1 0) 11 i 2 0) 11 i 3 0) 11 i 4 (max 0 (h - 1))) 11 i 5 (wr ((σ 11 i 5) + (max 0 (h - 1))))) = lyM σ i h := mu7 (fun c x y h => (mu_ne (by omega)).trans ((mu_ne (by omega)).trans ((mu_ne (by omega)).trans ((mu_ne (by omega)).trans ((mu_ne (by omega)).trans ((mu_ne (by omega)).trans (rfl))))))) ((mu_ne (by omega)).trans ((mu_ne (by omega)).trans ((mu_ne (by omega)).trans ((mu_ne (by omega)).trans ((mu_ne (by omega)).trans (mu_self _ _ _ _ _)))))) ((mu_ne (by omega)).trans ((mu_ne (by omega)).trans ((mu_ne (by omega)).trans ((mu_ne (by omega)).trans (mu_self _ _ _ _ _))))) ((mu_ne (by omega)).trans ((mu_ne (by omega)).trans ((mu_ne (by omega)).trans (mu_self _ _ _ _ _)))) ((mu_ne (by omega)).trans ((mu_ne (by omega)).trans (mu_self _ _ _ _ _))) ((mu_ne (by omega)).trans (mu_self _ _ _ _ _)) (mu_self _ _ _ _ _) ((mu_ne (by omega)).trans ((mu_ne (by omega)).trans ((mu_ne (by omega)).trans ((mu_ne (by omega)).trans ((mu_ne (by omega)).trans ((mu_ne (by omega)).trans (rfl)))))))
  rw [hm] at *
  exact k
theorem x_clear {eb ec : Bool} {d : Nat} {P : Option Vl → Mm → Prop} {σ : Mm} {i : Int} (b_i : 0 ≤ i ∧ i ≤ 7)  (k : P none (su σ 11 i (zrR (σ 11 i)))) : WT (true, eb, ec) (d + 1) 1 [vR 11 i] σ P := by
  refine WT_in fun K hK => ?_
  have hK : StpY (true, eb, ec) cX0_clear RX0 (none) (WT (true, eb, ec) (d + 0)) P K := hK
  have hM := hK.1
  have hC := hK.1.1
  show K 0 [some (vR 11 i)] [] σ
  refine r_aload_n hC dX0_clear_0 rfl ?_
  refine r_iconst hC dX0_clear_1 rfl ?_
  refine z_putIT (jz := 0) hM dX0_clear_2 fw_RX0_9 rfl rfl rfl ⟨Or.inr (by first | exact id | exact dl7_ (by decide) | simp [DL]), Or.inr (by first | exact id | exact df14_ (by decide) | simp [DF])⟩ (by first | trivial | (simp only [Okv]; omega) | (simp [Okv]; try omega)) ?_
  refine r_aload_n hC dX0_clear_5 rfl ?_
  refine r_iconst hC dX0_clear_6 rfl ?_
  refine z_putIT (jz := 1) hM dX0_clear_7 fw_RX0_15 rfl rfl rfl ⟨Or.inr (by first | exact id | exact dl7_ (by decide) | simp [DL]), Or.inr (by first | exact id | exact df14_ (by decide) | simp [DF])⟩ (by first | trivial | (simp only [Okv]; omega) | (simp [Okv]; try omega)) ?_
  refine r_aload_n hC dX0_clear_10 rfl ?_
  refine r_iconst hC dX0_clear_11 rfl ?_
  refine z_putIT (jz := 2) hM dX0_clear_12 fw_RX0_18 rfl rfl rfl ⟨Or.inr (by first | exact id | exact dl7_ (by decide) | simp [DL]), Or.inr (by first | exact id | exact df14_ (by decide) | simp [DF])⟩ (by first | trivial | (simp only [Okv]; omega) | (simp [Okv]; try omega)) ?_
  refine r_aload_n hC dX0_clear_15 rfl ?_
  refine r_iconst hC dX0_clear_16 rfl ?_
  refine z_putIT (jz := 3) hM dX0_clear_17 fw_RX0_21 rfl rfl rfl ⟨Or.inr (by first | exact id | exact dl7_ (by decide) | simp [DL]), Or.inr (by first | exact id | exact df14_ (by decide) | simp [DF])⟩ (by first | trivial | (simp only [Okv]; omega) | (simp [Okv]; try omega)) ?_
  refine r_aload_n hC dX0_clear_20 rfl ?_
  refine r_iconst hC dX0_clear_21 rfl ?_
  refine z_putIT (jz := 4) hM dX0_clear_22 fw_RX0_24 rfl rfl rfl ⟨Or.inr (by first | exact id | exact dl7_ (by decide) | simp [DL]), Or.inr (by first | exact id | exact df14_ (by decide) | simp [DF])⟩ (by first | trivial | (simp only [Okv]; omega) | (simp [Okv]; try omega)) ?_
  refine r_aload_n hC dX0_clear_25 rfl ?_
  refine r_iconst hC dX0_clear_26 rfl ?_
  refine z_putIT (jz := 5) hM dX0_clear_27 fw_RX0_27 rfl rfl rfl ⟨Or.inr (by first | exact id | exact dl7_ (by decide) | simp [DL]), Or.inr (by first | exact id | exact df14_ (by decide) | simp [DF])⟩ (by first | trivial | (simp only [Okv]; omega) | (simp [Okv]; try omega)) ?_
  refine r_aload_n hC dX0_clear_30 rfl ?_
  refine r_iconst hC dX0_clear_31 rfl ?_
  refine z_putIT (jz := 6) hM dX0_clear_32 fw_RX0_30 rfl rfl rfl ⟨Or.inr (by first | exact id | exact dl7_ (by decide) | simp [DL]), Or.inr (by first | exact id | exact df14_ (by decide) | simp [DF])⟩ (by first | trivial | (simp only [Okv]; omega) | (simp [Okv]; try omega)) ?_
  refine y_vret hK rfl dX0_clear_35 ?_
  have hm : (mu (mu (mu (mu (mu (mu (mu σ 11 i 0 0) 11 i 1 0) 11 i 2 0) 11 i 3 0) 11 i 4 0) 11 i 5 0) 11 i 6 0) = su σ 11 i (zrR (σ 11 i)) := mu7 (fun c x y h => (mu_ne (by omega)).trans ((mu_ne (by omega)).trans ((mu_ne (by omega)).trans ((mu_ne (by omega)).trans ((mu_ne (by omega)).trans ((mu_ne (by omega)).trans ((mu_ne (by omega)).trans (rfl)))))))) ((mu_ne (by omega)).trans ((mu_ne (by omega)).trans ((mu_ne (by omega)).trans ((mu_ne (by omega)).trans ((mu_ne (by omega)).trans ((mu_ne (by omega)).trans (mu_self _ _ _ _ _))))))) ((mu_ne (by omega)).trans ((mu_ne (by omega)).trans ((mu_ne (by omega)).trans ((mu_ne (by omega)).trans ((mu_ne (by omega)).trans (mu_self _ _ _ _ _)))))) ((mu_ne (by omega)).trans ((mu_ne (by omega)).trans ((mu_ne (by omega)).trans ((mu_ne (by omega)).trans (mu_self _ _ _ _ _))))) ((mu_ne (by omega)).trans ((mu_ne (by omega)).trans ((mu_ne (by omega)).trans (mu_self _ _ _ _ _)))) ((mu_ne (by omega)).trans ((mu_ne (by omega)).trans (mu_self _ _ _ _ _))) ((mu_ne (by omega)).trans (mu_self _ _ _ _ _)) (mu_self _ _ _ _ _)
  rw [hm] at *
  exact k
theorem x_copyFrom {eb ec : Bool} {d : Nat} {P : Option Vl → Mm → Prop} {σ : Mm} {i j : Int} (b_i : 0 ≤ i ∧ i ≤ 7) (b_j : 0 ≤ j ∧ j ≤ 7) (hij : i ≠ j)  (k : P none (su σ 11 i (r7 (σ 11 j 0) (σ 11 j 1) (σ 11 j 2) (σ 11 j 3) (σ 11 j 4) (σ 11 j 5) (σ 11 j 6) (σ 11 i)))) : WT (true, eb, ec) (d + 1) 2 [vR 11 i, vR 11 j] σ P := by
  refine WT_in fun K hK => ?_
  have hK : StpY (true, eb, ec) cX0_copyFrom RX0 (none) (WT (true, eb, ec) (d + 0)) P K := hK
  have hM := hK.1
  have hC := hK.1.1
  show K 0 [some (vR 11 i), some (vR 11 j)] [] σ
  refine r_aload_n hC dX0_copyFrom_0 rfl ?_
  refine r_aload_n hC dX0_copyFrom_1 rfl ?_
  refine z_getI (jz := 0) hM dX0_copyFrom_2 fl_RX0_9 rfl rfl rfl (fun v1 h_v1 o_v1 t_v1 => ?_)
  have w_v1 := ((t_v1 (Or.inl (by first | exact trivial | exact tb7_ (by decide) | simp [Tb]))).trans (rfl)).symm
  clear t_v1
  subst w_v1
  refine z_putIT (jz := 0) hM dX0_copyFrom_5 fw_RX0_9 rfl rfl rfl ⟨Or.inr (by first | exact id | exact dl7_ (by decide) | simp [DL]), Or.inr (by first | exact id | exact df14_ (by decide) | simp [DF])⟩ (by first | trivial | (simp only [Okv]; omega) | (simp [Okv]; try omega)) ?_
  refine r_aload_n hC dX0_copyFrom_8 rfl ?_
  refine r_aload_n hC dX0_copyFrom_9 rfl ?_
  refine z_getI (jz := 1) hM dX0_copyFrom_10 fl_RX0_15 rfl rfl rfl (fun v2 h_v2 o_v2 t_v2 => ?_)
  have w_v2 := ((t_v2 (Or.inl (by first | exact trivial | exact tb7_ (by decide) | simp [Tb]))).trans ((mu_ne (by omega)).trans (rfl))).symm
  clear t_v2
  subst w_v2
  refine z_putIT (jz := 1) hM dX0_copyFrom_13 fw_RX0_15 rfl rfl rfl ⟨Or.inr (by first | exact id | exact dl7_ (by decide) | simp [DL]), Or.inr (by first | exact id | exact df14_ (by decide) | simp [DF])⟩ (by first | trivial | (simp only [Okv]; omega) | (simp [Okv]; try omega)) ?_
  refine r_aload_n hC dX0_copyFrom_16 rfl ?_
  refine r_aload_n hC dX0_copyFrom_17 rfl ?_
  refine z_getI (jz := 2) hM dX0_copyFrom_18 fl_RX0_18 rfl rfl rfl (fun v3 h_v3 o_v3 t_v3 => ?_)
  have w_v3 := ((t_v3 (Or.inl (by first | exact trivial | exact tb7_ (by decide) | simp [Tb]))).trans ((mu_ne (by omega)).trans ((mu_ne (by omega)).trans (rfl)))).symm
  clear t_v3
  subst w_v3
  refine z_putIT (jz := 2) hM dX0_copyFrom_21 fw_RX0_18 rfl rfl rfl ⟨Or.inr (by first | exact id | exact dl7_ (by decide) | simp [DL]), Or.inr (by first | exact id | exact df14_ (by decide) | simp [DF])⟩ (by first | trivial | (simp only [Okv]; omega) | (simp [Okv]; try omega)) ?_
  refine r_aload_n hC dX0_copyFrom_24 rfl ?_
  refine r_aload_n hC dX0_copyFrom_25 rfl ?_
  refine z_getI (jz := 3) hM dX0_copyFrom_26 fl_RX0_21 rfl rfl rfl (fun v4 h_v4 o_v4 t_v4 => ?_)
  have w_v4 := ((t_v4 (Or.inl (by first | exact trivial | exact tb7_ (by decide) | simp [Tb]))).trans ((mu_ne (by omega)).trans ((mu_ne (by omega)).trans ((mu_ne (by omega)).trans (rfl))))).symm
  clear t_v4
  subst w_v4
  refine z_putIT (jz := 3) hM dX0_copyFrom_29 fw_RX0_21 rfl rfl rfl ⟨Or.inr (by first | exact id | exact dl7_ (by decide) | simp [DL]), Or.inr (by first | exact id | exact df14_ (by decide) | simp [DF])⟩ (by first | trivial | (simp only [Okv]; omega) | (simp [Okv]; try omega)) ?_
  refine r_aload_n hC dX0_copyFrom_32 rfl ?_
  refine r_aload_n hC dX0_copyFrom_33 rfl ?_
  refine z_getI (jz := 4) hM dX0_copyFrom_34 fl_RX0_24 rfl rfl rfl (fun v5 h_v5 o_v5 t_v5 => ?_)
  have w_v5 := ((t_v5 (Or.inl (by first | exact trivial | exact tb7_ (by decide) | simp [Tb]))).trans ((mu_ne (by omega)).trans ((mu_ne (by omega)).trans ((mu_ne (by omega)).trans ((mu_ne (by omega)).trans (rfl)))))).symm
  clear t_v5
  subst w_v5
  refine z_putIT (jz := 4) hM dX0_copyFrom_37 fw_RX0_24 rfl rfl rfl ⟨Or.inr (by first | exact id | exact dl7_ (by decide) | simp [DL]), Or.inr (by first | exact id | exact df14_ (by decide) | simp [DF])⟩ (by first | trivial | (simp only [Okv]; omega) | (simp [Okv]; try omega)) ?_
  refine r_aload_n hC dX0_copyFrom_40 rfl ?_
  refine r_aload_n hC dX0_copyFrom_41 rfl ?_
  refine z_getI (jz := 5) hM dX0_copyFrom_42 fl_RX0_27 rfl rfl rfl (fun v6 h_v6 o_v6 t_v6 => ?_)
  have w_v6 := ((t_v6 (Or.inl (by first | exact trivial | exact tb7_ (by decide) | simp [Tb]))).trans ((mu_ne (by omega)).trans ((mu_ne (by omega)).trans ((mu_ne (by omega)).trans ((mu_ne (by omega)).trans ((mu_ne (by omega)).trans (rfl))))))).symm
  clear t_v6
  subst w_v6
  refine z_putIT (jz := 5) hM dX0_copyFrom_45 fw_RX0_27 rfl rfl rfl ⟨Or.inr (by first | exact id | exact dl7_ (by decide) | simp [DL]), Or.inr (by first | exact id | exact df14_ (by decide) | simp [DF])⟩ (by first | trivial | (simp only [Okv]; omega) | (simp [Okv]; try omega)) ?_
  refine r_aload_n hC dX0_copyFrom_48 rfl ?_
  refine r_aload_n hC dX0_copyFrom_49 rfl ?_
  refine z_getI (jz := 6) hM dX0_copyFrom_50 fl_RX0_30 rfl rfl rfl (fun v7 h_v7 o_v7 t_v7 => ?_)
  have w_v7 := ((t_v7 (Or.inl (by first | exact trivial | exact tb7_ (by decide) | simp [Tb]))).trans ((mu_ne (by omega)).trans ((mu_ne (by omega)).trans ((mu_ne (by omega)).trans ((mu_ne (by omega)).trans ((mu_ne (by omega)).trans ((mu_ne (by omega)).trans (rfl)))))))).symm
  clear t_v7
  subst w_v7
  refine z_putIT (jz := 6) hM dX0_copyFrom_53 fw_RX0_30 rfl rfl rfl ⟨Or.inr (by first | exact id | exact dl7_ (by decide) | simp [DL]), Or.inr (by first | exact id | exact df14_ (by decide) | simp [DF])⟩ (by first | trivial | (simp only [Okv]; omega) | (simp [Okv]; try omega)) ?_
  refine y_vret hK rfl dX0_copyFrom_56 ?_
  have hm : (mu (mu (mu (mu (mu (mu (mu σ 11 i 0 (σ 11 j 0)) 11 i 1 (σ 11 j 1)) 11 i 2 (σ 11 j 2)) 11 i 3 (σ 11 j 3)) 11 i 4 (σ 11 j 4)) 11 i 5 (σ 11 j 5)) 11 i 6 (σ 11 j 6)) = su σ 11 i (r7 (σ 11 j 0) (σ 11 j 1) (σ 11 j 2) (σ 11 j 3) (σ 11 j 4) (σ 11 j 5) (σ 11 j 6) (σ 11 i)) := mu7 (fun c x y h => (mu_ne (by omega)).trans ((mu_ne (by omega)).trans ((mu_ne (by omega)).trans ((mu_ne (by omega)).trans ((mu_ne (by omega)).trans ((mu_ne (by omega)).trans ((mu_ne (by omega)).trans (rfl)))))))) ((mu_ne (by omega)).trans ((mu_ne (by omega)).trans ((mu_ne (by omega)).trans ((mu_ne (by omega)).trans ((mu_ne (by omega)).trans ((mu_ne (by omega)).trans (mu_self _ _ _ _ _))))))) ((mu_ne (by omega)).trans ((mu_ne (by omega)).trans ((mu_ne (by omega)).trans ((mu_ne (by omega)).trans ((mu_ne (by omega)).trans (mu_self _ _ _ _ _)))))) ((mu_ne (by omega)).trans ((mu_ne (by omega)).trans ((mu_ne (by omega)).trans ((mu_ne (by omega)).trans (mu_self _ _ _ _ _))))) ((mu_ne (by omega)).trans ((mu_ne (by omega)).trans ((mu_ne (by omega)).trans (mu_self _ _ _ _ _)))) ((mu_ne (by omega)).trans ((mu_ne (by omega)).trans (mu_self _ _ _ _ _))) ((mu_ne (by omega)).trans (mu_self _ _ _ _ _)) (mu_self _ _ _ _ _)
  rw [hm] at *
  exact k
theorem x_shift {eb ec : Bool} {d : Nat} {P : Option Vl → Mm → Prop} {σ : Mm} {i f z m : Int} (b_i : 0 ≤ i ∧ i ≤ 6) (b_f : 0 ≤ f ∧ f ≤ 121) (b_z : 0 ≤ z ∧ z ≤ 121) (b_m : 0 ≤ m ∧ m ≤ 121) (h1 : f + m ≤ 121) (h2 : z + m ≤ 121)  (k : P none (cpy (cpy (cpy σ 8 i f 8 i z m) 9 i f 9 i z m) 10 i f 10 i z m)) : WT (true, eb, ec) (d + 1) 36 [vR 7 i, vI f, vI z, vI m] σ P := by
  refine WT_in fun K hK => ?_
  have hK : StpY (true, eb, ec) cX2_shift RX2 (none) (WT (true, eb, ec) (d + 0)) P K := hK
  have hM := hK.1
  have hC := hK.1.1
  show K 0 [some (vR 7 i), some (vI f), some (vI z), some (vI m)] [] σ
  refine r_aload_n hC dX2_shift_0 rfl ?_
  refine z_getR hM dX2_shift_1 fl_RX2_15 rfl rfl (vld_of (n := 7) rfl (by omega) (by omega)) ?_
  refine r_iload_n hC dX2_shift_4 rfl ?_
  refine r_aload_n hC dX2_shift_5 rfl ?_
  refine z_getR hM dX2_shift_6 fl_RX2_15 rfl rfl (vld_of (n := 7) rfl (by omega) (by omega)) ?_
  refine r_iload_n hC dX2_shift_9 rfl ?_
  refine r_iload_n hC dX2_shift_10 rfl ?_
  refine z_copyT hM dX2_shift_11 ac_RX2_72 rfl rfl (by omega) (by omega) (by omega) (by omega) (by omega) (Nat.le_of_ble_eq_true rfl) (fun _ => ⟨by simp [DL], by simp [DF]⟩) (fun _ _ _ h => by simp [Okv] at *; try exact h) (fun x _ _ _ => (Or.inl (by first | exact trivial | exact tb7_ (by decide) | simp [Tb]))) ?_
  refine r_aload_n hC dX2_shift_14 rfl ?_
  refine z_getR hM dX2_shift_15 fl_RX2_19 rfl rfl (vld_of (n := 7) rfl (by omega) (by omega)) ?_
  refine r_iload_n hC dX2_shift_18 rfl ?_
  refine r_aload_n hC dX2_shift_19 rfl ?_
  refine z_getR hM dX2_shift_20 fl_RX2_19 rfl rfl (vld_of (n := 7) rfl (by omega) (by omega)) ?_
  refine r_iload_n hC dX2_shift_23 rfl ?_
  refine r_iload_n hC dX2_shift_24 rfl ?_
  refine z_copyT hM dX2_shift_25 ac_RX2_72 rfl rfl (by omega) (by omega) (by omega) (by omega) (by omega) (Nat.le_of_ble_eq_true rfl) (fun _ => ⟨by simp [DL], by simp [DF]⟩) (fun _ _ _ h => by simp [Okv] at *; try exact h) (fun x _ _ _ => (Or.inl (by first | exact trivial | exact tb7_ (by decide) | simp [Tb]))) ?_
  refine r_aload_n hC dX2_shift_28 rfl ?_
  refine z_getR hM dX2_shift_29 fl_RX2_22 rfl rfl (vld_of (n := 7) rfl (by omega) (by omega)) ?_
  refine r_iload_n hC dX2_shift_32 rfl ?_
  refine r_aload_n hC dX2_shift_33 rfl ?_
  refine z_getR hM dX2_shift_34 fl_RX2_22 rfl rfl (vld_of (n := 7) rfl (by omega) (by omega)) ?_
  refine r_iload_n hC dX2_shift_37 rfl ?_
  refine r_iload_n hC dX2_shift_38 rfl ?_
  refine z_copyT hM dX2_shift_39 ac_RX2_72 rfl rfl (by omega) (by omega) (by omega) (by omega) (by omega) (Nat.le_of_ble_eq_true rfl) (fun _ => ⟨by simp [DL], by simp [DF]⟩) (fun _ _ _ h => by simp [Okv] at *; try exact h) (fun x _ _ _ => (Or.inl (by first | exact trivial | exact tb7_ (by decide) | simp [Tb]))) ?_
  refine y_vret hK rfl dX2_shift_42 ?_
  exact k
theorem x_insert {eb ec : Bool} {d : Nat} {P : Option Vl → Mm → Prop} {σ : Mm} {i a t v : Int} (b_i : 0 ≤ i ∧ i ≤ 6) (b_a : 0 ≤ a ∧ a ≤ 120) (b_t : -2147483648 ≤ t ∧ t ≤ 2147483647) (b_v : -1000 ≤ v ∧ v ≤ 1000) (ha : a ≤ σ 7 i 6) (hh : σ 7 i 6 ≤ 120)  (k : P none (insM σ i a t v)) : WT (true, eb, ec) (d + 2) 34 [vR 7 i, vI a, vI t, vI v] σ P := by
  refine WT_in fun K hK => ?_
  have hK : StpY (true, eb, ec) cX2_insert RX2 (none) (WT (true, eb, ec) (d + 1)) P K := hK
  have hM := hK.1
  have hC := hK.1.1
  show K 0 [some (vR 7 i), some (vI a), some (vI t), some (vI v)] [] σ
  refine r_aload_n hC dX2_insert_0 rfl ?_
  refine r_aload_n hC dX2_insert_1 rfl ?_
  refine z_getI (jz := 6) hM dX2_insert_2 fl_RX2_48 rfl rfl rfl (fun v1 h_v1 o_v1 t_v1 => ?_)
  have w_v1 := ((t_v1 (Or.inl (by first | exact trivial | exact tb7_ (by decide) | simp [Tb]))).trans (rfl)).symm
  clear t_v1
  subst w_v1
  have q_v1 : 0 ≤ (σ 7 i 6) ∧ (σ 7 i 6) ≤ 121 := o_v1.1 rfl
  refine r_iload_n hC dX2_insert_5 rfl ?_
  refine r_isubE hC (((σ 7 i 6) - a)) dX2_insert_6 (by omega) (by unfold inR; omega) ?_
  refine z_putIT (jz := 14) hM dX2_insert_7 fw_RX2_63 rfl rfl rfl ⟨Or.inr (by first | exact id | exact dl7_ (by decide) | simp [DL]), Or.inr (by first | exact id | exact df14_ (by decide) | simp [DF])⟩ (by first | trivial | (simp only [Okv]; omega) | (simp [Okv]; try omega)) ?_
  refine r_aload_n hC dX2_insert_10 rfl ?_
  refine r_iload_n hC dX2_insert_11 rfl ?_
  refine r_iload_n hC dX2_insert_12 rfl ?_
  refine r_iconst hC dX2_insert_13 rfl ?_
  refine r_iaddE hC ((a + 1)) dX2_insert_14 (by omega) (by unfold inR; omega) ?_
  refine r_aload_n hC dX2_insert_15 rfl ?_
  refine z_getI (jz := 14) hM dX2_insert_16 fl_RX2_63 rfl rfl rfl (fun v2 h_v2 o_v2 t_v2 => ?_)
  have w_v2 := ((t_v2 (Or.inl (by first | exact trivial | exact tb7_ (by decide) | simp [Tb]))).trans (mu_self _ _ _ _ _)).symm
  clear t_v2
  subst w_v2
  refine z_inv3 hM dX2_insert_19 vl_RX2_89 rfl rfl rfl (Nat.le_of_ble_eq_true rfl) (Nat.le_of_ble_eq_true rfl) ?_
  refine x_shift (by omega) (by omega) (by omega) (by omega) (by omega) (by omega) ?_
  refine r_aload_n hC dX2_insert_22 rfl ?_
  refine z_getR hM dX2_insert_23 fl_RX2_15 rfl rfl (vld_of (n := 7) rfl (by omega) (by omega)) ?_
  refine r_iload_n hC dX2_insert_26 rfl ?_
  refine r_iload_n hC dX2_insert_27 rfl ?_
  refine z_iastT hM dX2_insert_28 rfl (by omega) (by omega) ⟨Or.inr (by first | exact id | exact dl7_ (by decide) | simp [DL]), Or.inr (by first | exact id | exact df14_ (by decide) | simp [DF])⟩ (by first | trivial | (simp only [Okv]; omega) | (simp [Okv]; try omega)) ?_
  refine r_aload_n hC dX2_insert_29 rfl ?_
  refine z_getR hM dX2_insert_30 fl_RX2_19 rfl rfl (vld_of (n := 7) rfl (by omega) (by omega)) ?_
  refine r_iload_n hC dX2_insert_33 rfl ?_
  refine r_iload_n hC dX2_insert_34 rfl ?_
  refine z_iastT hM dX2_insert_35 rfl (by omega) (by omega) ⟨Or.inr (by first | exact id | exact dl7_ (by decide) | simp [DL]), Or.inr (by first | exact id | exact df14_ (by decide) | simp [DF])⟩ (by first | trivial | (simp only [Okv]; omega) | (simp [Okv]; try omega)) ?_
  refine r_aload_n hC dX2_insert_36 rfl ?_
  refine z_getR hM dX2_insert_37 fl_RX2_22 rfl rfl (vld_of (n := 7) rfl (by omega) (by omega)) ?_
  refine r_iload_n hC dX2_insert_40 rfl ?_
  refine r_aload_n hC dX2_insert_41 rfl ?_
  refine z_getI (jz := 12) hM dX2_insert_42 fl_RX2_57 rfl rfl rfl (fun v3 h_v3 o_v3 t_v3 => ?_)
  have w_v3 := ((t_v3 (Or.inl (by first | exact trivial | exact tb7_ (by decide) | simp [Tb]))).trans ((mu_ne (by omega)).trans ((mu_ne (by omega)).trans ((cpy_ne (by omega)).trans ((cpy_ne (by omega)).trans ((cpy_ne (by omega)).trans ((mu_ne (by omega)).trans (rfl)))))))).symm
  clear t_v3
  subst w_v3
  refine z_iastT hM dX2_insert_45 rfl (by omega) (by omega) ⟨Or.inr (by first | exact id | exact dl7_ (by decide) | simp [DL]), Or.inr (by first | exact id | exact df14_ (by decide) | simp [DF])⟩ (by first | trivial | (simp only [Okv]; omega) | (simp [Okv]; try omega)) ?_
  refine r_aload_n hC dX2_insert_46 rfl ?_
  refine r_dup hC dX2_insert_47 rfl ?_
  refine z_getI (jz := 6) hM dX2_insert_48 fl_RX2_48 rfl rfl rfl (fun v4 h_v4 o_v4 t_v4 => ?_)
  have w_v4 := ((t_v4 (Or.inl (by first | exact trivial | exact tb7_ (by decide) | simp [Tb]))).trans ((mu_ne (by omega)).trans ((mu_ne (by omega)).trans ((mu_ne (by omega)).trans ((cpy_ne (by omega)).trans ((cpy_ne (by omega)).trans ((cpy_ne (by omega)).trans ((mu_ne (by omega)).trans (rfl))))))))).symm
  clear t_v4
  subst w_v4
  have q_v4 : 0 ≤ (σ 7 i 6) ∧ (σ 7 i 6) ≤ 121 := o_v4.1 rfl
  refine r_iconst hC dX2_insert_51 rfl ?_
  refine r_iaddE hC (((σ 7 i 6) + 1)) dX2_insert_52 (by omega) (by unfold inR; omega) ?_
  refine z_putIT (jz := 6) hM dX2_insert_53 fw_RX2_48 rfl rfl rfl ⟨Or.inl rfl, Or.inr (by first | exact id | exact df14_ (by decide) | simp [DF])⟩ (by first | trivial | (simp only [Okv]; omega) | (simp [Okv]; try omega)) ?_
  refine r_aload_n hC dX2_insert_56 rfl ?_
  refine r_dup hC dX2_insert_57 rfl ?_
  refine z_getI (jz := 12) hM dX2_insert_58 fl_RX2_57 rfl rfl rfl (fun v5 h_v5 o_v5 t_v5 => ?_)
  have w_v5 := ((t_v5 (Or.inl (by first | exact trivial | exact tb7_ (by decide) | simp [Tb]))).trans ((mu_ne (by omega)).trans ((mu_ne (by omega)).trans ((mu_ne (by omega)).trans ((mu_ne (by omega)).trans ((cpy_ne (by omega)).trans ((cpy_ne (by omega)).trans ((cpy_ne (by omega)).trans ((mu_ne (by omega)).trans (rfl)))))))))).symm
  clear t_v5
  subst w_v5
  refine r_iconst hC dX2_insert_61 rfl ?_
  refine r_iadd hC dX2_insert_62 ?_
  have f6 := inR_le (inR_wr ((σ 7 i 12) + 1))
  refine z_putIT (jz := 12) hM dX2_insert_63 fw_RX2_57 rfl rfl rfl ⟨Or.inr (by first | exact id | exact dl7_ (by decide) | simp [DL]), Or.inr (by first | exact id | exact df14_ (by decide) | simp [DF])⟩ (by first | trivial | (simp only [Okv]; omega) | (simp [Okv]; try omega)) ?_
  refine r_aload_n hC dX2_insert_66 rfl ?_
  refine r_aload_n hC dX2_insert_67 rfl ?_
  refine z_getI (jz := 10) hM dX2_insert_68 fl_RX2_51 rfl rfl rfl (fun v7 h_v7 o_v7 t_v7 => ?_)
  have w_v7 := ((t_v7 (Or.inl (by first | exact trivial | exact tb7_ (by decide) | simp [Tb]))).trans ((mu_ne (by omega)).trans ((mu_ne (by omega)).trans ((mu_ne (by omega)).trans ((mu_ne (by omega)).trans ((mu_ne (by omega)).trans ((cpy_ne (by omega)).trans ((cpy_ne (by omega)).trans ((cpy_ne (by omega)).trans ((mu_ne (by omega)).trans (rfl))))))))))).symm
  clear t_v7
  subst w_v7
  refine r_iload_n hC dX2_insert_71 rfl ?_
  refine z_ins2 hM dX2_insert_72 tl_RX2_93 rfl (Nat.le_of_ble_eq_true rfl) (Nat.le_of_ble_eq_true rfl) ?_
  refine x_maxE ?_
  refine z_putIT (jz := 10) hM dX2_insert_75 fw_RX2_51 rfl rfl rfl ⟨Or.inr (by first | exact id | exact dl7_ (by decide) | simp [DL]), Or.inr (by first | exact id | exact df14_ (by decide) | simp [DF])⟩ (by first | trivial | (simp only [Okv]; omega) | (simp [Okv]; try omega)) ?_
  refine y_vret hK rfl dX2_insert_78 ?_
  have hm : insM σ i a t v = (mu (mu (mu (mu (mu (mu (cpy (cpy (cpy (mu σ 7 i 14 ((σ 7 i 6) - a)) 8 i a 8 i (a + 1) ((σ 7 i 6) - a)) 9 i a 9 i (a + 1) ((σ 7 i 6) - a)) 10 i a 10 i (a + 1) ((σ 7 i 6) - a)) 8 i a t) 9 i a v) 10 i a (σ 7 i 12)) 7 i 6 ((σ 7 i 6) + 1)) 7 i 12 (wr ((σ 7 i 12) + 1))) 7 i 10 (max (σ 7 i 10) t)) := insM_eq (by omega) (by omega) (by omega) (by omega)
  rw [hm] at k
  exact k
theorem x_remove {eb ec : Bool} {d : Nat} {P : Option Vl → Mm → Prop} {σ : Mm} {i a : Int} (b_i : 0 ≤ i ∧ i ≤ 6) (b_a : 0 ≤ a ∧ a ≤ 120) (ha : a < σ 7 i 6)  (k : P none (remM σ i a)) : WT (true, eb, ec) (d + 2) 35 [vR 7 i, vI a] σ P := by
  refine WT_in fun K hK => ?_
  have hK : StpY (true, eb, ec) cX2_remove RX2 (none) (WT (true, eb, ec) (d + 1)) P K := hK
  have hM := hK.1
  have hC := hK.1.1
  show K 0 [some (vR 7 i), some (vI a)] [] σ
  refine r_aload_n hC dX2_remove_0 rfl ?_
  refine r_iload_n hC dX2_remove_1 rfl ?_
  refine r_iconst hC dX2_remove_2 rfl ?_
  refine r_iaddE hC ((a + 1)) dX2_remove_3 (by omega) (by unfold inR; omega) ?_
  refine r_iload_n hC dX2_remove_4 rfl ?_
  refine r_aload_n hC dX2_remove_5 rfl ?_
  refine z_getI (jz := 6) hM dX2_remove_6 fl_RX2_48 rfl rfl rfl (fun v1 h_v1 o_v1 t_v1 => ?_)
  have w_v1 := ((t_v1 (Or.inl (by first | exact trivial | exact tb7_ (by decide) | simp [Tb]))).trans (rfl)).symm
  clear t_v1
  subst w_v1
  have q_v1 : 0 ≤ (σ 7 i 6) ∧ (σ 7 i 6) ≤ 121 := o_v1.1 rfl
  refine r_iload_n hC dX2_remove_9 rfl ?_
  refine r_isubE hC (((σ 7 i 6) - a)) dX2_remove_10 (by omega) (by unfold inR; omega) ?_
  refine r_iconst hC dX2_remove_11 rfl ?_
  refine r_isubE hC ((((σ 7 i 6) - a) - 1)) dX2_remove_12 (by omega) (by unfold inR; omega) ?_
  refine z_inv3 hM dX2_remove_13 vl_RX2_89 rfl rfl rfl (Nat.le_of_ble_eq_true rfl) (Nat.le_of_ble_eq_true rfl) ?_
  refine x_shift (by omega) (by omega) (by omega) (by omega) (by omega) (by omega) ?_
  refine r_aload_n hC dX2_remove_16 rfl ?_
  refine r_dup hC dX2_remove_17 rfl ?_
  refine z_getI (jz := 6) hM dX2_remove_18 fl_RX2_48 rfl rfl rfl (fun v2 h_v2 o_v2 t_v2 => ?_)
  have w_v2 := ((t_v2 (Or.inl (by first | exact trivial | exact tb7_ (by decide) | simp [Tb]))).trans ((cpy_ne (by omega)).trans ((cpy_ne (by omega)).trans ((cpy_ne (by omega)).trans (rfl))))).symm
  clear t_v2
  subst w_v2
  have q_v2 : 0 ≤ (σ 7 i 6) ∧ (σ 7 i 6) ≤ 121 := o_v2.1 rfl
  refine r_iconst hC dX2_remove_21 rfl ?_
  refine r_isubE hC (((σ 7 i 6) - 1)) dX2_remove_22 (by omega) (by unfold inR; omega) ?_
  refine z_putIT (jz := 6) hM dX2_remove_23 fw_RX2_48 rfl rfl rfl ⟨Or.inl rfl, Or.inr (by first | exact id | exact df14_ (by decide) | simp [DF])⟩ (by first | trivial | (simp only [Okv]; omega) | (simp [Okv]; try omega)) ?_
  refine y_vret hK rfl dX2_remove_26 ?_
  have hm : remM σ i a = (mu (cpy (cpy (cpy σ 8 i (a + 1) 8 i a (((σ 7 i 6) - a) - 1)) 9 i (a + 1) 9 i a (((σ 7 i 6) - a) - 1)) 10 i (a + 1) 10 i a (((σ 7 i 6) - a) - 1)) 7 i 6 ((σ 7 i 6) - 1)) := by rw [remM_eq (by omega)]
  rw [hm] at k
  exact k
theorem hc_gt {f : Int → Int} {t c : Int} (h : 1 ≤ c) (hf : t < f (c - 1)) : hc f t c.toNat = hc f t (c - 1).toNat := by
  rw [show c.toNat = (c - 1).toNat + 1 from by omega]
  show (if f ((c - 1).toNat : Int) ≤ t then (((c - 1).toNat : Nat) : Int) + 1 else hc f t (c - 1).toNat) = _
  rw [show (((c - 1).toNat : Nat) : Int) = c - 1 from by omega, if_neg (by omega)]
theorem hc_le {f : Int → Int} {t c : Int} (h : 1 ≤ c) (hf : f (c - 1) ≤ t) : hc f t c.toNat = c := by
  rw [show c.toNat = (c - 1).toNat + 1 from by omega]
  show (if f ((c - 1).toNat : Int) ≤ t then (((c - 1).toNat : Nat) : Int) + 1 else hc f t (c - 1).toNat) = _
  rw [show (((c - 1).toNat : Nat) : Int) = c - 1 from by omega, if_pos hf]
  omega
theorem hc_0 {f : Int → Int} {t c : Int} (h : c ≤ 0) : hc f t c.toNat = 0 := by
  rw [show c.toNat = 0 from by omega]
  rfl
theorem x_heldUntil {eb ec : Bool} {d : Nat} {P : Option Vl → Mm → Prop} {σ : Mm} {i t : Int} (b_i : 0 ≤ i ∧ i ≤ 6)  (k : 0 ≤ hU σ i t ∧ hU σ i t ≤ σ 7 i 6 → P (some (vI (hU σ i t))) σ) : WT (true, eb, ec) (d + 1) 31 [vR 7 i, vL t] σ P := by
  refine WT_in fun K hK => ?_
  have hK : StpY (true, eb, ec) cX2_heldUntil RX2 (some .int) (WT (true, eb, ec) (d + 0)) P K := hK
  have hM := hK.1
  have hC := hK.1.1
  show K 0 [some (vR 7 i), some (vL t), none, none] [] σ
  refine r_aload_n hC dX2_heldUntil_0 rfl ?_
  refine z_getI (jz := 6) hM dX2_heldUntil_1 fl_RX2_48 rfl rfl rfl (fun v1 h_v1 o_v1 t_v1 => ?_)
  have w_v1 := ((t_v1 (Or.inl (by first | exact trivial | exact tb7_ (by decide) | simp [Tb]))).trans (rfl)).symm
  clear t_v1
  subst w_v1
  have q_v1 : 0 ≤ (σ 7 i 6) ∧ (σ 7 i 6) ≤ 121 := o_v1.1 rfl
  refine r_istore_n hC dX2_heldUntil_4 rfl ?_
  have L5 : ∀ (n5 : Nat) (w2 : Int), 0 ≤ w2 ∧ w2 ≤ 121 → (hc (σ 8 i) t ((w2)).toNat = hU σ i t) → w2 - 0 < (n5 : Int) → K 5 [some (vR 7 i), some (vL t), none, some (vI w2)] [] σ := by
    intro n5
    induction n5 with
    | zero => intro w2  f_w2 i0_5 hm  ; omega
    | succ n5 ih5 =>
      intro w2  f_w2 i0_5 hm5  
      refine r_iload_n hC dX2_heldUntil_5 rfl ?_
      refine r_if_le (tgt := 29) hC dX2_heldUntil_6 rfl (fun h3 => ?_) (fun h3 => ?_)
      · refine r_iload_n hC dX2_heldUntil_29 rfl ?_
        refine y_iret hK rfl dX2_heldUntil_30 ?_
        have hv : hU σ i t = w2 := by rw [← i0_5]; first | exact hc_le (by omega) (by omega) | (rw [hc_0 (by omega)]; omega)
        have hb := hU_b (V := σ) (i := i) (t := t) (by omega)
        rw [hv] at k hb
        exact k hb
      · refine r_aload_n hC dX2_heldUntil_9 rfl ?_
        refine z_getR hM dX2_heldUntil_10 fl_RX2_15 rfl rfl (vld_of (n := 7) rfl (by omega) (by omega)) ?_
        refine r_iload_n hC dX2_heldUntil_13 rfl ?_
        refine r_iconst hC dX2_heldUntil_14 rfl ?_
        refine r_isubE hC ((w2 - 1)) dX2_heldUntil_15 (by omega) (by unfold inR; omega) ?_
        refine z_iald hM dX2_heldUntil_16 rfl (by omega) (by omega) (fun v4 h_v4 o_v4 t_v4 => ?_)
        have w_v4 := ((t_v4 (Or.inl (by first | exact trivial | exact tb7_ (by decide) | simp [Tb]))).trans (rfl)).symm
        clear t_v4
        subst w_v4
        refine r_i2l hC dX2_heldUntil_17 ?_
        refine r_lload_n hC dX2_heldUntil_18 rfl ?_
        refine r_lcmp hC dX2_heldUntil_19 ?_
        have f5 := lcmp_f (σ 8 i (w2 - 1)) t
        refine r_if_le (tgt := 29) hC dX2_heldUntil_20 rfl (fun h6 => ?_) (fun h6 => ?_)
        · refine r_iload_n hC dX2_heldUntil_29 rfl ?_
          refine y_iret hK rfl dX2_heldUntil_30 ?_
          have hv : hU σ i t = w2 := by rw [← i0_5]; first | exact hc_le (by omega) (by omega) | (rw [hc_0 (by omega)]; omega)
          have hb := hU_b (V := σ) (i := i) (t := t) (by omega)
          rw [hv] at k hb
          exact k hb
        · refine r_iincE hC ((w2 - 1)) dX2_heldUntil_23 rfl rfl (by omega) (by unfold inR; omega) ?_
          refine r_goto (tgt := 5) hC dX2_heldUntil_26 rfl ?_
          exact ih5 ((w2 - 1))  (by omega) (by first | rfl | (rw [← hc_gt (by omega) (by omega)]; exact i0_5)) (by omega)  
  exact L5 123 ((σ 7 i 6))  (by omega) (by first | rfl | (rw [← hc_gt (by omega) (by omega)]; exact i0_5)) (by omega)  
theorem x_isFull {eb ec : Bool} {d : Nat} {P : Option Vl → Mm → Prop} {σ : Mm} {i : Int} (b_i : 0 ≤ i ∧ i ≤ 6)  (k1 : (fuV σ i) → P (some (vI 1)) σ) (k0 : ¬ (fuV σ i) → P (some (vI 0)) σ) : WT (true, eb, ec) (d + 1) 29 [vR 7 i] σ P := by
  refine WT_in fun K hK => ?_
  have hK : StpY (true, eb, ec) cX2_isFull RX2 (some .boolean) (WT (true, eb, ec) (d + 0)) P K := hK
  have hM := hK.1
  have hC := hK.1.1
  show K 0 [some (vR 7 i)] [] σ
  refine r_aload_n hC dX2_isFull_0 rfl ?_
  refine z_getI (jz := 3) hM dX2_isFull_1 fl_RX2_39 rfl rfl rfl (fun v1 h_v1 o_v1 t_v1 => ?_)
  have w_v1 := ((t_v1 (Or.inl (by first | exact trivial | exact tb7_ (by decide) | simp [Tb]))).trans (rfl)).symm
  clear t_v1
  subst w_v1
  refine r_iconst hC dX2_isFull_4 rfl ?_
  refine r_icmp_eq (tgt := 21) hC dX2_isFull_5 rfl (fun h2 => ?_) (fun h2 => ?_)
  · refine r_iconst hC dX2_isFull_21 rfl ?_
    refine y_zret hK rfl dX2_isFull_22 (by omega) ?_
    first | exact k1 (by omega) | exact k0 (by omega)
  · refine r_aload_n hC dX2_isFull_8 rfl ?_
    refine z_getI (jz := 6) hM dX2_isFull_9 fl_RX2_48 rfl rfl rfl (fun v3 h_v3 o_v3 t_v3 => ?_)
    have w_v3 := ((t_v3 (Or.inl (by first | exact trivial | exact tb7_ (by decide) | simp [Tb]))).trans (rfl)).symm
    clear t_v3
    subst w_v3
    have q_v3 : 0 ≤ (σ 7 i 6) ∧ (σ 7 i 6) ≤ 121 := o_v3.1 rfl
    refine r_bipush hC dX2_isFull_12 rfl ?_
    refine r_icmp_lt (tgt := 21) hC dX2_isFull_14 rfl (fun h4 => ?_) (fun h4 => ?_)
    · refine r_iconst hC dX2_isFull_21 rfl ?_
      refine y_zret hK rfl dX2_isFull_22 (by omega) ?_
      first | exact k1 (by omega) | exact k0 (by omega)
    · refine r_iconst hC dX2_isFull_17 rfl ?_
      refine r_goto (tgt := 22) hC dX2_isFull_18 rfl ?_
      refine y_zret hK rfl dX2_isFull_22 (by omega) ?_
      first | exact k1 (by omega) | exact k0 (by omega)
theorem x_isTooLate {eb ec : Bool} {d : Nat} {P : Option Vl → Mm → Prop} {σ : Mm} {i t : Int} (b_i : 0 ≤ i ∧ i ≤ 6)  (k1 : (t < wr (σ 7 i 10 - σ 7 i 5)) → P (some (vI 1)) σ) (k0 : ¬ (t < wr (σ 7 i 10 - σ 7 i 5)) → P (some (vI 0)) σ) : WT (true, eb, ec) (d + 1) 30 [vR 7 i, vI t] σ P := by
  refine WT_in fun K hK => ?_
  have hK : StpY (true, eb, ec) cX2_isTooLate RX2 (some .boolean) (WT (true, eb, ec) (d + 0)) P K := hK
  have hM := hK.1
  have hC := hK.1.1
  show K 0 [some (vR 7 i), some (vI t)] [] σ
  refine r_rngz hC (fun g0 => ?_)
  have r_t : -2147483648 ≤ t ∧ t ≤ 2147483647 := inR_le (g0 (vI t) (by simp))
  refine r_iload_n hC dX2_isTooLate_0 rfl ?_
  refine r_aload_n hC dX2_isTooLate_1 rfl ?_
  refine z_getI (jz := 10) hM dX2_isTooLate_2 fl_RX2_51 rfl rfl rfl (fun v1 h_v1 o_v1 t_v1 => ?_)
  have w_v1 := ((t_v1 (Or.inl (by first | exact trivial | exact tb7_ (by decide) | simp [Tb]))).trans (rfl)).symm
  clear t_v1
  subst w_v1
  refine r_aload_n hC dX2_isTooLate_5 rfl ?_
  refine z_getI (jz := 5) hM dX2_isTooLate_6 fl_RX2_45 rfl rfl rfl (fun v2 h_v2 o_v2 t_v2 => ?_)
  have w_v2 := ((t_v2 (Or.inl (by first | exact trivial | exact tb7_ (by decide) | simp [Tb]))).trans (rfl)).symm
  clear t_v2
  subst w_v2
  refine r_isub hC dX2_isTooLate_9 ?_
  have f3 := inR_le (inR_wr ((σ 7 i 10) - (σ 7 i 5)))
  refine r_icmp_ge (tgt := 17) hC dX2_isTooLate_10 rfl (fun h4 => ?_) (fun h4 => ?_)
  · refine r_iconst hC dX2_isTooLate_17 rfl ?_
    refine y_zret hK rfl dX2_isTooLate_18 (by omega) ?_
    first | exact k1 (by omega) | exact k0 (by omega)
  · refine r_iconst hC dX2_isTooLate_13 rfl ?_
    refine r_goto (tgt := 18) hC dX2_isTooLate_14 rfl ?_
    refine y_zret hK rfl dX2_isTooLate_18 (by omega) ?_
    first | exact k1 (by omega) | exact k0 (by omega)
theorem x_goes {eb ec : Bool} {d : Nat} {P : Option Vl → Mm → Prop} {σ : Mm} {i m t z : Int} (b_i : 0 ≤ i ∧ i ≤ 6)  (k1 : ((σ 7 i 3 = 1 ∧ σ 7 i 4 < m) ∨ (σ 7 i 3 = 2 ∧ t ≤ wr (z - σ 7 i 4))) → P (some (vI 1)) σ) (k0 : ¬ ((σ 7 i 3 = 1 ∧ σ 7 i 4 < m) ∨ (σ 7 i 3 = 2 ∧ t ≤ wr (z - σ 7 i 4))) → P (some (vI 0)) σ) : WT (true, eb, ec) (d + 1) 33 [vR 7 i, vI m, vI t, vI z] σ P := by
  refine WT_in fun K hK => ?_
  have hK : StpY (true, eb, ec) cX2_goes RX2 (some .boolean) (WT (true, eb, ec) (d + 0)) P K := hK
  have hM := hK.1
  have hC := hK.1.1
  show K 0 [some (vR 7 i), some (vI m), some (vI t), some (vI z)] [] σ
  refine r_rngz hC (fun g0 => ?_)
  have r_m : -2147483648 ≤ m ∧ m ≤ 2147483647 := inR_le (g0 (vI m) (by simp))
  have r_t : -2147483648 ≤ t ∧ t ≤ 2147483647 := inR_le (g0 (vI t) (by simp))
  have r_z : -2147483648 ≤ z ∧ z ≤ 2147483647 := inR_le (g0 (vI z) (by simp))
  refine r_aload_n hC dX2_goes_0 rfl ?_
  refine z_getI (jz := 3) hM dX2_goes_1 fl_RX2_39 rfl rfl rfl (fun v1 h_v1 o_v1 t_v1 => ?_)
  have w_v1 := ((t_v1 (Or.inl (by first | exact trivial | exact tb7_ (by decide) | simp [Tb]))).trans (rfl)).symm
  clear t_v1
  subst w_v1
  refine r_iconst hC dX2_goes_4 rfl ?_
  refine r_icmp_ne (tgt := 16) hC dX2_goes_5 rfl (fun h2 => ?_) (fun h2 => ?_)
  · refine r_aload_n hC dX2_goes_16 rfl ?_
    refine z_getI (jz := 3) hM dX2_goes_17 fl_RX2_39 rfl rfl rfl (fun v3 h_v3 o_v3 t_v3 => ?_)
    have w_v3 := ((t_v3 (Or.inl (by first | exact trivial | exact tb7_ (by decide) | simp [Tb]))).trans (rfl)).symm
    clear t_v3
    subst w_v3
    refine r_iconst hC dX2_goes_20 rfl ?_
    refine r_icmp_ne (tgt := 38) hC dX2_goes_21 rfl (fun h4 => ?_) (fun h4 => ?_)
    · refine r_iconst hC dX2_goes_38 rfl ?_
      refine y_zret hK rfl dX2_goes_39 (by omega) ?_
      first | exact k1 (by omega) | exact k0 (by omega)
    · refine r_iload_n hC dX2_goes_24 rfl ?_
      refine r_iload_n hC dX2_goes_25 rfl ?_
      refine r_aload_n hC dX2_goes_26 rfl ?_
      refine z_getI (jz := 4) hM dX2_goes_27 fl_RX2_42 rfl rfl rfl (fun v5 h_v5 o_v5 t_v5 => ?_)
      have w_v5 := ((t_v5 (Or.inl (by first | exact trivial | exact tb7_ (by decide) | simp [Tb]))).trans (rfl)).symm
      clear t_v5
      subst w_v5
      refine r_isub hC dX2_goes_30 ?_
      have f6 := inR_le (inR_wr (z - (σ 7 i 4)))
      refine r_icmp_gt (tgt := 38) hC dX2_goes_31 rfl (fun h7 => ?_) (fun h7 => ?_)
      · refine r_iconst hC dX2_goes_38 rfl ?_
        refine y_zret hK rfl dX2_goes_39 (by omega) ?_
        first | exact k1 (by omega) | exact k0 (by omega)
      · refine r_iconst hC dX2_goes_34 rfl ?_
        refine r_goto (tgt := 39) hC dX2_goes_35 rfl ?_
        refine y_zret hK rfl dX2_goes_39 (by omega) ?_
        first | exact k1 (by omega) | exact k0 (by omega)
  · refine r_iload_n hC dX2_goes_8 rfl ?_
    refine r_aload_n hC dX2_goes_9 rfl ?_
    refine z_getI (jz := 4) hM dX2_goes_10 fl_RX2_42 rfl rfl rfl (fun v8 h_v8 o_v8 t_v8 => ?_)
    have w_v8 := ((t_v8 (Or.inl (by first | exact trivial | exact tb7_ (by decide) | simp [Tb]))).trans (rfl)).symm
    clear t_v8
    subst w_v8
    refine r_icmp_gt (tgt := 34) hC dX2_goes_13 rfl (fun h9 => ?_) (fun h9 => ?_)
    · refine r_iconst hC dX2_goes_34 rfl ?_
      refine r_goto (tgt := 39) hC dX2_goes_35 rfl ?_
      refine y_zret hK rfl dX2_goes_39 (by omega) ?_
      first | exact k1 (by omega) | exact k0 (by omega)
    · refine r_aload_n hC dX2_goes_16 rfl ?_
      refine z_getI (jz := 3) hM dX2_goes_17 fl_RX2_39 rfl rfl rfl (fun v10 h_v10 o_v10 t_v10 => ?_)
      have w_v10 := ((t_v10 (Or.inl (by first | exact trivial | exact tb7_ (by decide) | simp [Tb]))).trans (rfl)).symm
      clear t_v10
      subst w_v10
      refine r_iconst hC dX2_goes_20 rfl ?_
      refine r_icmp_ne (tgt := 38) hC dX2_goes_21 rfl (fun h11 => ?_) (fun h11 => by omega)
      refine r_iconst hC dX2_goes_38 rfl ?_
      refine y_zret hK rfl dX2_goes_39 (by omega) ?_
      first | exact k1 (by omega) | exact k0 (by omega)
theorem x_startsSession {eb ec : Bool} {d : Nat} {P : Option Vl → Mm → Prop} {σ : Mm} {i x z : Int} (b_i : 0 ≤ i ∧ i ≤ 6) (b_x : 0 ≤ x ∧ x ≤ 120)  (k1 : (x = 0 ∨ wr (σ 8 i x - σ 8 i (x - 1)) > z) → P (some (vI 1)) σ) (k0 : ¬ (x = 0 ∨ wr (σ 8 i x - σ 8 i (x - 1)) > z) → P (some (vI 0)) σ) : WT (true, eb, ec) (d + 1) 32 [vR 7 i, vI x, vI z] σ P := by
  refine WT_in fun K hK => ?_
  have hK : StpY (true, eb, ec) cX2_startsSession RX2 (some .boolean) (WT (true, eb, ec) (d + 0)) P K := hK
  have hM := hK.1
  have hC := hK.1.1
  show K 0 [some (vR 7 i), some (vI x), some (vI z)] [] σ
  refine r_rngz hC (fun g0 => ?_)
  have r_z : -2147483648 ≤ z ∧ z ≤ 2147483647 := inR_le (g0 (vI z) (by simp))
  refine r_iload_n hC dX2_startsSession_0 rfl ?_
  refine r_if_eq (tgt := 23) hC dX2_startsSession_1 rfl (fun h1 => ?_) (fun h1 => ?_)
  · refine r_iconst hC dX2_startsSession_23 rfl ?_
    refine r_goto (tgt := 28) hC dX2_startsSession_24 rfl ?_
    refine y_zret hK rfl dX2_startsSession_28 (by omega) ?_
    first | exact k1 (by omega) | exact k0 (by omega)
  · refine r_aload_n hC dX2_startsSession_4 rfl ?_
    refine z_getR hM dX2_startsSession_5 fl_RX2_15 rfl rfl (vld_of (n := 7) rfl (by omega) (by omega)) ?_
    refine r_iload_n hC dX2_startsSession_8 rfl ?_
    refine z_iald hM dX2_startsSession_9 rfl (by omega) (by omega) (fun v2 h_v2 o_v2 t_v2 => ?_)
    have w_v2 := ((t_v2 (Or.inl (by first | exact trivial | exact tb7_ (by decide) | simp [Tb]))).trans (rfl)).symm
    clear t_v2
    subst w_v2
    refine r_aload_n hC dX2_startsSession_10 rfl ?_
    refine z_getR hM dX2_startsSession_11 fl_RX2_15 rfl rfl (vld_of (n := 7) rfl (by omega) (by omega)) ?_
    refine r_iload_n hC dX2_startsSession_14 rfl ?_
    refine r_iconst hC dX2_startsSession_15 rfl ?_
    refine r_isubE hC ((x - 1)) dX2_startsSession_16 (by omega) (by unfold inR; omega) ?_
    refine z_iald hM dX2_startsSession_17 rfl (by omega) (by omega) (fun v3 h_v3 o_v3 t_v3 => ?_)
    have w_v3 := ((t_v3 (Or.inl (by first | exact trivial | exact tb7_ (by decide) | simp [Tb]))).trans (rfl)).symm
    clear t_v3
    subst w_v3
    refine r_isub hC dX2_startsSession_18 ?_
    have f4 := inR_le (inR_wr ((σ 8 i x) - (σ 8 i (x - 1))))
    refine r_iload_n hC dX2_startsSession_19 rfl ?_
    refine r_icmp_le (tgt := 27) hC dX2_startsSession_20 rfl (fun h5 => ?_) (fun h5 => ?_)
    · refine r_iconst hC dX2_startsSession_27 rfl ?_
      refine y_zret hK rfl dX2_startsSession_28 (by omega) ?_
      first | exact k1 (by omega) | exact k0 (by omega)
    · refine r_iconst hC dX2_startsSession_23 rfl ?_
      refine r_goto (tgt := 28) hC dX2_startsSession_24 rfl ?_
      refine y_zret hK rfl dX2_startsSession_28 (by omega) ?_
      first | exact k1 (by omega) | exact k0 (by omega)
-- B: rings
theorem noM_eq {V ρ : Mm} {w z t : Int} (g : ∀ (c : Nat) (x y : Int), ¬ (c = 12 ∧ x = w ∧ 3 ≤ y ∧ y ≤ 5) → ρ c x y = V c x y) (h3 : ρ 12 w 3 = z) (h4 : ρ 12 w 4 = if z = 1 ∧ V 12 w 3 = 0 then wr (V 12 w 4 + 1) else V 12 w 4) (h5 : ρ 12 w 5 = if z = 1 ∧ V 12 w 3 = 0 then t else V 12 w 5) : noM V w z t = ρ := by
  funext c x y
  by_cases hq : c = 12 ∧ x = w ∧ 3 ≤ y ∧ y ≤ 5
  · obtain ⟨rfl, rfl, hy⟩ := hq
    unfold noM
    rw [if_pos ⟨rfl, rfl⟩]
    rcases (by omega : y = 3 ∨ y = 4 ∨ y = 5) with rfl | rfl | rfl
    · rw [if_pos rfl, h3]
    · rw [if_neg (by omega), if_pos rfl, h4]
    · rw [if_neg (by omega), if_neg (by omega), if_pos rfl, h5]
  · rw [noM_ne hq, g c x y hq]
theorem x_note {e : Ev} {d : Nat} {P : Option Vl → Mm → Prop} {σ : Mm} {i z t : Int} (b_i : 0 ≤ i ∧ i ≤ 7) (b_z : 0 ≤ z ∧ z ≤ 1)  (k : P none (noM σ i z t)) : WT e (d + 1) 44 [vR 12 i, vI z, vI t] σ P := by
  refine WT_in fun K hK => ?_
  have hK : StpY e cX4_note RX4 (none) (WT e (d + 0)) P K := hK
  have hM := hK.1
  have hC := hK.1.1
  show K 0 [some (vR 12 i), some (vI z), some (vI t)] [] σ
  refine r_rngz hC (fun g0 => ?_)
  have r_t : -2147483648 ≤ t ∧ t ≤ 2147483647 := inR_le (g0 (vI t) (by simp))
  refine r_iload_n hC dX4_note_0 rfl ?_
  refine r_if_eq (tgt := 26) hC dX4_note_1 rfl (fun h1 => ?_) (fun h1 => ?_)
  · refine r_aload_n hC dX4_note_26 rfl ?_
    refine r_iload_n hC dX4_note_27 rfl ?_
    refine z_putZT (jz := 3) hM dX4_note_28 fw_RX4_21 rfl rfl rfl (by omega) ⟨Or.inr (by first | exact id | exact dl7_ (by decide) | simp [DL]), Or.inr (by first | exact id | exact df14_ (by decide) | simp [DF])⟩ (by first | trivial | (simp only [Okv]; omega) | (simp [Okv]; try omega)) ?_
    refine y_vret hK rfl dX4_note_31 ?_
    have hm : noM σ i z t = (mu σ 12 i 3 z) := noM_eq (fun c x y h => (mu_ne (by omega)).trans (rfl)) ((mu_self _ _ _ _ _).trans (by first | rfl | exact (if_pos (by omega)).symm | exact (if_neg (by omega)).symm)) (((mu_ne (by omega)).trans (rfl)).trans (by first | rfl | exact (if_pos (by omega)).symm | exact (if_neg (by omega)).symm)) (((mu_ne (by omega)).trans (rfl)).trans (by first | rfl | exact (if_pos (by omega)).symm | exact (if_neg (by omega)).symm))
    rw [hm] at k
    exact k
  · refine r_aload_n hC dX4_note_4 rfl ?_
    refine z_getI (jz := 3) hM dX4_note_5 fl_RX4_21 rfl rfl rfl (fun v2 h_v2 o_v2 t_v2 => ?_)
    have w_v2 := ((t_v2 (Or.inl (by first | exact trivial | exact tb7_ (by decide) | simp [Tb]))).trans (rfl)).symm
    clear t_v2
    subst w_v2
    refine r_if_ne (tgt := 26) hC dX4_note_8 rfl (fun h3 => ?_) (fun h3 => ?_)
    · refine r_aload_n hC dX4_note_26 rfl ?_
      refine r_iload_n hC dX4_note_27 rfl ?_
      refine z_putZT (jz := 3) hM dX4_note_28 fw_RX4_21 rfl rfl rfl (by omega) ⟨Or.inr (by first | exact id | exact dl7_ (by decide) | simp [DL]), Or.inr (by first | exact id | exact df14_ (by decide) | simp [DF])⟩ (by first | trivial | (simp only [Okv]; omega) | (simp [Okv]; try omega)) ?_
      refine y_vret hK rfl dX4_note_31 ?_
      have hm : noM σ i z t = (mu σ 12 i 3 z) := noM_eq (fun c x y h => (mu_ne (by omega)).trans (rfl)) ((mu_self _ _ _ _ _).trans (by first | rfl | exact (if_pos (by omega)).symm | exact (if_neg (by omega)).symm)) (((mu_ne (by omega)).trans (rfl)).trans (by first | rfl | exact (if_pos (by omega)).symm | exact (if_neg (by omega)).symm)) (((mu_ne (by omega)).trans (rfl)).trans (by first | rfl | exact (if_pos (by omega)).symm | exact (if_neg (by omega)).symm))
      rw [hm] at k
      exact k
    · refine r_aload_n hC dX4_note_11 rfl ?_
      refine r_dup hC dX4_note_12 rfl ?_
      refine z_getI (jz := 4) hM dX4_note_13 fl_RX4_25 rfl rfl rfl (fun v4 h_v4 o_v4 t_v4 => ?_)
      have w_v4 := ((t_v4 (Or.inl (by first | exact trivial | exact tb7_ (by decide) | simp [Tb]))).trans (rfl)).symm
      clear t_v4
      subst w_v4
      refine r_iconst hC dX4_note_16 rfl ?_
      refine r_iadd hC dX4_note_17 ?_
      have f5 := inR_le (inR_wr ((σ 12 i 4) + 1))
      refine z_putIT (jz := 4) hM dX4_note_18 fw_RX4_25 rfl rfl rfl ⟨Or.inr (by first | exact id | exact dl7_ (by decide) | simp [DL]), Or.inr (by first | exact id | exact df14_ (by decide) | simp [DF])⟩ (by first | trivial | (simp only [Okv]; omega) | (simp [Okv]; try omega)) ?_
      refine r_aload_n hC dX4_note_21 rfl ?_
      refine r_iload_n hC dX4_note_22 rfl ?_
      refine z_putIT (jz := 5) hM dX4_note_23 fw_RX4_28 rfl rfl rfl ⟨Or.inr (by first | exact id | exact dl7_ (by decide) | simp [DL]), Or.inr (by first | exact id | exact df14_ (by decide) | simp [DF])⟩ (by first | trivial | (simp only [Okv]; omega) | (simp [Okv]; try omega)) ?_
      refine r_aload_n hC dX4_note_26 rfl ?_
      refine r_iload_n hC dX4_note_27 rfl ?_
      refine z_putZT (jz := 3) hM dX4_note_28 fw_RX4_21 rfl rfl rfl (by omega) ⟨Or.inr (by first | exact id | exact dl7_ (by decide) | simp [DL]), Or.inr (by first | exact id | exact df14_ (by decide) | simp [DF])⟩ (by first | trivial | (simp only [Okv]; omega) | (simp [Okv]; try omega)) ?_
      refine y_vret hK rfl dX4_note_31 ?_
      have hm : noM σ i z t = (mu (mu (mu σ 12 i 4 (wr ((σ 12 i 4) + 1))) 12 i 5 t) 12 i 3 z) := noM_eq (fun c x y h => (mu_ne (by omega)).trans ((mu_ne (by omega)).trans ((mu_ne (by omega)).trans (rfl)))) ((mu_self _ _ _ _ _).trans (by first | rfl | exact (if_pos (by omega)).symm | exact (if_neg (by omega)).symm)) (((mu_ne (by omega)).trans ((mu_ne (by omega)).trans (mu_self _ _ _ _ _))).trans (by first | rfl | exact (if_pos (by omega)).symm | exact (if_neg (by omega)).symm)) (((mu_ne (by omega)).trans (mu_self _ _ _ _ _)).trans (by first | rfl | exact (if_pos (by omega)).symm | exact (if_neg (by omega)).symm))
      rw [hm] at k
      exact k
theorem x_isWatched {e : Ev} {d : Nat} {P : Option Vl → Mm → Prop} {σ : Mm} {l : Int}   (k1 : P (some (vI 1)) σ) (k0 : (∀ j : Int, 0 ≤ j → j < 8 → σ 12 j 0 ≠ l) → P (some (vI 0)) σ) : WT e (d + 1) 103 [vR 2 0, vI l] σ P := by
  refine WT_in fun K hK => ?_
  have hK : StpY e cX5_isWatched RX5 (some .boolean) (WT e (d + 0)) P K := hK
  have hM := hK.1
  have hC := hK.1.1
  show K 0 [some (vR 2 0), some (vI l), none] [] σ
  refine r_rngz hC (fun g0 => ?_)
  have r_l : -2147483648 ≤ l ∧ l ≤ 2147483647 := inR_le (g0 (vI l) (by simp))
  refine r_iconst hC dX5_isWatched_0 rfl ?_
  refine r_istore_n hC dX5_isWatched_1 rfl ?_
  have L2 : ∀ (n2 : Nat) (w1 : Int), 0 ≤ w1 ∧ w1 ≤ 8 → (∀ j : Int, 0 ≤ j → j < (w1) → σ 12 j 0 ≠ l) → 8 - w1 < (n2 : Int) → K 2 [some (vR 2 0), some (vI l), some (vI w1)] [] σ := by
    intro n2
    induction n2 with
    | zero => intro w1  f_w1 i0_2 hm  ; omega
    | succ n2 ih2 =>
      intro w1  f_w1 i0_2 hm2  
      refine r_iload_n hC dX5_isWatched_2 rfl ?_
      refine r_bipush hC dX5_isWatched_3 rfl ?_
      refine r_icmp_ge (tgt := 29) hC dX5_isWatched_5 rfl (fun h2 => ?_) (fun h2 => ?_)
      · refine r_iconst hC dX5_isWatched_29 rfl ?_
        refine y_zret hK rfl dX5_isWatched_30 (by omega) ?_
        exact k0 (fun j h0 h1 => i0_2 j h0 (by omega))
      · refine r_aload_n hC dX5_isWatched_8 rfl ?_
        refine z_getR hM dX5_isWatched_9 fl_RX5_32 rfl rfl (vld_of (n := 1) rfl (by omega) (by omega)) ?_
        refine r_iload_n hC dX5_isWatched_12 rfl ?_
        refine z_aald hM dX5_isWatched_13 rfl (by decide) (by omega) (by omega) (vld_of (n := 8) rfl (by omega) (by omega)) ?_
        refine z_getI (jz := 0) hM dX5_isWatched_14 fl_RX5_321 rfl rfl rfl (fun v3 h_v3 o_v3 t_v3 => ?_)
        have w_v3 := ((t_v3 (Or.inl (by first | exact trivial | exact tb7_ (by decide) | simp [Tb]))).trans (rfl)).symm
        clear t_v3
        subst w_v3
        refine r_iload_n hC dX5_isWatched_17 rfl ?_
        refine r_icmp_ne (tgt := 23) hC dX5_isWatched_18 rfl (fun h4 => ?_) (fun h4 => ?_)
        · refine r_iincE hC ((w1 + 1)) dX5_isWatched_23 rfl rfl (by omega) (by unfold inR; omega) ?_
          refine r_goto (tgt := 2) hC dX5_isWatched_26 rfl ?_
          exact ih2 ((w1 + 1))  (by omega) (by first | (intro j h0 h1; omega) | (intro j h0 h1; rcases (by omega : j < w1 ∨ j = w1) with h | h; exact i0_2 j h0 h; subst h; assumption)) (by omega)  
        · refine r_iconst hC dX5_isWatched_21 rfl ?_
          refine y_zret hK rfl dX5_isWatched_22 (by omega) ?_
          exact k1
  exact L2 10 (0)  (by omega) (by first | (intro j h0 h1; omega) | (intro j h0 h1; rcases (by omega : j < w1 ∨ j = w1) with h | h; exact i0_2 j h0 h; subst h; assumption)) (by omega)  
theorem x_reaches {eb : Bool} {u : Int → Int} {n : Nat} {o : Int} {d : Nat} {P : Option Vl → Mm → Prop} {σ : Mm} {w b : Int}  (b_o : 0 ≤ o ∧ o ≤ 9) (hn : n ≤ 242) (hF : FRc σ o u n)  (k1 : ((cm (σ 16 0) (σ 15 0) o u n w) ≠ NO ∧ b ≤ (cm (σ 16 0) (σ 15 0) o u n w)) → P (some (vI 1)) σ) (k0 : ¬ ((cm (σ 16 0) (σ 15 0) o u n w) ≠ NO ∧ b ≤ (cm (σ 16 0) (σ 15 0) o u n w)) → P (some (vI 0)) σ) : WT (true, true, eb) (d + 2) 11 [vR 14 0, vI w, vI b] σ P := by
  refine WT_in fun K hK => ?_
  have hK : StpY (true, true, eb) cX1_reaches RX1 (some .boolean) (WT (true, true, eb) (d + 1)) P K := hK
  have hM := hK.1
  have hC := hK.1.1
  show K 0 [some (vR 14 0), some (vI w), some (vI b), none] [] σ
  refine r_rngz hC (fun g0 => ?_)
  have r_w : -2147483648 ≤ w ∧ w ≤ 2147483647 := inR_le (g0 (vI w) (by simp))
  have r_b : -2147483648 ≤ b ∧ b ≤ 2147483647 := inR_le (g0 (vI b) (by simp))
  refine r_aload_n hC dX1_reaches_0 rfl ?_
  refine r_iload_n hC dX1_reaches_1 rfl ?_
  refine z_inv1 hM dX1_reaches_2 vl_RX1_44 rfl rfl rfl (Nat.le_of_ble_eq_true rfl) (Nat.le_of_ble_eq_true rfl) ?_
  refine x_number b_o hF.1 hF.2.1 hn hF ?_
  refine r_istore_n hC dX1_reaches_5 rfl ?_
  refine r_iload_n hC dX1_reaches_6 rfl ?_
  refine r_ldc hC dX1_reaches_7 co_RX1_40 rfl ?_
  refine r_icmp_eq (tgt := 21) hC dX1_reaches_9 rfl (fun h1 => ?_) (fun h1 => ?_)
  · refine r_iconst hC dX1_reaches_21 rfl ?_
    refine y_zret hK rfl dX1_reaches_22 (by omega) ?_
    exact k0 (by unfold NO; omega)
  · refine r_iload_n hC dX1_reaches_12 rfl ?_
    refine r_iload_n hC dX1_reaches_13 rfl ?_
    refine r_icmp_lt (tgt := 21) hC dX1_reaches_14 rfl (fun h2 => ?_) (fun h2 => ?_)
    · refine r_iconst hC dX1_reaches_21 rfl ?_
      refine y_zret hK rfl dX1_reaches_22 (by omega) ?_
      exact k0 (by unfold NO; omega)
    · refine r_iconst hC dX1_reaches_17 rfl ?_
      refine r_goto (tgt := 22) hC dX1_reaches_18 rfl ?_
      refine y_zret hK rfl dX1_reaches_22 (by omega) ?_
      exact k1 (by unfold NO; omega)
theorem x_ring_S {eb : Bool} {d : Nat} {P : Option Vl → Mm → Prop} {σ : Mm} {i : Int} (b_i : 0 ≤ i ∧ i ≤ 6) (hn0 : σ 7 i 0 = i) (hI : InF σ)  (k : ∀ ρ : Mm, (∀ (c : Nat) (x y : Int), ¬ (c = 17 ∧ x = 0 ∨ c = 14 ∧ x = 0 ∧ (y = 5 ∨ y = 6 ∨ y = 7)) → ρ c x y = rgM σ i c x y) → InF ρ → P none ρ) : WT (true, true, eb) (d + 4) 102 [vR 2 0, vR 7 i] σ P := by
  refine WT_in fun K hK => ?_
  have hK : StpY (true, true, eb) cX5_ringWatches RX5 (none) (WT (true, true, eb) (d + 3)) P K := hK
  have hM := hK.1
  have hC := hK.1.1
  show K 0 [some (vR 2 0), some (vR 7 i), none, none] [] σ
  refine z_ok hM (fun hok => ?_)
  refine r_aload_n hC dX5_ringWatches_0 rfl ?_
  refine r_aload_n hC dX5_ringWatches_1 rfl ?_
  refine z_getI (jz := 0) hM dX5_ringWatches_2 fl_RX5_212 rfl rfl rfl (fun v1 h_v1 o_v1 t_v1 => ?_)
  have w_v1 := t_v1 (Or.inl (by first | exact trivial | exact tb7_ (by decide) | simp [Tb]))
  clear t_v1
  subst w_v1
  refine z_inv1 hM dX5_ringWatches_5 vl_RX5_324 rfl rfl rfl (Nat.le_of_ble_eq_true rfl) (Nat.le_of_ble_eq_true rfl) ?_
  refine x_isWatched ?_ (fun hnw => ?_)
  · refine r_if_ne (tgt := 12) hC dX5_ringWatches_8 rfl (fun h2 => ?_) (fun h2 => by omega)
    have b6 := (hok 7 i 6 (Or.inl (by first | exact trivial | exact tb7_ (by decide) | simp [Tb]))).1 rfl
    refine r_aload_n hC dX5_ringWatches_12 rfl ?_
    refine z_getR hM dX5_ringWatches_13 fl_RX5_40 rfl rfl (vld_of (n := 1) rfl (by omega) (by omega)) ?_
    refine r_aload_n hC dX5_ringWatches_16 rfl ?_
    refine z_getI (jz := 2) hM dX5_ringWatches_17 fl_RX5_98 rfl rfl rfl (fun v3 h_v3 o_v3 t_v3 => ?_)
    have w_v3 := t_v3 (Or.inl (by first | exact trivial | exact tb7_ (by decide) | simp [Tb]))
    clear t_v3
    subst w_v3
    have q_v3 : 0 ≤ (σ 7 i 2) ∧ (σ 7 i 2) ≤ 9 := o_v3.2.2 rfl
    refine z_inv1 hM dX5_ringWatches_20 vl_RX5_251 rfl rfl rfl (Nat.le_of_ble_eq_true rfl) (Nat.le_of_ble_eq_true rfl) ?_
    refine x_begin (by omega) rfl rfl rfl rfl rfl rfl rfl rfl rfl rfl (fun ρ4 g_ρ4 z_ρ4 => ?_)
    have t12_ρ4 : ∀ w y : Int, ρ4 12 w y = σ 12 w y := fun w y => g_ρ4 12 w y (by omega)
    refine r_iconst hC dX5_ringWatches_23 rfl ?_
    refine r_istore_n hC dX5_ringWatches_24 rfl ?_
    have L25 : ∀ (n25 : Nat) (w5 : Int) (ρ6 : Mm), 0 ≤ w5 ∧ w5 ≤ 121 → ((w5) ≤ σ 7 i 6) → 121 - w5 < (n25 : Int) → Gx (fun c x y => c = 17 ∧ x = 0 ∨ c = 14 ∧ x = 0 ∧ (y = 5 ∨ y = 6 ∨ y = 7) ∨ c = 12 ∧ 3 ≤ y ∧ y ≤ 5) σ ρ6 → (FRc ρ6 (σ 7 i 2) (σ 9 i) ((w5)).toNat) → (∀ w y : Int, ρ6 12 w y = σ 12 w y) → K 25 [some (vR 2 0), some (vR 7 i), some (vI w5), none] [] ρ6 := by
      intro n25
      induction n25 with
      | zero => intro w5 ρ6 f_w5 i0_25 hm g_ρ6 m0_25 m1_25; omega
      | succ n25 ih25 =>
        intro w5 ρ6 f_w5 i0_25 hm25 g_ρ6 m0_25 m1_25
        have q6_25 := (g_ρ6) 7 i 6 (by omega)
        refine r_iload_n hC dX5_ringWatches_25 rfl ?_
        refine r_aload_n hC dX5_ringWatches_26 rfl ?_
        refine z_getI (jz := 6) hM dX5_ringWatches_27 fl_RX5_154 rfl rfl rfl (fun v7 h_v7 o_v7 t_v7 => ?_)
        have w_v7 := t_v7 (Or.inl (by first | exact trivial | exact tb7_ (by decide) | simp [Tb]))
        clear t_v7
        subst w_v7
        have q_v7 : 0 ≤ (ρ6 7 i 6) ∧ (ρ6 7 i 6) ≤ 121 := o_v7.1 rfl
        refine r_icmp_ge (tgt := 52) hC dX5_ringWatches_30 rfl (fun h8 => ?_) (fun h8 => ?_)
        · refine r_iconst hC dX5_ringWatches_52 rfl ?_
          refine r_istore_n hC dX5_ringWatches_53 rfl ?_
          have L54 : ∀ (n54 : Nat) (w9 : Int) (ρ10 : Mm), 0 ≤ w9 ∧ w9 ≤ 8 → 8 - w9 < (n54 : Int) → Gx (fun c x y => c = 17 ∧ x = 0 ∨ c = 14 ∧ x = 0 ∧ (y = 5 ∨ y = 6 ∨ y = 7) ∨ c = 12 ∧ 3 ≤ y ∧ y ≤ 5) σ ρ10 → (FRc ρ10 (σ 7 i 2) (σ 9 i) (σ 7 i 6).toNat) → (∀ x y : Int, ρ10 12 x y = rgK σ i (w9) 12 x y) → K 54 [some (vR 2 0), some (vR 7 i), some (vI w9), none] [] ρ10 := by
            intro n54
            induction n54 with
            | zero => intro w9 ρ10 f_w9  hm g_ρ10 m0_54 m1_54; omega
            | succ n54 ih54 =>
              intro w9 ρ10 f_w9  hm54 g_ρ10 m0_54 m1_54
              refine r_iload_n hC dX5_ringWatches_54 rfl ?_
              refine r_bipush hC dX5_ringWatches_55 rfl ?_
              refine r_icmp_ge (tgt := 107) hC dX5_ringWatches_57 rfl (fun h11 => ?_) (fun h11 => ?_)
              · refine y_vret hK rfl dX5_ringWatches_107 ?_
                refine k _ (fun c x y hc => ?_) (m0_54.inF (fun j h0 h1 => by rw [(g_ρ10) 15 0 j (by omega)]; exact hok 15 0 j (Or.inl trivial)))
                have h12 : ∀ x y : Int, ρ10 12 x y = rgM σ i 12 x y := fun x y => by rw [m1_54 x y, rgK_8 (by omega)]
                by_cases e12 : c = 12
                · subst e12; exact h12 x y
                · rw [rgM_ne (by omega)]; exact (g_ρ10) c x y (by omega)
              · refine r_aload_n hC dX5_ringWatches_60 rfl ?_
                refine z_getR hM dX5_ringWatches_61 fl_RX5_32 rfl rfl (vld_of (n := 1) rfl (by omega) (by omega)) ?_
                refine r_iload_n hC dX5_ringWatches_64 rfl ?_
                refine z_aald hM dX5_ringWatches_65 rfl (by decide) (by omega) (by omega) (vld_of (n := 8) rfl (by omega) (by omega)) ?_
                refine r_astore_n hC dX5_ringWatches_66 rfl ?_
                refine r_aload_n hC dX5_ringWatches_67 rfl ?_
                refine z_getI (jz := 0) hM dX5_ringWatches_68 fl_RX5_321 rfl rfl rfl (fun v12 h_v12 o_v12 t_v12 => ?_)
                have w_v12 := t_v12 (Or.inl (by first | exact trivial | exact tb7_ (by decide) | simp [Tb]))
                clear t_v12
                subst w_v12
                refine r_aload_n hC dX5_ringWatches_71 rfl ?_
                refine z_getI (jz := 0) hM dX5_ringWatches_72 fl_RX5_212 rfl rfl rfl (fun v13 h_v13 o_v13 t_v13 => ?_)
                have w_v13 := t_v13 (Or.inl (by first | exact trivial | exact tb7_ (by decide) | simp [Tb]))
                clear t_v13
                subst w_v13
                refine r_icmp_ne (tgt := 101) hC dX5_ringWatches_75 rfl (fun h14 => ?_) (fun h14 => ?_)
                · refine r_iincE hC ((w9 + 1)) dX5_ringWatches_101 rfl rfl (by omega) (by unfold inR; omega) ?_
                  refine r_goto (tgt := 54) hC dX5_ringWatches_104 rfl ?_
                  refine r_forget hC (ls2 := [some (vR 2 0), some (vR 7 i), some (vI (w9 + 1)), none]) (lsub_some (lsub_some (lsub_some (lsub_none lsub_nil)))) ?_
                  exact ih54 ((w9 + 1)) ρ10 (by omega)  (by omega) (g_ρ10) (m0_54) (fun x y => (m1_54 x y).trans (rgK_no (by have := (m1_54 w9 0).trans (rgK_lo (by omega)); have := (g_ρ10) 7 i 0 (by omega); omega) 12 x y).symm)
                · refine r_aload_n hC dX5_ringWatches_78 rfl ?_
                  refine r_aload_n hC dX5_ringWatches_79 rfl ?_
                  refine z_getR hM dX5_ringWatches_80 fl_RX5_40 rfl rfl (vld_of (n := 1) rfl (by omega) (by omega)) ?_
                  refine r_aload_n hC dX5_ringWatches_83 rfl ?_
                  refine z_getI (jz := 1) hM dX5_ringWatches_84 fl_RX5_327 rfl rfl rfl (fun v15 h_v15 o_v15 t_v15 => ?_)
                  have w_v15 := t_v15 (Or.inl (by first | exact trivial | exact tb7_ (by decide) | simp [Tb]))
                  clear t_v15
                  subst w_v15
                  refine r_aload_n hC dX5_ringWatches_87 rfl ?_
                  refine z_getI (jz := 2) hM dX5_ringWatches_88 fl_RX5_328 rfl rfl rfl (fun v16 h_v16 o_v16 t_v16 => ?_)
                  have w_v16 := t_v16 (Or.inl (by first | exact trivial | exact tb7_ (by decide) | simp [Tb]))
                  clear t_v16
                  subst w_v16
                  refine z_inv2 hM dX5_ringWatches_91 vl_RX5_256 rfl rfl rfl (Nat.le_of_ble_eq_true rfl) (Nat.le_of_ble_eq_true rfl) ?_
                  have e16 : ρ10 16 0 = σ 16 0 := funext fun j => (g_ρ10) 16 0 j (by omega)
                  have e15 : ρ10 15 0 = σ 15 0 := funext fun j => (g_ρ10) 15 0 j (by omega)
                  have eq1 : ρ10 12 w9 1 = σ 12 w9 1 := (m1_54 _ _).trans (rgK_lo (by omega))
                  have eq2 : ρ10 12 w9 2 = σ 12 w9 2 := (m1_54 _ _).trans (rgK_lo (by omega))
                  refine x_reaches (o := σ 7 i 2) (u := (σ 9 i)) (n := (σ 7 i 6).toNat) (by omega) (by omega) m0_54 (fun h17 => ?_) (fun h17 => ?_)
                  · have hz : (1 : Int) = isR σ i w9 := by
                      rw [e16, e15, eq1, eq2] at h17
                      exact (if_pos h17).symm
                    refine r_aload_n hC dX5_ringWatches_94 rfl ?_
                    refine z_getI (jz := 10) hM dX5_ringWatches_95 fl_RX5_157 rfl rfl rfl (fun v18 h_v18 o_v18 t_v18 => ?_)
                    have w_v18 := t_v18 (Or.inl (by first | exact trivial | exact tb7_ (by decide) | simp [Tb]))
                    clear t_v18
                    subst w_v18
                    refine z_inv2 hM dX5_ringWatches_98 vl_RX5_331 rfl rfl rfl (Nat.le_of_ble_eq_true rfl) (Nat.le_of_ble_eq_true rfl) ?_
                    refine x_note (by omega) (by omega) ?_
                    obtain ⟨ρ19, e_ρ19⟩ : ∃ ρ, ρ = noM ρ10 w9 1 (ρ10 7 i 10) := ⟨_, rfl⟩
                    rw [← e_ρ19]
                    have g_ρ19 : Gx (fun c x y => c = 12 ∧ 3 ≤ y ∧ y ≤ 5) ρ10 ρ19 := fun c x y h => by rw [e_ρ19]; exact noM_ne (by omega)
                    have r_ρ19 : ∀ x y : Int, ρ19 12 x y = rgK σ i (w9 + 1) 12 x y := fun x y => by rw [e_ρ19]; exact rgK_yes (by omega) (by have := (m1_54 w9 0).trans (rgK_lo (by omega)); have := (g_ρ10) 7 i 0 (by omega); omega) m1_54 hz ((g_ρ10) 7 i 10 (by omega)) x y
                    clear e_ρ19
                    have f_ρ19 : FRc ρ19 (σ 7 i 2) (σ 9 i) (σ 7 i 6).toNat := m0_54.ext (fun j _ => g_ρ19 14 0 j (by omega)) (fun j => g_ρ19 17 0 j (by omega)) (funext fun j => g_ρ19 16 0 j (by omega)) (funext fun j => g_ρ19 15 0 j (by omega))
                    refine r_iincE hC ((w9 + 1)) dX5_ringWatches_101 rfl rfl (by omega) (by unfold inR; omega) ?_
                    refine r_goto (tgt := 54) hC dX5_ringWatches_104 rfl ?_
                    refine r_forget hC (ls2 := [some (vR 2 0), some (vR 7 i), some (vI (w9 + 1)), none]) (lsub_some (lsub_some (lsub_some (lsub_none lsub_nil)))) ?_
                    exact ih54 ((w9 + 1)) ρ19 (by omega)  (by omega) (Gx.gx (g_ρ10) g_ρ19 (by intro c x y h; omega)) (f_ρ19) (r_ρ19)
                  · have hz : (0 : Int) = isR σ i w9 := by
                      rw [e16, e15, eq1, eq2] at h17
                      exact (if_neg h17).symm
                    refine r_aload_n hC dX5_ringWatches_94 rfl ?_
                    refine z_getI (jz := 10) hM dX5_ringWatches_95 fl_RX5_157 rfl rfl rfl (fun v20 h_v20 o_v20 t_v20 => ?_)
                    have w_v20 := t_v20 (Or.inl (by first | exact trivial | exact tb7_ (by decide) | simp [Tb]))
                    clear t_v20
                    subst w_v20
                    refine z_inv2 hM dX5_ringWatches_98 vl_RX5_331 rfl rfl rfl (Nat.le_of_ble_eq_true rfl) (Nat.le_of_ble_eq_true rfl) ?_
                    refine x_note (by omega) (by omega) ?_
                    obtain ⟨ρ21, e_ρ21⟩ : ∃ ρ, ρ = noM ρ10 w9 0 (ρ10 7 i 10) := ⟨_, rfl⟩
                    rw [← e_ρ21]
                    have g_ρ21 : Gx (fun c x y => c = 12 ∧ 3 ≤ y ∧ y ≤ 5) ρ10 ρ21 := fun c x y h => by rw [e_ρ21]; exact noM_ne (by omega)
                    have r_ρ21 : ∀ x y : Int, ρ21 12 x y = rgK σ i (w9 + 1) 12 x y := fun x y => by rw [e_ρ21]; exact rgK_yes (by omega) (by have := (m1_54 w9 0).trans (rgK_lo (by omega)); have := (g_ρ10) 7 i 0 (by omega); omega) m1_54 hz ((g_ρ10) 7 i 10 (by omega)) x y
                    clear e_ρ21
                    have f_ρ21 : FRc ρ21 (σ 7 i 2) (σ 9 i) (σ 7 i 6).toNat := m0_54.ext (fun j _ => g_ρ21 14 0 j (by omega)) (fun j => g_ρ21 17 0 j (by omega)) (funext fun j => g_ρ21 16 0 j (by omega)) (funext fun j => g_ρ21 15 0 j (by omega))
                    refine r_iincE hC ((w9 + 1)) dX5_ringWatches_101 rfl rfl (by omega) (by unfold inR; omega) ?_
                    refine r_goto (tgt := 54) hC dX5_ringWatches_104 rfl ?_
                    refine r_forget hC (ls2 := [some (vR 2 0), some (vR 7 i), some (vI (w9 + 1)), none]) (lsub_some (lsub_some (lsub_some (lsub_none lsub_nil)))) ?_
                    exact ih54 ((w9 + 1)) ρ21 (by omega)  (by omega) (Gx.gx (g_ρ10) g_ρ21 (by intro c x y h; omega)) (f_ρ21) (r_ρ21)
          exact L54 10 (0) ρ6 (by omega)  (by omega) (g_ρ6) (by have h := m0_25; rw [show (w5).toNat = (σ 7 i 6).toNat from by have := (g_ρ6) 7 i 6 (by omega); omega] at h; exact h) (fun x y => (m1_25 x y).trans (rgK_0 rfl 12 x y).symm)
        · refine r_aload_n hC dX5_ringWatches_33 rfl ?_
          refine z_getR hM dX5_ringWatches_34 fl_RX5_40 rfl rfl (vld_of (n := 1) rfl (by omega) (by omega)) ?_
          refine r_aload_n hC dX5_ringWatches_37 rfl ?_
          refine z_getR hM dX5_ringWatches_38 fl_RX5_176 rfl rfl (vld_of (n := 7) rfl (by omega) (by omega)) ?_
          refine r_iload_n hC dX5_ringWatches_41 rfl ?_
          refine z_iald hM dX5_ringWatches_42 rfl (by omega) (by omega) (fun v22 h_v22 o_v22 t_v22 => ?_)
          have w_v22 := t_v22 (Or.inl trivial)
          clear t_v22
          subst w_v22
          have q_v22 : -1000 ≤ (ρ6 9 i w5) ∧ (ρ6 9 i w5) ≤ 1000 := o_v22
          refine z_inv1 hM dX5_ringWatches_43 vl_RX5_253 rfl rfl rfl (Nat.le_of_ble_eq_true rfl) (Nat.le_of_ble_eq_true rfl) ?_
          refine x_append2 (u := (σ 9 i)) (n := (w5).toNat) (by rw [show (((w5).toNat : Nat) : Int) = w5 from by omega]; exact (g_ρ6) 9 i _ (by omega)) (by omega) (by omega) (by omega) (fun j h0 h1 => hok 9 i _ (Or.inl trivial)) m0_25 (fun j h0 h1 => by rw [(g_ρ6) 15 0 j (by omega)]; exact hok 15 0 j (Or.inl trivial)) (fun ρ23 g_ρ23 r_ρ23 => ?_)
          have t12_ρ23 : ∀ w y : Int, ρ23 12 w y = σ 12 w y := fun w y => (g_ρ23 12 w y (by omega)).trans (m1_25 w y)
          refine r_iincE hC ((w5 + 1)) dX5_ringWatches_46 rfl rfl (by omega) (by unfold inR; omega) ?_
          refine r_goto (tgt := 25) hC dX5_ringWatches_49 rfl ?_
          exact ih25 ((w5 + 1)) ρ23 (by omega) (by omega) (by omega) (Gx.gx (g_ρ6) g_ρ23 (by intro c x y h; omega)) (by rw [show ((w5 + 1)).toNat = ((w5 + 1) - 1).toNat + 1 from by omega]; have h := r_ρ23; rw [show (w5 + 1) - 1 = w5 from by omega]; exact h) (t12_ρ23)
    exact L25 123 (0) ρ4 (by omega) (by omega) (by omega) (Gx.gx (Gx.rf) g_ρ4 (by intro c x y h; omega)) (by have h := z_ρ4 (σ 9 i); exact h) (t12_ρ4)
  · refine r_if_ne (tgt := 12) hC dX5_ringWatches_8 rfl (fun h24 => by omega) (fun h24 => ?_)
    refine y_vret hK rfl dX5_ringWatches_11 ?_
    exact k σ (fun c x y _ => by rw [rgM_id (fun w h0 h1 => by have := hnw w h0 h1; omega)]) hI
-- B: drops, places
theorem x_ring {eb : Bool} {d : Nat} {P : Option Vl → Mm → Prop} {σ : Mm} {i : Int} (b_i : 0 ≤ i ∧ i ≤ 6) (hn0 : σ 7 i 0 = i) (k : P none (rgM σ i)) : WT (true, false, eb) (d + 4) 102 [vR 2 0, vR 7 i] σ P := by
  refine WT_loose (true, true, eb) (fun h => h) (fun h => by cases h) (fun c j q => ?_) (fun ρ hL hF hT hO => ?_)
  · rcases q with q | q | q | q
    · exact Or.inl q
    · exact Or.inr (Or.inl q)
    · cases q.1
    · exact Or.inr (Or.inr (Or.inr q))
  · have t7 : ∀ y : Int, y ≠ 11 → ρ 7 i y = σ 7 i y := fun y hy => hT 7 i y (Or.inl hy)
    refine x_ring_S b_i ((t7 0 (by omega)).trans hn0) (hF rfl) (fun ρ2 g hI => ⟨rgM σ i, k, fun h => Or.inl h, fun _ => Or.inr hI, fun c x y q => ?_⟩)
    refine (g c x y ?_).trans (rgM_c (funext fun j => hT 16 0 j (Or.inl trivial)) (funext fun j => hT 15 0 j (Or.inl trivial)) (t7 2 (by omega)) (funext fun j => hT 9 i j (Or.inl trivial)) (t7 6 (by omega)) (t7 10 (by omega)) (fun w y => hT 12 w y (Or.inl trivial)) (hT c x y q))
    rintro (⟨rfl, rfl⟩ | ⟨rfl, rfl, h⟩)
    · rcases q with q | q | q | q
      · exact q
      · exact q.2
      · cases q.1
      · exact q.2
    · rcases q with q | q | q | q
      · exact q
      · exact q.2
      · cases q.1
      · exact q.2
theorem FI_bnd {f : Int → Int} {h : Int} (p : FI f h) (q : h ≤ 121) : (0 ≤ f 0 ∧ f 0 ≤ 121) ∧ (0 ≤ f 1 ∧ f 1 ≤ 121) ∧ (0 ≤ f 2 ∧ f 2 ≤ 121) ∧ 0 ≤ f 3 ∧ f 3 ≤ 242 := by
  unfold FI at p
  omega
theorem x_dropOldest {ec : Bool} {d : Nat} {P : Option Vl → Mm → Prop} {σ : Mm} {i : Int} (b_i : 0 ≤ i ∧ i ≤ 6) (hn0 : σ 7 i 0 = i) (hF : FI (σ 11 i) (σ 7 i 6)) (h1 : 1 ≤ σ 7 i 6) (h6 : σ 7 i 6 ≤ 121)  (k : P none (dpM σ i)) : WT (true, false, ec) (d + 5) 68 [vR 2 0, vR 7 i] σ P := by
  refine WT_in fun K hK => ?_
  have hK : StpY (true, false, ec) cX5_dropOldest RX5 (none) (WT (true, false, ec) (d + 4)) P K := hK
  have hM := hK.1
  have hC := hK.1.1
  show K 0 [some (vR 2 0), some (vR 7 i)] [] σ
  have hFB := FI_bnd hF (by omega : σ 7 i 6 ≤ 121)
  refine r_aload_n hC dX5_dropOldest_0 rfl ?_
  refine r_iconst hC dX5_dropOldest_1 rfl ?_
  refine z_inv1 hM dX5_dropOldest_2 vl_RX5_179 rfl rfl rfl (Nat.le_of_ble_eq_true rfl) (Nat.le_of_ble_eq_true rfl) ?_
  have z6_2 : σ 7 i 6 = (σ 7 i 6) := (rfl)
  refine x_remove (by omega) (by omega) (by omega) ?_
  refine r_aload_n hC dX5_dropOldest_5 rfl ?_
  refine r_dup hC dX5_dropOldest_6 rfl ?_
  refine z_getI (jz := 13) hM dX5_dropOldest_7 fl_RX5_204 rfl rfl rfl (fun v1 h_v1 o_v1 t_v1 => ?_)
  have w_v1 := ((t_v1 (Or.inl (by first | exact trivial | exact tb7_ (by decide) | simp [Tb]))).trans ((remM_ne (by omega)).trans (rfl))).symm
  clear t_v1
  subst w_v1
  refine r_iconst hC dX5_dropOldest_10 rfl ?_
  refine r_iadd hC dX5_dropOldest_11 ?_
  have f2 := inR_le (inR_wr ((σ 7 i 13) + 1))
  refine z_putIT (jz := 13) hM dX5_dropOldest_12 fw_RX5_204 rfl rfl rfl ⟨Or.inr (by first | exact id | exact dl7_ (by decide) | simp [DL]), Or.inr (by first | exact id | exact df14_ (by decide) | simp [DF])⟩ (by first | trivial | (simp only [Okv]; omega) | (simp [Okv]; try omega)) ?_
  refine r_aload_n hC dX5_dropOldest_15 rfl ?_
  refine z_getR hM dX5_dropOldest_16 fl_RX5_189 rfl rfl (vld_of (n := 8) rfl (by omega) (by omega)) ?_
  refine z_inv0 hM dX5_dropOldest_19 vl_RX5_207 rfl rfl rfl (Nat.le_of_ble_eq_true rfl) (Nat.le_of_ble_eq_true rfl) ?_
  have z0_19 : (mu (remM σ i 0) 7 i 13 (wr ((σ 7 i 13) + 1))) 11 i 0 = (σ 11 i 0) := ((mu_ne (by omega)).trans ((remM_ne (by omega)).trans (rfl)))
  have z1_19 : (mu (remM σ i 0) 7 i 13 (wr ((σ 7 i 13) + 1))) 11 i 1 = (σ 11 i 1) := ((mu_ne (by omega)).trans ((remM_ne (by omega)).trans (rfl)))
  have z2_19 : (mu (remM σ i 0) 7 i 13 (wr ((σ 7 i 13) + 1))) 11 i 2 = (σ 11 i 2) := ((mu_ne (by omega)).trans ((remM_ne (by omega)).trans (rfl)))
  have z3_19 : (mu (remM σ i 0) 7 i 13 (wr ((σ 7 i 13) + 1))) 11 i 3 = (σ 11 i 3) := ((mu_ne (by omega)).trans ((remM_ne (by omega)).trans (rfl)))
  refine x_drop (by omega) (by omega) ?_
  refine r_aload_n hC dX5_dropOldest_22 rfl ?_
  refine r_aload_n hC dX5_dropOldest_23 rfl ?_
  refine z_inv1 hM dX5_dropOldest_24 vl_RX5_195 rfl rfl rfl (Nat.le_of_ble_eq_true rfl) (Nat.le_of_ble_eq_true rfl) ?_
  refine x_ring (by omega) (((dfM_ne (by omega)).trans ((mu_ne (by omega)).trans ((remM_ne (by omega)).trans (rfl)))).trans hn0) ?_
  refine y_vret hK rfl dX5_dropOldest_27 ?_
  have hm : dpM σ i = (rgM (dfM (mu (remM σ i 0) 7 i 13 (wr ((σ 7 i 13) + 1))) i) i) := rfl
  rw [hm] at k
  exact k
theorem x_layAnewS {ec : Bool} {d : Nat} {P : Option Vl → Mm → Prop} {σ : Mm} {i : Int} (b_i : 0 ≤ i ∧ i ≤ 6) (hn0 : σ 7 i 0 = i)  (k : P none (rgM (lyM σ i (σ 7 i 6)) i)) : WT (true, false, ec) (d + 5) 69 [vR 2 0, vR 7 i] σ P := by
  refine WT_in fun K hK => ?_
  have hK : StpY (true, false, ec) cX5_layAnew RX5 (none) (WT (true, false, ec) (d + 4)) P K := hK
  have hM := hK.1
  have hC := hK.1.1
  show K 0 [some (vR 2 0), some (vR 7 i)] [] σ
  refine r_aload_n hC dX5_layAnew_0 rfl ?_
  refine z_getR hM dX5_layAnew_1 fl_RX5_189 rfl rfl (vld_of (n := 8) rfl (by omega) (by omega)) ?_
  refine r_aload_n hC dX5_layAnew_4 rfl ?_
  refine z_getI (jz := 6) hM dX5_layAnew_5 fl_RX5_154 rfl rfl rfl (fun v1 h_v1 o_v1 t_v1 => ?_)
  have w_v1 := ((t_v1 (Or.inl (by first | exact trivial | exact tb7_ (by decide) | simp [Tb]))).trans (rfl)).symm
  clear t_v1
  subst w_v1
  have q_v1 : 0 ≤ (σ 7 i 6) ∧ (σ 7 i 6) ≤ 121 := o_v1.1 rfl
  refine z_inv1 hM dX5_layAnew_8 vl_RX5_210 rfl rfl rfl (Nat.le_of_ble_eq_true rfl) (Nat.le_of_ble_eq_true rfl) ?_
  refine x_layAnew (by omega) (by omega) ?_
  refine r_aload_n hC dX5_layAnew_11 rfl ?_
  refine r_aload_n hC dX5_layAnew_12 rfl ?_
  refine z_inv1 hM dX5_layAnew_13 vl_RX5_195 rfl rfl rfl (Nat.le_of_ble_eq_true rfl) (Nat.le_of_ble_eq_true rfl) ?_
  refine x_ring (by omega) (((lyM_ne (by omega)).trans (rfl)).trans hn0) ?_
  refine y_vret hK rfl dX5_layAnew_16 ?_
  have hm : rgM (lyM σ i (σ 7 i 6)) i = (rgM (lyM σ i (σ 7 i 6)) i) := rfl
  rw [hm] at k
  exact k
theorem x_place {ec : Bool} {d : Nat} {P : Option Vl → Mm → Prop} {σ : Mm} {i t v : Int} (b_i : 0 ≤ i ∧ i ≤ 6) (b_t : -2147483648 ≤ t ∧ t ≤ 2147483647) (b_v : -1000 ≤ v ∧ v ≤ 1000) (hn0 : σ 7 i 0 = i) (hF : FI (σ 11 i) (σ 7 i 6)) (hh : 0 ≤ σ 7 i 6 ∧ σ 7 i 6 ≤ 120)  (k : P none (plM σ i t v)) : WT (true, false, ec) (d + 6) 67 [vR 2 0, vR 7 i, vI t, vI v] σ P := by
  refine WT_in fun K hK => ?_
  have hK : StpY (true, false, ec) cX5_place RX5 (none) (WT (true, false, ec) (d + 5)) P K := hK
  have hM := hK.1
  have hC := hK.1.1
  show K 0 [some (vR 2 0), some (vR 7 i), some (vI t), some (vI v), none, none, none] [] σ
  have hFB := FI_bnd hF (by omega : σ 7 i 6 ≤ 121)
  refine r_aload_n hC dX5_place_0 rfl ?_
  refine r_iload_n hC dX5_place_1 rfl ?_
  refine r_i2l hC dX5_place_2 ?_
  refine z_inv1 hM dX5_place_3 vl_RX5_167 rfl rfl rfl (Nat.le_of_ble_eq_true rfl) (Nat.le_of_ble_eq_true rfl) ?_
  refine x_heldUntil (by omega) (fun h1 => ?_)
  refine r_istore hC dX5_place_6 rfl ?_
  refine r_iload hC dX5_place_8 rfl ?_
  refine r_aload_n hC dX5_place_10 rfl ?_
  refine z_getI (jz := 6) hM dX5_place_11 fl_RX5_154 rfl rfl rfl (fun v2 h_v2 o_v2 t_v2 => ?_)
  have w_v2 := ((t_v2 (Or.inl (by first | exact trivial | exact tb7_ (by decide) | simp [Tb]))).trans (rfl)).symm
  clear t_v2
  subst w_v2
  have q_v2 : 0 ≤ (σ 7 i 6) ∧ (σ 7 i 6) ≤ 121 := o_v2.1 rfl
  refine r_icmp_ne (tgt := 21) hC dX5_place_14 rfl (fun h3 => ?_) (fun h3 => ?_)
  · refine r_iconst hC dX5_place_21 rfl ?_
    refine r_istore hC dX5_place_22 rfl ?_
    refine r_aload_n hC dX5_place_24 rfl ?_
    refine r_iload hC dX5_place_25 rfl ?_
    refine r_iload_n hC dX5_place_27 rfl ?_
    refine r_iload_n hC dX5_place_28 rfl ?_
    refine z_inv3 hM dX5_place_29 vl_RX5_185 rfl rfl rfl (Nat.le_of_ble_eq_true rfl) (Nat.le_of_ble_eq_true rfl) ?_
    have z6_29 : σ 7 i 6 = (σ 7 i 6) := (rfl)
    refine x_insert (by omega) (by omega) (by omega) (by omega) (by omega) (by omega) ?_
    refine r_iload hC dX5_place_32 rfl ?_
    refine r_if_eq (tgt := 52) hC dX5_place_34 rfl (fun h4 => ?_) (fun h4 => by omega)
    refine r_aload_n hC dX5_place_52 rfl ?_
    refine r_aload_n hC dX5_place_53 rfl ?_
    refine z_inv1 hM dX5_place_54 vl_RX5_182 rfl rfl rfl (Nat.le_of_ble_eq_true rfl) (Nat.le_of_ble_eq_true rfl) ?_
    refine x_layAnewS (by omega) (((insM_ne (by omega)).trans (rfl)).trans hn0) ?_
    rw [show (insM σ i (hU σ i t) t v) 7 i 6 = ((σ 7 i 6) + 1) from (insM_6.trans (congrArg (· + 1) (rfl)))]
    have hE : (rgM (lyM (insM σ i (hU σ i t) t v) i ((σ 7 i 6) + 1)) i) = enM σ i t v := by
      unfold enM
      first | rw [if_pos (by omega)] | rw [if_neg (by omega)]
    refine r_aload_n hC dX5_place_57 rfl ?_
    refine z_getI (jz := 6) hM dX5_place_58 fl_RX5_154 rfl rfl rfl (fun v5 h_v5 o_v5 t_v5 => ?_)
    have w_v5 := ((t_v5 (Or.inl (by first | exact trivial | exact tb7_ (by decide) | simp [Tb]))).trans ((rgM_ne (by omega)).trans ((lyM_ne (by omega)).trans (insM_6.trans (congrArg (· + 1) (rfl)))))).symm
    clear t_v5
    subst w_v5
    have q_v5 : 0 ≤ ((σ 7 i 6) + 1) ∧ ((σ 7 i 6) + 1) ≤ 121 := o_v5.1 rfl
    refine r_istore hC dX5_place_61 rfl ?_
    have L63 : ∀ (n63 : Nat) (w6 : Int) (ρ7 : Mm), 0 ≤ w6 ∧ w6 ≤ 121 → w6 - 0 < (n63 : Int) → (drps i ((w6)).toNat ρ7 = plM σ i t v) → (LI ρ7 i) → (ρ7 7 i 6 = (w6)) → K 63 [some (vR 2 0), some (vR 7 i), some (vI t), some (vI v), some (vI (hU σ i t)), some (vI 0), some (vI w6)] [] ρ7 := by
      intro n63
      induction n63 with
      | zero => intro w6 ρ7 f_w6  hm  m0_63 m1_63 m2_63; omega
      | succ n63 ih63 =>
        intro w6 ρ7 f_w6  hm63  m0_63 m1_63 m2_63
        refine r_iload hC dX5_place_63 rfl ?_
        refine r_if_le (tgt := 100) hC dX5_place_65 rfl (fun h8 => ?_) (fun h8 => ?_)
        · refine y_vret hK rfl dX5_place_100 ?_
          have hm : plM σ i t v = ρ7 := by rw [← m0_63]; first | exact drps_no (by omega) | (rw [show (w6).toNat = 0 from by omega]; rfl)
          rw [hm] at k
          exact k
        · refine r_aload_n hC dX5_place_68 rfl ?_
          refine r_aload_n hC dX5_place_69 rfl ?_
          refine z_getI (jz := 6) hM dX5_place_70 fl_RX5_154 rfl rfl rfl (fun v9 h_v9 o_v9 t_v9 => ?_)
          have w_v9 := ((t_v9 (Or.inl (by first | exact trivial | exact tb7_ (by decide) | simp [Tb]))).trans (rfl)).symm
          clear t_v9
          subst w_v9
          have q_v9 : 0 ≤ (ρ7 7 i 6) ∧ (ρ7 7 i 6) ≤ 121 := o_v9.1 rfl
          refine r_aload_n hC dX5_place_73 rfl ?_
          refine z_getR hM dX5_place_74 fl_RX5_198 rfl rfl (vld_of (n := 7) rfl (by omega) (by omega)) ?_
          refine r_iconst hC dX5_place_77 rfl ?_
          refine z_iald hM dX5_place_78 rfl (by omega) (by omega) (fun v10 h_v10 o_v10 t_v10 => ?_)
          have w_v10 := ((t_v10 (Or.inl (by first | exact trivial | exact tb7_ (by decide) | simp [Tb]))).trans (rfl)).symm
          clear t_v10
          subst w_v10
          refine r_aload_n hC dX5_place_79 rfl ?_
          refine z_getI (jz := 10) hM dX5_place_80 fl_RX5_157 rfl rfl rfl (fun v11 h_v11 o_v11 t_v11 => ?_)
          have w_v11 := ((t_v11 (Or.inl (by first | exact trivial | exact tb7_ (by decide) | simp [Tb]))).trans (rfl)).symm
          clear t_v11
          subst w_v11
          refine z_inv3 hM dX5_place_83 vl_RX5_201 rfl rfl rfl (Nat.le_of_ble_eq_true rfl) (Nat.le_of_ble_eq_true rfl) ?_
          refine x_goes (by omega) (fun h12 => ?_) (fun h12 => ?_)
          · have y3_h12 : ρ7 7 i 3 = (ρ7 7 i 3) := (rfl)
            have y4_h12 : ρ7 7 i 4 = (ρ7 7 i 4) := (rfl)
            refine r_if_eq (tgt := 100) hC dX5_place_86 rfl (fun h13 => by omega) (fun h13 => ?_)
            have hgo : goV ρ7 i := by unfold goV; omega
            refine r_aload_n hC dX5_place_89 rfl ?_
            refine r_aload_n hC dX5_place_90 rfl ?_
            refine z_inv1 hM dX5_place_91 vl_RX5_163 rfl rfl rfl (Nat.le_of_ble_eq_true rfl) (Nat.le_of_ble_eq_true rfl) ?_
            refine x_dropOldest (by omega) m1_63.1 m1_63.2.1 (by omega) (by omega) ?_
            refine r_iincE hC ((w6 - 1)) dX5_place_94 rfl rfl (by omega) (by unfold inR; omega) ?_
            refine r_goto (tgt := 63) hC dX5_place_97 rfl ?_
            exact ih63 ((w6 - 1)) (dpM ρ7 i) (by omega)  (by omega)  (by have q := m0_63; rw [show (w6).toNat = ((w6 - 1)).toNat + 1 from by omega, drps_yes hgo] at q; exact q) (m1_63.dp (by omega)) (by have q : (dpM ρ7 i) 7 i 6 = ((ρ7 7 i 6) - 1) := (dpM_6); omega)
          · have y3_h12 : ρ7 7 i 3 = (ρ7 7 i 3) := (rfl)
            have y4_h12 : ρ7 7 i 4 = (ρ7 7 i 4) := (rfl)
            refine r_if_eq (tgt := 100) hC dX5_place_86 rfl (fun h14 => ?_) (fun h14 => by omega)
            refine y_vret hK rfl dX5_place_100 ?_
            have hm : plM σ i t v = ρ7 := by rw [← m0_63]; first | exact drps_no (by omega) | (rw [show (w6).toNat = 0 from by omega]; rfl)
            rw [hm] at k
            exact k
    exact L63 123 (((σ 7 i 6) + 1)) (rgM (lyM (insM σ i (hU σ i t) t v) i ((σ 7 i 6) + 1)) i) (by omega)  (by omega)  (by rw [hE]; rfl) (by rw [hE]; exact LI.en ⟨hn0, hF, by omega⟩) (by have q : (rgM (lyM (insM σ i (hU σ i t) t v) i ((σ 7 i 6) + 1)) i) 7 i 6 = ((σ 7 i 6) + 1) := ((rgM_ne (by omega)).trans ((lyM_ne (by omega)).trans (insM_6.trans (congrArg (· + 1) (rfl))))); omega)
  · refine r_iconst hC dX5_place_17 rfl ?_
    refine r_goto (tgt := 22) hC dX5_place_18 rfl ?_
    refine r_istore hC dX5_place_22 rfl ?_
    refine r_aload_n hC dX5_place_24 rfl ?_
    refine r_iload hC dX5_place_25 rfl ?_
    refine r_iload_n hC dX5_place_27 rfl ?_
    refine r_iload_n hC dX5_place_28 rfl ?_
    refine z_inv3 hM dX5_place_29 vl_RX5_185 rfl rfl rfl (Nat.le_of_ble_eq_true rfl) (Nat.le_of_ble_eq_true rfl) ?_
    have z6_29 : σ 7 i 6 = (σ 7 i 6) := (rfl)
    refine x_insert (by omega) (by omega) (by omega) (by omega) (by omega) (by omega) ?_
    refine r_iload hC dX5_place_32 rfl ?_
    refine r_if_eq (tgt := 52) hC dX5_place_34 rfl (fun h15 => by omega) (fun h15 => ?_)
    refine r_aload_n hC dX5_place_37 rfl ?_
    refine z_getR hM dX5_place_38 fl_RX5_189 rfl rfl (vld_of (n := 8) rfl (by omega) (by omega)) ?_
    refine z_inv0 hM dX5_place_41 vl_RX5_192 rfl rfl rfl (Nat.le_of_ble_eq_true rfl) (Nat.le_of_ble_eq_true rfl) ?_
    have z0_41 : (insM σ i (hU σ i t) t v) 11 i 0 = (σ 11 i 0) := ((insM_ne (by omega)).trans (rfl))
    have z1_41 : (insM σ i (hU σ i t) t v) 11 i 1 = (σ 11 i 1) := ((insM_ne (by omega)).trans (rfl))
    have z2_41 : (insM σ i (hU σ i t) t v) 11 i 2 = (σ 11 i 2) := ((insM_ne (by omega)).trans (rfl))
    have z3_41 : (insM σ i (hU σ i t) t v) 11 i 3 = (σ 11 i 3) := ((insM_ne (by omega)).trans (rfl))
    refine x_add (by omega) (by omega) ?_
    refine r_aload_n hC dX5_place_44 rfl ?_
    refine r_aload_n hC dX5_place_45 rfl ?_
    refine z_inv1 hM dX5_place_46 vl_RX5_195 rfl rfl rfl (Nat.le_of_ble_eq_true rfl) (Nat.le_of_ble_eq_true rfl) ?_
    refine x_ring (by omega) (((adM_ne (by omega)).trans ((insM_ne (by omega)).trans (rfl))).trans hn0) ?_
    refine r_goto (tgt := 57) hC dX5_place_49 rfl ?_
    have hE : (rgM (adM (insM σ i (hU σ i t) t v) i) i) = enM σ i t v := by
      unfold enM
      first | rw [if_pos (by omega)] | rw [if_neg (by omega)]
    refine r_aload_n hC dX5_place_57 rfl ?_
    refine z_getI (jz := 6) hM dX5_place_58 fl_RX5_154 rfl rfl rfl (fun v16 h_v16 o_v16 t_v16 => ?_)
    have w_v16 := ((t_v16 (Or.inl (by first | exact trivial | exact tb7_ (by decide) | simp [Tb]))).trans ((rgM_ne (by omega)).trans ((adM_ne (by omega)).trans (insM_6.trans (congrArg (· + 1) (rfl)))))).symm
    clear t_v16
    subst w_v16
    have q_v16 : 0 ≤ ((σ 7 i 6) + 1) ∧ ((σ 7 i 6) + 1) ≤ 121 := o_v16.1 rfl
    refine r_istore hC dX5_place_61 rfl ?_
    have L63 : ∀ (n63 : Nat) (w17 : Int) (ρ18 : Mm), 0 ≤ w17 ∧ w17 ≤ 121 → w17 - 0 < (n63 : Int) → (drps i ((w17)).toNat ρ18 = plM σ i t v) → (LI ρ18 i) → (ρ18 7 i 6 = (w17)) → K 63 [some (vR 2 0), some (vR 7 i), some (vI t), some (vI v), some (vI (hU σ i t)), some (vI 1), some (vI w17)] [] ρ18 := by
      intro n63
      induction n63 with
      | zero => intro w17 ρ18 f_w17  hm  m0_63 m1_63 m2_63; omega
      | succ n63 ih63 =>
        intro w17 ρ18 f_w17  hm63  m0_63 m1_63 m2_63
        refine r_iload hC dX5_place_63 rfl ?_
        refine r_if_le (tgt := 100) hC dX5_place_65 rfl (fun h19 => ?_) (fun h19 => ?_)
        · refine y_vret hK rfl dX5_place_100 ?_
          have hm : plM σ i t v = ρ18 := by rw [← m0_63]; first | exact drps_no (by omega) | (rw [show (w17).toNat = 0 from by omega]; rfl)
          rw [hm] at k
          exact k
        · refine r_aload_n hC dX5_place_68 rfl ?_
          refine r_aload_n hC dX5_place_69 rfl ?_
          refine z_getI (jz := 6) hM dX5_place_70 fl_RX5_154 rfl rfl rfl (fun v20 h_v20 o_v20 t_v20 => ?_)
          have w_v20 := ((t_v20 (Or.inl (by first | exact trivial | exact tb7_ (by decide) | simp [Tb]))).trans (rfl)).symm
          clear t_v20
          subst w_v20
          have q_v20 : 0 ≤ (ρ18 7 i 6) ∧ (ρ18 7 i 6) ≤ 121 := o_v20.1 rfl
          refine r_aload_n hC dX5_place_73 rfl ?_
          refine z_getR hM dX5_place_74 fl_RX5_198 rfl rfl (vld_of (n := 7) rfl (by omega) (by omega)) ?_
          refine r_iconst hC dX5_place_77 rfl ?_
          refine z_iald hM dX5_place_78 rfl (by omega) (by omega) (fun v21 h_v21 o_v21 t_v21 => ?_)
          have w_v21 := ((t_v21 (Or.inl (by first | exact trivial | exact tb7_ (by decide) | simp [Tb]))).trans (rfl)).symm
          clear t_v21
          subst w_v21
          refine r_aload_n hC dX5_place_79 rfl ?_
          refine z_getI (jz := 10) hM dX5_place_80 fl_RX5_157 rfl rfl rfl (fun v22 h_v22 o_v22 t_v22 => ?_)
          have w_v22 := ((t_v22 (Or.inl (by first | exact trivial | exact tb7_ (by decide) | simp [Tb]))).trans (rfl)).symm
          clear t_v22
          subst w_v22
          refine z_inv3 hM dX5_place_83 vl_RX5_201 rfl rfl rfl (Nat.le_of_ble_eq_true rfl) (Nat.le_of_ble_eq_true rfl) ?_
          refine x_goes (by omega) (fun h23 => ?_) (fun h23 => ?_)
          · have y3_h23 : ρ18 7 i 3 = (ρ18 7 i 3) := (rfl)
            have y4_h23 : ρ18 7 i 4 = (ρ18 7 i 4) := (rfl)
            refine r_if_eq (tgt := 100) hC dX5_place_86 rfl (fun h24 => by omega) (fun h24 => ?_)
            have hgo : goV ρ18 i := by unfold goV; omega
            refine r_aload_n hC dX5_place_89 rfl ?_
            refine r_aload_n hC dX5_place_90 rfl ?_
            refine z_inv1 hM dX5_place_91 vl_RX5_163 rfl rfl rfl (Nat.le_of_ble_eq_true rfl) (Nat.le_of_ble_eq_true rfl) ?_
            refine x_dropOldest (by omega) m1_63.1 m1_63.2.1 (by omega) (by omega) ?_
            refine r_iincE hC ((w17 - 1)) dX5_place_94 rfl rfl (by omega) (by unfold inR; omega) ?_
            refine r_goto (tgt := 63) hC dX5_place_97 rfl ?_
            exact ih63 ((w17 - 1)) (dpM ρ18 i) (by omega)  (by omega)  (by have q := m0_63; rw [show (w17).toNat = ((w17 - 1)).toNat + 1 from by omega, drps_yes hgo] at q; exact q) (m1_63.dp (by omega)) (by have q : (dpM ρ18 i) 7 i 6 = ((ρ18 7 i 6) - 1) := (dpM_6); omega)
          · have y3_h23 : ρ18 7 i 3 = (ρ18 7 i 3) := (rfl)
            have y4_h23 : ρ18 7 i 4 = (ρ18 7 i 4) := (rfl)
            refine r_if_eq (tgt := 100) hC dX5_place_86 rfl (fun h25 => ?_) (fun h25 => by omega)
            refine y_vret hK rfl dX5_place_100 ?_
            have hm : plM σ i t v = ρ18 := by rw [← m0_63]; first | exact drps_no (by omega) | (rw [show (w17).toNat = 0 from by omega]; rfl)
            rw [hm] at k
            exact k
    exact L63 123 (((σ 7 i 6) + 1)) (rgM (adM (insM σ i (hU σ i t) t v) i) i) (by omega)  (by omega)  (by rw [hE]; rfl) (by rw [hE]; exact LI.en ⟨hn0, hF, by omega⟩) (by have q : (rgM (adM (insM σ i (hU σ i t) t v) i) i) 7 i 6 = ((σ 7 i 6) + 1) := ((rgM_ne (by omega)).trans ((adM_ne (by omega)).trans (insM_6.trans (congrArg (· + 1) (rfl))))); omega)
-- B: gifts
theorem ntM_ne {V : Mm} {x y : Int} {c : Nat} (h : ¬ (c = 7 ∧ y = 15)) : ntM V c x y = V c x y := if_neg (fun q => h ⟨q.1, q.2.2⟩)
theorem s_within {e : Ev} {d : Nat} {P : Option Vl → Mm → Prop} {σ : Mm} {a lo hi : Int}   (k1 : (lo ≤ a ∧ a ≤ hi) → P (some (vI 1)) σ) (k0 : ¬ (lo ≤ a ∧ a ≤ hi) → P (some (vI 0)) σ) : WT e (d + 1) 124 [vI a, vI lo, vI hi] σ P := by
  refine WT_in fun K hK => ?_
  have hK : StpY e cX5_within RX5 (some .boolean) (WT e (d + 0)) P K := hK
  have hM := hK.1
  have hC := hK.1.1
  show K 0 [some (vI a), some (vI lo), some (vI hi)] [] σ
  refine r_rngz hC (fun g0 => ?_)
  have r_a : -2147483648 ≤ a ∧ a ≤ 2147483647 := inR_le (g0 (vI a) (by simp))
  have r_lo : -2147483648 ≤ lo ∧ lo ≤ 2147483647 := inR_le (g0 (vI lo) (by simp))
  have r_hi : -2147483648 ≤ hi ∧ hi ≤ 2147483647 := inR_le (g0 (vI hi) (by simp))
  refine r_iload_n hC dX5_within_0 rfl ?_
  refine r_iload_n hC dX5_within_1 rfl ?_
  refine r_icmp_gt (tgt := 14) hC dX5_within_2 rfl (fun h1 => ?_) (fun h1 => ?_)
  · refine r_iconst hC dX5_within_14 rfl ?_
    refine y_zret hK rfl dX5_within_15 (by omega) ?_
    exact k0 (by omega)
  · refine r_iload_n hC dX5_within_5 rfl ?_
    refine r_iload_n hC dX5_within_6 rfl ?_
    refine r_icmp_gt (tgt := 14) hC dX5_within_7 rfl (fun h2 => ?_) (fun h2 => ?_)
    · refine r_iconst hC dX5_within_14 rfl ?_
      refine y_zret hK rfl dX5_within_15 (by omega) ?_
      exact k0 (by omega)
    · refine r_iconst hC dX5_within_10 rfl ?_
      refine r_goto (tgt := 15) hC dX5_within_11 rfl ?_
      refine y_zret hK rfl dX5_within_15 (by omega) ?_
      exact k1 (by omega)
theorem s_isLane {e : Ev} {d : Nat} {P : Option Vl → Mm → Prop} {σ : Mm} {a : Int}   (k1 : (0 ≤ a ∧ a ≤ 3) → P (some (vI 1)) σ) (k0 : ¬ (0 ≤ a ∧ a ≤ 3) → P (some (vI 0)) σ) : WT e (d + 2) 125 [vI a] σ P := by
  refine WT_in fun K hK => ?_
  have hK : StpY e cX5_isLane RX5 (some .boolean) (WT e (d + 1)) P K := hK
  have hM := hK.1
  have hC := hK.1.1
  show K 0 [some (vI a)] [] σ
  refine r_rngz hC (fun g0 => ?_)
  have r_a : -2147483648 ≤ a ∧ a ≤ 2147483647 := inR_le (g0 (vI a) (by simp))
  refine r_iload_n hC dX5_isLane_0 rfl ?_
  refine r_iconst hC dX5_isLane_1 rfl ?_
  refine r_iconst hC dX5_isLane_2 rfl ?_
  refine z_ins3 hM dX5_isLane_3 tl_RX5_59 rfl (Nat.le_of_ble_eq_true rfl) (Nat.le_of_ble_eq_true rfl) ?_
  refine s_within (fun h2 => ?_) (fun h2 => ?_)
  · refine y_zret hK rfl dX5_isLane_6 (by omega) ?_
    exact k1 (by omega)
  · refine y_zret hK rfl dX5_isLane_6 (by omega) ?_
    exact k0 (by omega)
theorem s_isTime {e : Ev} {d : Nat} {P : Option Vl → Mm → Prop} {σ : Mm} {a : Int}   (k1 : (0 ≤ a ∧ a ≤ 100000) → P (some (vI 1)) σ) (k0 : ¬ (0 ≤ a ∧ a ≤ 100000) → P (some (vI 0)) σ) : WT e (d + 2) 126 [vI a] σ P := by
  refine WT_in fun K hK => ?_
  have hK : StpY e cX5_isTime RX5 (some .boolean) (WT e (d + 1)) P K := hK
  have hM := hK.1
  have hC := hK.1.1
  show K 0 [some (vI a)] [] σ
  refine r_rngz hC (fun g0 => ?_)
  have r_a : -2147483648 ≤ a ∧ a ≤ 2147483647 := inR_le (g0 (vI a) (by simp))
  refine r_iload_n hC dX5_isTime_0 rfl ?_
  refine r_iconst hC dX5_isTime_1 rfl ?_
  refine r_ldcw hC dX5_isTime_2 co_RX5_284 rfl ?_
  refine z_ins3 hM dX5_isTime_5 tl_RX5_59 rfl (Nat.le_of_ble_eq_true rfl) (Nat.le_of_ble_eq_true rfl) ?_
  refine s_within (fun h2 => ?_) (fun h2 => ?_)
  · refine y_zret hK rfl dX5_isTime_8 (by omega) ?_
    exact k1 (by omega)
  · refine y_zret hK rfl dX5_isTime_8 (by omega) ?_
    exact k0 (by omega)
theorem s_isValue {e : Ev} {d : Nat} {P : Option Vl → Mm → Prop} {σ : Mm} {a : Int}   (k1 : (-1000 ≤ a ∧ a ≤ 1000) → P (some (vI 1)) σ) (k0 : ¬ (-1000 ≤ a ∧ a ≤ 1000) → P (some (vI 0)) σ) : WT e (d + 2) 127 [vI a] σ P := by
  refine WT_in fun K hK => ?_
  have hK : StpY e cX5_isValue RX5 (some .boolean) (WT e (d + 1)) P K := hK
  have hM := hK.1
  have hC := hK.1.1
  show K 0 [some (vI a)] [] σ
  refine r_rngz hC (fun g0 => ?_)
  have r_a : -2147483648 ≤ a ∧ a ≤ 2147483647 := inR_le (g0 (vI a) (by simp))
  refine r_iload_n hC dX5_isValue_0 rfl ?_
  refine r_sipush hC dX5_isValue_1 rfl ?_
  refine r_sipush hC dX5_isValue_4 rfl ?_
  refine z_ins3 hM dX5_isValue_7 tl_RX5_59 rfl (Nat.le_of_ble_eq_true rfl) (Nat.le_of_ble_eq_true rfl) ?_
  refine s_within (fun h2 => ?_) (fun h2 => ?_)
  · refine y_zret hK rfl dX5_isValue_10 (by omega) ?_
    exact k1 (by omega)
  · refine y_zret hK rfl dX5_isValue_10 (by omega) ?_
    exact k0 (by omega)
theorem s_isGap {e : Ev} {d : Nat} {P : Option Vl → Mm → Prop} {σ : Mm} {a : Int}   (k1 : (0 ≤ a ∧ a ≤ 100000) → P (some (vI 1)) σ) (k0 : ¬ (0 ≤ a ∧ a ≤ 100000) → P (some (vI 0)) σ) : WT e (d + 2) 128 [vI a] σ P := by
  refine WT_in fun K hK => ?_
  have hK : StpY e cX5_isGap RX5 (some .boolean) (WT e (d + 1)) P K := hK
  have hM := hK.1
  have hC := hK.1.1
  show K 0 [some (vI a)] [] σ
  refine r_rngz hC (fun g0 => ?_)
  have r_a : -2147483648 ≤ a ∧ a ≤ 2147483647 := inR_le (g0 (vI a) (by simp))
  refine r_iload_n hC dX5_isGap_0 rfl ?_
  refine r_iconst hC dX5_isGap_1 rfl ?_
  refine r_ldcw hC dX5_isGap_2 co_RX5_284 rfl ?_
  refine z_ins3 hM dX5_isGap_5 tl_RX5_59 rfl (Nat.le_of_ble_eq_true rfl) (Nat.le_of_ble_eq_true rfl) ?_
  refine s_within (fun h2 => ?_) (fun h2 => ?_)
  · refine y_zret hK rfl dX5_isGap_8 (by omega) ?_
    exact k1 (by omega)
  · refine y_zret hK rfl dX5_isGap_8 (by omega) ?_
    exact k0 (by omega)
theorem x_openLane {e : Ev} {d : Nat} {P : Option Vl → Mm → Prop} {σ : Mm} {l : Int}   (k1 : ((0 ≤ l ∧ l ≤ 3) ∧ σ 7 l 1 = 1) → P (some (vR 7 l)) σ) (k0 : ¬ ((0 ≤ l ∧ l ≤ 3) ∧ σ 7 l 1 = 1) → P (some vN) σ) : WT e (d + 3) 129 [vR 2 0, vI l] σ P := by
  refine WT_in fun K hK => ?_
  have hK : StpY e cX5_openLane RX5 (some (.object "SlideFold$Lane")) (WT e (d + 2)) P K := hK
  have hM := hK.1
  have hC := hK.1.1
  show K 0 [some (vR 2 0), some (vI l)] [] σ
  refine r_rngz hC (fun g0 => ?_)
  have r_l : -2147483648 ≤ l ∧ l ≤ 2147483647 := inR_le (g0 (vI l) (by simp))
  refine r_iload_n hC dX5_openLane_0 rfl ?_
  refine z_ins1 hM dX5_openLane_1 tl_RX5_102 rfl (Nat.le_of_ble_eq_true rfl) (Nat.le_of_ble_eq_true rfl) ?_
  refine s_isLane (fun h2 => ?_) (fun h2 => ?_)
  · refine r_if_eq (tgt := 28) hC dX5_openLane_4 rfl (fun h3 => by omega) (fun h3 => ?_)
    refine r_aload_n hC dX5_openLane_7 rfl ?_
    refine z_getR hM dX5_openLane_8 fl_RX5_13 rfl rfl (vld_of (n := 1) rfl (by omega) (by omega)) ?_
    refine r_iload_n hC dX5_openLane_11 rfl ?_
    refine z_aald hM dX5_openLane_12 rfl (by decide) (by omega) (by omega) (vld_of (n := 7) rfl (by omega) (by omega)) ?_
    refine z_getI (jz := 1) hM dX5_openLane_13 fl_RX5_94 rfl rfl rfl (fun v4 h_v4 o_v4 t_v4 => ?_)
    have w_v4 := ((t_v4 (Or.inl (by first | exact trivial | exact tb7_ (by decide) | simp [Tb]))).trans (rfl)).symm
    clear t_v4
    subst w_v4
    have q_v4 : 0 ≤ (σ 7 l 1) ∧ (σ 7 l 1) ≤ 1 := by have := o_v4.2.1 rfl; omega
    refine r_if_eq (tgt := 28) hC dX5_openLane_16 rfl (fun h5 => ?_) (fun h5 => ?_)
    · refine r_null hC dX5_openLane_28 ?_
      refine y_aret hK rfl dX5_openLane_29 ?_
      exact k0 (by omega)
    · refine r_aload_n hC dX5_openLane_19 rfl ?_
      refine z_getR hM dX5_openLane_20 fl_RX5_13 rfl rfl (vld_of (n := 1) rfl (by omega) (by omega)) ?_
      refine r_iload_n hC dX5_openLane_23 rfl ?_
      refine z_aald hM dX5_openLane_24 rfl (by decide) (by omega) (by omega) (vld_of (n := 7) rfl (by omega) (by omega)) ?_
      refine r_goto (tgt := 29) hC dX5_openLane_25 rfl ?_
      refine y_aret hK rfl dX5_openLane_29 ?_
      exact k1 (by omega)
  · refine r_if_eq (tgt := 28) hC dX5_openLane_4 rfl (fun h6 => ?_) (fun h6 => by omega)
    refine r_null hC dX5_openLane_28 ?_
    refine y_aret hK rfl dX5_openLane_29 ?_
    exact k0 (by omega)
theorem x_hasNumber {e : Ev} {d : Nat} {P : Option Vl → Mm → Prop} {σ : Mm} {i w : Int} (b_i : 0 ≤ i ∧ i ≤ 6)  (k1 : (0 ≤ w ∧ w < numF (σ 7 i 2)) → P (some (vI 1)) σ) (k0 : ¬ (0 ≤ w ∧ w < numF (σ 7 i 2)) → P (some (vI 0)) σ) : WT e (d + 2) 28 [vR 7 i, vI w] σ P := by
  refine WT_in fun K hK => ?_
  have hK : StpY e cX2_hasNumber RX2 (some .boolean) (WT e (d + 1)) P K := hK
  have hM := hK.1
  have hC := hK.1.1
  show K 0 [some (vR 7 i), some (vI w)] [] σ
  refine r_rngz hC (fun g0 => ?_)
  have r_w : -2147483648 ≤ w ∧ w ≤ 2147483647 := inR_le (g0 (vI w) (by simp))
  refine r_iload_n hC dX2_hasNumber_0 rfl ?_
  refine r_iconst hC dX2_hasNumber_1 rfl ?_
  refine z_nums hM dX2_hasNumber_2 sl_RX2_82 ?_
  refine r_aload_n hC dX2_hasNumber_5 rfl ?_
  refine z_getI (jz := 2) hM dX2_hasNumber_6 fl_RX2_36 rfl rfl rfl (fun v1 h_v1 o_v1 t_v1 => ?_)
  have w_v1 := ((t_v1 (Or.inl (by first | exact trivial | exact tb7_ (by decide) | simp [Tb]))).trans (rfl)).symm
  clear t_v1
  subst w_v1
  have q_v1 : 0 ≤ (σ 7 i 2) ∧ (σ 7 i 2) ≤ 9 := o_v1.2.2 rfl
  refine z_nald hM dX2_hasNumber_9 (by omega) (by omega) ?_
  have q_v2 := numF_rng (σ 7 i 2)
  refine r_iconst hC dX2_hasNumber_10 rfl ?_
  refine r_isubE hC (((numF (σ 7 i 2)) - 1)) dX2_hasNumber_11 (by omega) (by unfold inR; omega) ?_
  refine z_ins3 hM dX2_hasNumber_12 tl_RX2_85 rfl (Nat.le_of_ble_eq_true rfl) (Nat.le_of_ble_eq_true rfl) ?_
  refine s_within (fun h4 => ?_) (fun h4 => ?_)
  · refine y_zret hK rfl dX2_hasNumber_15 (by omega) ?_
    exact k1 (by omega)
  · refine y_zret hK rfl dX2_hasNumber_15 (by omega) ?_
    exact k0 (by omega)
theorem x_laneWith {e : Ev} {d : Nat} {P : Option Vl → Mm → Prop} {σ : Mm} {l w : Int}   (k1 : ((0 ≤ l ∧ l ≤ 3) ∧ σ 7 l 1 = 1 ∧ 0 ≤ w ∧ w < numF (σ 7 l 2)) → P (some (vR 7 l)) σ) (k0 : ¬ ((0 ≤ l ∧ l ≤ 3) ∧ σ 7 l 1 = 1 ∧ 0 ≤ w ∧ w < numF (σ 7 l 2)) → P (some vN) σ) : WT e (d + 4) 130 [vR 2 0, vI l, vI w] σ P := by
  refine WT_in fun K hK => ?_
  have hK : StpY e cX5_laneWith RX5 (some (.object "SlideFold$Lane")) (WT e (d + 3)) P K := hK
  have hM := hK.1
  have hC := hK.1.1
  show K 0 [some (vR 2 0), some (vI l), some (vI w), none] [] σ
  refine r_rngz hC (fun g0 => ?_)
  have r_l : -2147483648 ≤ l ∧ l ≤ 2147483647 := inR_le (g0 (vI l) (by simp))
  have r_w : -2147483648 ≤ w ∧ w ≤ 2147483647 := inR_le (g0 (vI w) (by simp))
  refine r_aload_n hC dX5_laneWith_0 rfl ?_
  refine r_iload_n hC dX5_laneWith_1 rfl ?_
  refine z_inv1 hM dX5_laneWith_2 vl_RX5_123 rfl rfl rfl (Nat.le_of_ble_eq_true rfl) (Nat.le_of_ble_eq_true rfl) ?_
  refine x_openLane (fun h1 => ?_) (fun h1 => ?_)
  · -- h1
    refine r_astore_n hC dX5_laneWith_5 rfl ?_
    refine r_aload_n hC dX5_laneWith_6 rfl ?_
    refine r_ifnullR hC dX5_laneWith_7 ?_
    refine r_aload_n hC dX5_laneWith_10 rfl ?_
    refine r_iload_n hC dX5_laneWith_11 rfl ?_
    refine z_inv1 hM dX5_laneWith_12 vl_RX5_266 rfl rfl rfl (Nat.le_of_ble_eq_true rfl) (Nat.le_of_ble_eq_true rfl) ?_
    refine x_hasNumber (by omega) (fun h2 => ?_) (fun h2 => ?_)
    · refine r_if_eq (tgt := 22) hC dX5_laneWith_15 rfl (fun h3 => by omega) (fun h3 => ?_)
      refine r_aload_n hC dX5_laneWith_18 rfl ?_
      refine r_goto (tgt := 23) hC dX5_laneWith_19 rfl ?_
      refine y_aret hK rfl dX5_laneWith_23 ?_
      exact k1 (by omega)
    · refine r_if_eq (tgt := 22) hC dX5_laneWith_15 rfl (fun h4 => ?_) (fun h4 => by omega)
      refine r_null hC dX5_laneWith_22 ?_
      refine y_aret hK rfl dX5_laneWith_23 ?_
      exact k0 (by omega)
  · -- h1
    refine r_astoreN_n hC dX5_laneWith_5 rfl ?_
    refine r_aloadN_n hC dX5_laneWith_6 rfl ?_
    refine r_ifnullN (tgt := 22) hC dX5_laneWith_7 rfl ?_
    refine r_null hC dX5_laneWith_22 ?_
    refine y_aret hK rfl dX5_laneWith_23 ?_
    exact k0 (by omega)
theorem x_laneHolding {e : Ev} {d : Nat} {P : Option Vl → Mm → Prop} {σ : Mm} {l x : Int}   (k1 : ((0 ≤ l ∧ l ≤ 3) ∧ σ 7 l 1 = 1 ∧ 0 ≤ x ∧ x < σ 7 l 6) → P (some (vR 7 l)) σ) (k0 : ¬ ((0 ≤ l ∧ l ≤ 3) ∧ σ 7 l 1 = 1 ∧ 0 ≤ x ∧ x < σ 7 l 6) → P (some vN) σ) : WT e (d + 4) 131 [vR 2 0, vI l, vI x] σ P := by
  refine WT_in fun K hK => ?_
  have hK : StpY e cX5_laneHolding RX5 (some (.object "SlideFold$Lane")) (WT e (d + 3)) P K := hK
  have hM := hK.1
  have hC := hK.1.1
  show K 0 [some (vR 2 0), some (vI l), some (vI x), none] [] σ
  refine r_rngz hC (fun g0 => ?_)
  have r_l : -2147483648 ≤ l ∧ l ≤ 2147483647 := inR_le (g0 (vI l) (by simp))
  have r_x : -2147483648 ≤ x ∧ x ≤ 2147483647 := inR_le (g0 (vI x) (by simp))
  refine r_aload_n hC dX5_laneHolding_0 rfl ?_
  refine r_iload_n hC dX5_laneHolding_1 rfl ?_
  refine z_inv1 hM dX5_laneHolding_2 vl_RX5_123 rfl rfl rfl (Nat.le_of_ble_eq_true rfl) (Nat.le_of_ble_eq_true rfl) ?_
  refine x_openLane (fun h1 => ?_) (fun h1 => ?_)
  · -- h1
    refine r_astore_n hC dX5_laneHolding_5 rfl ?_
    refine r_aload_n hC dX5_laneHolding_6 rfl ?_
    refine r_ifnullR hC dX5_laneHolding_7 ?_
    refine r_iload_n hC dX5_laneHolding_10 rfl ?_
    refine r_iconst hC dX5_laneHolding_11 rfl ?_
    refine r_aload_n hC dX5_laneHolding_12 rfl ?_
    refine z_getI (jz := 6) hM dX5_laneHolding_13 fl_RX5_154 rfl rfl rfl (fun v2 h_v2 o_v2 t_v2 => ?_)
    have w_v2 := ((t_v2 (Or.inl (by first | exact trivial | exact tb7_ (by decide) | simp [Tb]))).trans (rfl)).symm
    clear t_v2
    subst w_v2
    have q_v2 : 0 ≤ (σ 7 l 6) ∧ (σ 7 l 6) ≤ 121 := o_v2.1 rfl
    refine r_iconst hC dX5_laneHolding_16 rfl ?_
    refine r_isubE hC (((σ 7 l 6) - 1)) dX5_laneHolding_17 (by omega) (by unfold inR; omega) ?_
    refine z_ins3 hM dX5_laneHolding_18 tl_RX5_59 rfl (Nat.le_of_ble_eq_true rfl) (Nat.le_of_ble_eq_true rfl) ?_
    refine s_within (fun h4 => ?_) (fun h4 => ?_)
    · refine r_if_eq (tgt := 28) hC dX5_laneHolding_21 rfl (fun h5 => by omega) (fun h5 => ?_)
      refine r_aload_n hC dX5_laneHolding_24 rfl ?_
      refine r_goto (tgt := 29) hC dX5_laneHolding_25 rfl ?_
      refine y_aret hK rfl dX5_laneHolding_29 ?_
      exact k1 (by omega)
    · refine r_if_eq (tgt := 28) hC dX5_laneHolding_21 rfl (fun h6 => ?_) (fun h6 => by omega)
      refine r_null hC dX5_laneHolding_28 ?_
      refine y_aret hK rfl dX5_laneHolding_29 ?_
      exact k0 (by omega)
  · -- h1
    refine r_astoreN_n hC dX5_laneHolding_5 rfl ?_
    refine r_aloadN_n hC dX5_laneHolding_6 rfl ?_
    refine r_ifnullN (tgt := 28) hC dX5_laneHolding_7 rfl ?_
    refine r_null hC dX5_laneHolding_28 ?_
    refine y_aret hK rfl dX5_laneHolding_29 ?_
    exact k0 (by omega)
theorem x_noteMost {eb ec : Bool} {d : Nat} {P : Option Vl → Mm → Prop} {σ : Mm}   (k : P none (ntM σ)) : WT (true, eb, ec) (d + 2) 71 [vR 2 0] σ P := by
  refine WT_in fun K hK => ?_
  have hK : StpY (true, eb, ec) cX5_noteMost RX5 (none) (WT (true, eb, ec) (d + 1)) P K := hK
  have hM := hK.1
  have hC := hK.1.1
  show K 0 [some (vR 2 0), none] [] σ
  refine r_iconst hC dX5_noteMost_0 rfl ?_
  refine r_istore_n hC dX5_noteMost_1 rfl ?_
  refine r_iload_n hC dX5_noteMost_2 rfl ?_
  refine r_iconst hC dX5_noteMost_3 rfl ?_
  refine r_icmp_ge (tgt := 43) hC dX5_noteMost_4 rfl (fun h1 => by omega) (fun h1 => ?_)
  refine r_aload_n hC dX5_noteMost_7 rfl ?_
  refine z_getR hM dX5_noteMost_8 fl_RX5_13 rfl rfl (vld_of (n := 1) rfl (by omega) (by omega)) ?_
  refine r_iload_n hC dX5_noteMost_11 rfl ?_
  refine z_aald hM dX5_noteMost_12 rfl (by decide) (by omega) (by omega) (vld_of (n := 7) rfl (by omega) (by omega)) ?_
  refine r_aload_n hC dX5_noteMost_13 rfl ?_
  refine z_getR hM dX5_noteMost_14 fl_RX5_13 rfl rfl (vld_of (n := 1) rfl (by omega) (by omega)) ?_
  refine r_iload_n hC dX5_noteMost_17 rfl ?_
  refine z_aald hM dX5_noteMost_18 rfl (by decide) (by omega) (by omega) (vld_of (n := 7) rfl (by omega) (by omega)) ?_
  refine z_getI (jz := 15) hM dX5_noteMost_19 fl_RX5_242 rfl rfl rfl (fun v2 h_v2 o_v2 t_v2 => ?_)
  have w_v2 := ((t_v2 (Or.inl (by first | exact trivial | exact tb7_ (by decide) | simp [Tb]))).trans (rfl)).symm
  clear t_v2
  subst w_v2
  refine r_aload_n hC dX5_noteMost_22 rfl ?_
  refine z_getR hM dX5_noteMost_23 fl_RX5_13 rfl rfl (vld_of (n := 1) rfl (by omega) (by omega)) ?_
  refine r_iload_n hC dX5_noteMost_26 rfl ?_
  refine z_aald hM dX5_noteMost_27 rfl (by decide) (by omega) (by omega) (vld_of (n := 7) rfl (by omega) (by omega)) ?_
  refine z_getI (jz := 6) hM dX5_noteMost_28 fl_RX5_154 rfl rfl rfl (fun v3 h_v3 o_v3 t_v3 => ?_)
  have w_v3 := ((t_v3 (Or.inl (by first | exact trivial | exact tb7_ (by decide) | simp [Tb]))).trans (rfl)).symm
  clear t_v3
  subst w_v3
  have q_v3 : 0 ≤ (σ 7 0 6) ∧ (σ 7 0 6) ≤ 121 := o_v3.1 rfl
  refine z_ins2 hM dX5_noteMost_31 tl_RX5_239 rfl (Nat.le_of_ble_eq_true rfl) (Nat.le_of_ble_eq_true rfl) ?_
  refine x_maxE ?_
  refine z_putIT (jz := 15) hM dX5_noteMost_34 fw_RX5_242 rfl rfl rfl ⟨Or.inr (by first | exact id | exact dl7_ (by decide) | simp [DL]), Or.inr (by first | exact id | exact df14_ (by decide) | simp [DF])⟩ (by first | trivial | (simp only [Okv]; omega) | (simp [Okv]; try omega)) ?_
  refine r_iincE hC (1) dX5_noteMost_37 rfl rfl (by omega) (by unfold inR; omega) ?_
  refine r_goto (tgt := 2) hC dX5_noteMost_40 rfl ?_
  refine r_iload_n hC dX5_noteMost_2 rfl ?_
  refine r_iconst hC dX5_noteMost_3 rfl ?_
  refine r_icmp_ge (tgt := 43) hC dX5_noteMost_4 rfl (fun h4 => by omega) (fun h4 => ?_)
  refine r_aload_n hC dX5_noteMost_7 rfl ?_
  refine z_getR hM dX5_noteMost_8 fl_RX5_13 rfl rfl (vld_of (n := 1) rfl (by omega) (by omega)) ?_
  refine r_iload_n hC dX5_noteMost_11 rfl ?_
  refine z_aald hM dX5_noteMost_12 rfl (by decide) (by omega) (by omega) (vld_of (n := 7) rfl (by omega) (by omega)) ?_
  refine r_aload_n hC dX5_noteMost_13 rfl ?_
  refine z_getR hM dX5_noteMost_14 fl_RX5_13 rfl rfl (vld_of (n := 1) rfl (by omega) (by omega)) ?_
  refine r_iload_n hC dX5_noteMost_17 rfl ?_
  refine z_aald hM dX5_noteMost_18 rfl (by decide) (by omega) (by omega) (vld_of (n := 7) rfl (by omega) (by omega)) ?_
  refine z_getI (jz := 15) hM dX5_noteMost_19 fl_RX5_242 rfl rfl rfl (fun v5 h_v5 o_v5 t_v5 => ?_)
  have w_v5 := ((t_v5 (Or.inl (by first | exact trivial | exact tb7_ (by decide) | simp [Tb]))).trans ((mu_ne (by omega)).trans (rfl))).symm
  clear t_v5
  subst w_v5
  refine r_aload_n hC dX5_noteMost_22 rfl ?_
  refine z_getR hM dX5_noteMost_23 fl_RX5_13 rfl rfl (vld_of (n := 1) rfl (by omega) (by omega)) ?_
  refine r_iload_n hC dX5_noteMost_26 rfl ?_
  refine z_aald hM dX5_noteMost_27 rfl (by decide) (by omega) (by omega) (vld_of (n := 7) rfl (by omega) (by omega)) ?_
  refine z_getI (jz := 6) hM dX5_noteMost_28 fl_RX5_154 rfl rfl rfl (fun v6 h_v6 o_v6 t_v6 => ?_)
  have w_v6 := ((t_v6 (Or.inl (by first | exact trivial | exact tb7_ (by decide) | simp [Tb]))).trans ((mu_ne (by omega)).trans (rfl))).symm
  clear t_v6
  subst w_v6
  have q_v6 : 0 ≤ (σ 7 1 6) ∧ (σ 7 1 6) ≤ 121 := o_v6.1 rfl
  refine z_ins2 hM dX5_noteMost_31 tl_RX5_239 rfl (Nat.le_of_ble_eq_true rfl) (Nat.le_of_ble_eq_true rfl) ?_
  refine x_maxE ?_
  refine z_putIT (jz := 15) hM dX5_noteMost_34 fw_RX5_242 rfl rfl rfl ⟨Or.inr (by first | exact id | exact dl7_ (by decide) | simp [DL]), Or.inr (by first | exact id | exact df14_ (by decide) | simp [DF])⟩ (by first | trivial | (simp only [Okv]; omega) | (simp [Okv]; try omega)) ?_
  refine r_iincE hC (2) dX5_noteMost_37 rfl rfl (by omega) (by unfold inR; omega) ?_
  show K _ [_, _] _ _
  refine r_goto (tgt := 2) hC dX5_noteMost_40 rfl ?_
  refine r_iload_n hC dX5_noteMost_2 rfl ?_
  refine r_iconst hC dX5_noteMost_3 rfl ?_
  refine r_icmp_ge (tgt := 43) hC dX5_noteMost_4 rfl (fun h7 => by omega) (fun h7 => ?_)
  refine r_aload_n hC dX5_noteMost_7 rfl ?_
  refine z_getR hM dX5_noteMost_8 fl_RX5_13 rfl rfl (vld_of (n := 1) rfl (by omega) (by omega)) ?_
  refine r_iload_n hC dX5_noteMost_11 rfl ?_
  refine z_aald hM dX5_noteMost_12 rfl (by decide) (by omega) (by omega) (vld_of (n := 7) rfl (by omega) (by omega)) ?_
  refine r_aload_n hC dX5_noteMost_13 rfl ?_
  refine z_getR hM dX5_noteMost_14 fl_RX5_13 rfl rfl (vld_of (n := 1) rfl (by omega) (by omega)) ?_
  refine r_iload_n hC dX5_noteMost_17 rfl ?_
  refine z_aald hM dX5_noteMost_18 rfl (by decide) (by omega) (by omega) (vld_of (n := 7) rfl (by omega) (by omega)) ?_
  refine z_getI (jz := 15) hM dX5_noteMost_19 fl_RX5_242 rfl rfl rfl (fun v8 h_v8 o_v8 t_v8 => ?_)
  have w_v8 := ((t_v8 (Or.inl (by first | exact trivial | exact tb7_ (by decide) | simp [Tb]))).trans ((mu_ne (by omega)).trans ((mu_ne (by omega)).trans (rfl)))).symm
  clear t_v8
  subst w_v8
  refine r_aload_n hC dX5_noteMost_22 rfl ?_
  refine z_getR hM dX5_noteMost_23 fl_RX5_13 rfl rfl (vld_of (n := 1) rfl (by omega) (by omega)) ?_
  refine r_iload_n hC dX5_noteMost_26 rfl ?_
  refine z_aald hM dX5_noteMost_27 rfl (by decide) (by omega) (by omega) (vld_of (n := 7) rfl (by omega) (by omega)) ?_
  refine z_getI (jz := 6) hM dX5_noteMost_28 fl_RX5_154 rfl rfl rfl (fun v9 h_v9 o_v9 t_v9 => ?_)
  have w_v9 := ((t_v9 (Or.inl (by first | exact trivial | exact tb7_ (by decide) | simp [Tb]))).trans ((mu_ne (by omega)).trans ((mu_ne (by omega)).trans (rfl)))).symm
  clear t_v9
  subst w_v9
  have q_v9 : 0 ≤ (σ 7 2 6) ∧ (σ 7 2 6) ≤ 121 := o_v9.1 rfl
  refine z_ins2 hM dX5_noteMost_31 tl_RX5_239 rfl (Nat.le_of_ble_eq_true rfl) (Nat.le_of_ble_eq_true rfl) ?_
  refine x_maxE ?_
  refine z_putIT (jz := 15) hM dX5_noteMost_34 fw_RX5_242 rfl rfl rfl ⟨Or.inr (by first | exact id | exact dl7_ (by decide) | simp [DL]), Or.inr (by first | exact id | exact df14_ (by decide) | simp [DF])⟩ (by first | trivial | (simp only [Okv]; omega) | (simp [Okv]; try omega)) ?_
  refine r_iincE hC (3) dX5_noteMost_37 rfl rfl (by omega) (by unfold inR; omega) ?_
  refine r_goto (tgt := 2) hC dX5_noteMost_40 rfl ?_
  refine r_iload_n hC dX5_noteMost_2 rfl ?_
  refine r_iconst hC dX5_noteMost_3 rfl ?_
  refine r_icmp_ge (tgt := 43) hC dX5_noteMost_4 rfl (fun h10 => by omega) (fun h10 => ?_)
  refine r_aload_n hC dX5_noteMost_7 rfl ?_
  refine z_getR hM dX5_noteMost_8 fl_RX5_13 rfl rfl (vld_of (n := 1) rfl (by omega) (by omega)) ?_
  refine r_iload_n hC dX5_noteMost_11 rfl ?_
  refine z_aald hM dX5_noteMost_12 rfl (by decide) (by omega) (by omega) (vld_of (n := 7) rfl (by omega) (by omega)) ?_
  refine r_aload_n hC dX5_noteMost_13 rfl ?_
  refine z_getR hM dX5_noteMost_14 fl_RX5_13 rfl rfl (vld_of (n := 1) rfl (by omega) (by omega)) ?_
  refine r_iload_n hC dX5_noteMost_17 rfl ?_
  refine z_aald hM dX5_noteMost_18 rfl (by decide) (by omega) (by omega) (vld_of (n := 7) rfl (by omega) (by omega)) ?_
  refine z_getI (jz := 15) hM dX5_noteMost_19 fl_RX5_242 rfl rfl rfl (fun v11 h_v11 o_v11 t_v11 => ?_)
  have w_v11 := ((t_v11 (Or.inl (by first | exact trivial | exact tb7_ (by decide) | simp [Tb]))).trans ((mu_ne (by omega)).trans ((mu_ne (by omega)).trans ((mu_ne (by omega)).trans (rfl))))).symm
  clear t_v11
  subst w_v11
  refine r_aload_n hC dX5_noteMost_22 rfl ?_
  refine z_getR hM dX5_noteMost_23 fl_RX5_13 rfl rfl (vld_of (n := 1) rfl (by omega) (by omega)) ?_
  refine r_iload_n hC dX5_noteMost_26 rfl ?_
  refine z_aald hM dX5_noteMost_27 rfl (by decide) (by omega) (by omega) (vld_of (n := 7) rfl (by omega) (by omega)) ?_
  refine z_getI (jz := 6) hM dX5_noteMost_28 fl_RX5_154 rfl rfl rfl (fun v12 h_v12 o_v12 t_v12 => ?_)
  have w_v12 := ((t_v12 (Or.inl (by first | exact trivial | exact tb7_ (by decide) | simp [Tb]))).trans ((mu_ne (by omega)).trans ((mu_ne (by omega)).trans ((mu_ne (by omega)).trans (rfl))))).symm
  clear t_v12
  subst w_v12
  have q_v12 : 0 ≤ (σ 7 3 6) ∧ (σ 7 3 6) ≤ 121 := o_v12.1 rfl
  refine z_ins2 hM dX5_noteMost_31 tl_RX5_239 rfl (Nat.le_of_ble_eq_true rfl) (Nat.le_of_ble_eq_true rfl) ?_
  refine x_maxE ?_
  refine z_putIT (jz := 15) hM dX5_noteMost_34 fw_RX5_242 rfl rfl rfl ⟨Or.inr (by first | exact id | exact dl7_ (by decide) | simp [DL]), Or.inr (by first | exact id | exact df14_ (by decide) | simp [DF])⟩ (by first | trivial | (simp only [Okv]; omega) | (simp [Okv]; try omega)) ?_
  refine r_iincE hC (4) dX5_noteMost_37 rfl rfl (by omega) (by unfold inR; omega) ?_
  refine r_goto (tgt := 2) hC dX5_noteMost_40 rfl ?_
  refine r_iload_n hC dX5_noteMost_2 rfl ?_
  refine r_iconst hC dX5_noteMost_3 rfl ?_
  refine r_icmp_ge (tgt := 43) hC dX5_noteMost_4 rfl (fun h13 => ?_) (fun h13 => by omega)
  refine y_vret hK rfl dX5_noteMost_43 ?_
  have hm : ntM σ = (mu (mu (mu (mu σ 7 0 15 (max (σ 7 0 15) (σ 7 0 6))) 7 1 15 (max (σ 7 1 15) (σ 7 1 6))) 7 2 15 (max (σ 7 2 15) (σ 7 2 6))) 7 3 15 (max (σ 7 3 15) (σ 7 3 6))) := ntM_eq
  rw [hm] at k
  exact k
theorem ses_no {T : Int → Int} {g n : Int} (h : 1 ≤ n) (hn : ¬ wr (T n - T (n - 1)) > g) : ses T g n.toNat = ses T g (n - 1).toNat := by
  rw [show n.toNat = (n - 1).toNat + 1 from by omega]
  show (if wr (T (((n - 1).toNat : Nat) + 1) - T ((n - 1).toNat : Nat)) > g then ((((n - 1).toNat : Nat) : Int) + 1) else ses T g (n - 1).toNat) = _
  rw [show (((n - 1).toNat : Nat) : Int) = n - 1 from by omega, show n - 1 + 1 = n from by omega, if_neg hn]
theorem ses_yes {T : Int → Int} {g n : Int} (h : 1 ≤ n) (hn : wr (T n - T (n - 1)) > g) : ses T g n.toNat = n := by
  rw [show n.toNat = (n - 1).toNat + 1 from by omega]
  show (if wr (T (((n - 1).toNat : Nat) + 1) - T ((n - 1).toNat : Nat)) > g then ((((n - 1).toNat : Nat) : Int) + 1) else ses T g (n - 1).toNat) = _
  rw [show (((n - 1).toNat : Nat) : Int) = n - 1 from by omega, show n - 1 + 1 = n from by omega, if_pos hn]
theorem ses_0 {T : Int → Int} {g n : Int} (h : n = 0) : ses T g n.toNat = n := by
  subst h
  rfl
theorem x_give {ec : Bool} {d : Nat} {P : Option Vl → Mm → Prop} {σ : Mm} {i t : Int} (b_i : 0 ≤ i ∧ i ≤ 3) (b_t : -2147483648 ≤ t ∧ t ≤ 2147483647) (hnL : ∀ l : Int, 0 ≤ l → l ≤ 3 → σ 7 l 0 = l) (hFL : ∀ l : Int, 0 ≤ l → l ≤ 3 → FI (σ 11 l) (σ 7 l 6)) (hhL : ∀ l : Int, 0 ≤ l → l ≤ 3 → 0 ≤ σ 7 l 6 ∧ σ 7 l 6 ≤ 120) (hto : σ 13 i 0 ≠ i)  (k : P none (gvM σ i t)) : WT (true, false, ec) (d + 7) 70 [vR 2 0, vR 7 i, vI t] σ P := by
  refine WT_in fun K hK => ?_
  have hK : StpY (true, false, ec) cX5_give RX5 (none) (WT (true, false, ec) (d + 6)) P K := hK
  have hM := hK.1
  have hC := hK.1.1
  show K 0 [some (vR 2 0), some (vR 7 i), some (vI t), none, none, none, none, none, none] [] σ
  refine r_aload_n hC dX5_give_0 rfl ?_
  refine z_getR hM dX5_give_1 fl_RX5_19 rfl rfl (vld_of (n := 1) rfl (by omega) (by omega)) ?_
  refine r_aload_n hC dX5_give_4 rfl ?_
  refine z_getI (jz := 0) hM dX5_give_5 fl_RX5_212 rfl rfl rfl (fun v1 h_v1 o_v1 t_v1 => ?_)
  have w_v1 := ((t_v1 (Or.inl (by first | exact trivial | exact tb7_ (by decide) | simp [Tb]))).trans ((rfl).trans (hnL i (by omega) (by omega)))).symm
  clear t_v1
  subst w_v1
  refine z_aald hM dX5_give_8 rfl (by decide) (by omega) (by omega) (vld_of (n := 4) rfl (by omega) (by omega)) ?_
  refine r_astore_n hC dX5_give_9 rfl ?_
  refine r_aload_n hC dX5_give_10 rfl ?_
  refine r_aload_n hC dX5_give_11 rfl ?_
  refine z_getI (jz := 0) hM dX5_give_12 fl_RX5_215 rfl rfl rfl (fun v2 h_v2 o_v2 t_v2 => ?_)
  have w_v2 := ((t_v2 (Or.inl (by first | exact trivial | exact tb7_ (by decide) | simp [Tb]))).trans (rfl)).symm
  clear t_v2
  subst w_v2
  refine z_inv1 hM dX5_give_15 vl_RX5_123 rfl rfl rfl (Nat.le_of_ble_eq_true rfl) (Nat.le_of_ble_eq_true rfl) ?_
  refine x_openLane (fun h3 => ?_) (fun h3 => ?_)
  · -- h3
    refine r_astore hC dX5_give_18 rfl ?_
    refine r_aload_n hC dX5_give_20 rfl ?_
    refine z_getI (jz := 6) hM dX5_give_21 fl_RX5_154 rfl rfl rfl (fun v4 h_v4 o_v4 t_v4 => ?_)
    have w_v4 := ((t_v4 (Or.inl (by first | exact trivial | exact tb7_ (by decide) | simp [Tb]))).trans (rfl)).symm
    clear t_v4
    subst w_v4
    have q_v4 : 0 ≤ (σ 7 i 6) ∧ (σ 7 i 6) ≤ 121 := o_v4.1 rfl
    refine r_iconst hC dX5_give_24 rfl ?_
    refine r_isubE hC (((σ 7 i 6) - 1)) dX5_give_25 (by omega) (by unfold inR; omega) ?_
    refine r_istore hC dX5_give_26 rfl ?_
    refine r_aload hC dX5_give_28 rfl ?_
    refine r_ifnullR hC dX5_give_30 ?_
    refine r_iload hC dX5_give_33 rfl ?_
    refine r_if_lt (tgt := 62) hC dX5_give_35 rfl (fun h5 => ?_) (fun h5 => ?_)
    · refine y_vret hK rfl dX5_give_62 ?_
      have hm : gvM σ i t = σ := if_neg (fun q => by have q1 := q.1; have q2 := q.2.1; have q3 := q.2.2.1; have q4 := q.2.2.2.1; have q5 := q.2.2.2.2.1; have q6 := q.2.2.2.2.2; unfold fuV at *; unfold ltV at *; omega)
      rw [hm] at k
      exact k
    · refine r_iload_n hC dX5_give_38 rfl ?_
      refine r_aload_n hC dX5_give_39 rfl ?_
      refine z_getR hM dX5_give_40 fl_RX5_198 rfl rfl (vld_of (n := 7) rfl (by omega) (by omega)) ?_
      refine r_iload hC dX5_give_43 rfl ?_
      refine z_iald hM dX5_give_45 rfl (by omega) (by omega) (fun v6 h_v6 o_v6 t_v6 => ?_)
      have w_v6 := ((t_v6 (Or.inl (by first | exact trivial | exact tb7_ (by decide) | simp [Tb]))).trans (rfl)).symm
      clear t_v6
      subst w_v6
      refine r_isub hC dX5_give_46 ?_
      have f7 := inR_le (inR_wr (t - (σ 8 i ((σ 7 i 6) - 1))))
      refine r_aload_n hC dX5_give_47 rfl ?_
      refine z_getI (jz := 1) hM dX5_give_48 fl_RX5_218 rfl rfl rfl (fun v8 h_v8 o_v8 t_v8 => ?_)
      have w_v8 := ((t_v8 (Or.inl (by first | exact trivial | exact tb7_ (by decide) | simp [Tb]))).trans (rfl)).symm
      clear t_v8
      subst w_v8
      refine r_icmp_le (tgt := 62) hC dX5_give_51 rfl (fun h9 => ?_) (fun h9 => ?_)
      · refine y_vret hK rfl dX5_give_62 ?_
        have hm : gvM σ i t = σ := if_neg (fun q => by have q1 := q.1; have q2 := q.2.1; have q3 := q.2.2.1; have q4 := q.2.2.2.1; have q5 := q.2.2.2.2.1; have q6 := q.2.2.2.2.2; unfold fuV at *; unfold ltV at *; omega)
        rw [hm] at k
        exact k
      · refine r_aload hC dX5_give_54 rfl ?_
        refine z_inv0 hM dX5_give_56 vl_RX5_139 rfl rfl rfl (Nat.le_of_ble_eq_true rfl) (Nat.le_of_ble_eq_true rfl) ?_
        refine x_isFull (by omega) (fun h10 => ?_) (fun h10 => ?_)
        · have y3_h10 : σ 7 (σ 13 i 0) 3 = (σ 7 (σ 13 i 0) 3) := (rfl)
          have y6_h10 : σ 7 (σ 13 i 0) 6 = (σ 7 (σ 13 i 0) 6) := (rfl)
          refine r_if_eq (tgt := 63) hC dX5_give_59 rfl (fun h11 => by omega) (fun h11 => ?_)
          refine y_vret hK rfl dX5_give_62 ?_
          have hm : gvM σ i t = σ := if_neg (fun q => by have q1 := q.1; have q2 := q.2.1; have q3 := q.2.2.1; have q4 := q.2.2.2.1; have q5 := q.2.2.2.2.1; have q6 := q.2.2.2.2.2; unfold fuV at *; unfold ltV at *; omega)
          rw [hm] at k
          exact k
        · have y3_h10 : σ 7 (σ 13 i 0) 3 = (σ 7 (σ 13 i 0) 3) := (rfl)
          have y6_h10 : σ 7 (σ 13 i 0) 6 = (σ 7 (σ 13 i 0) 6) := (rfl)
          refine r_if_eq (tgt := 63) hC dX5_give_59 rfl (fun h12 => ?_) (fun h12 => by omega)
          refine r_iload hC dX5_give_63 rfl ?_
          refine r_istore hC dX5_give_65 rfl ?_
          have L67 : ∀ (n67 : Nat) (w13 : Int), 0 ≤ w13 ∧ w13 ≤ 120 → (ses (σ 8 i) (σ 13 i 1) ((w13)).toNat = ses (σ 8 i) (σ 13 i 1) (σ 7 i 6 - 1).toNat) → w13 - 0 < (n67 : Int) → K 67 [some (vR 2 0), some (vR 7 i), some (vI t), some (vR 13 i), some (vR 7 (σ 13 i 0)), some (vI ((σ 7 i 6) - 1)), some (vI w13), none, none] [] σ := by
            intro n67
            induction n67 with
            | zero => intro w13  f_w13 i0_67 hm  ; omega
            | succ n67 ih67 =>
              intro w13  f_w13 i0_67 hm67  
              refine r_iload hC dX5_give_67 rfl ?_
              refine r_if_le (tgt := 91) hC dX5_give_69 rfl (fun h14 => ?_) (fun h14 => ?_)
              · have hs_ : ses (σ 8 i) (σ 13 i 1) (σ 7 i 6 - 1).toNat = w13 := by rw [← i0_67]; first | exact ses_0 (by omega) | exact ses_yes (by omega) (by omega)
                refine r_aload_n hC dX5_give_91 rfl ?_
                refine r_aload_n hC dX5_give_92 rfl ?_
                refine r_iload hC dX5_give_93 rfl ?_
                refine r_aload_n hC dX5_give_95 rfl ?_
                refine z_getI (jz := 6) hM dX5_give_96 fl_RX5_154 rfl rfl rfl (fun v15 h_v15 o_v15 t_v15 => ?_)
                have w_v15 := ((t_v15 (Or.inl (by first | exact trivial | exact tb7_ (by decide) | simp [Tb]))).trans (rfl)).symm
                clear t_v15
                subst w_v15
                have q_v15 : 0 ≤ (σ 7 i 6) ∧ (σ 7 i 6) ≤ 121 := o_v15.1 rfl
                refine r_aload_n hC dX5_give_99 rfl ?_
                refine z_getI (jz := 2) hM dX5_give_100 fl_RX5_224 rfl rfl rfl (fun v16 h_v16 o_v16 t_v16 => ?_)
                have w_v16 := ((t_v16 (Or.inl (by first | exact trivial | exact tb7_ (by decide) | simp [Tb]))).trans (rfl)).symm
                clear t_v16
                subst w_v16
                refine z_inv4 hM dX5_give_103 vl_RX5_227 rfl rfl rfl (Nat.le_of_ble_eq_true rfl) (Nat.le_of_ble_eq_true rfl) ?_
                refine x_comesTo (by omega) (by omega) (by omega) ?_
                refine r_istore hC dX5_give_106 rfl ?_
                refine r_iload hC dX5_give_108 rfl ?_
                refine r_ldc hC dX5_give_110 co_RX5_175 rfl ?_
                refine r_icmp_ne (tgt := 116) hC dX5_give_112 rfl (fun h17 => ?_) (fun h17 => ?_)
                · refine r_aload_n hC dX5_give_116 rfl ?_
                  refine z_getR hM dX5_give_117 fl_RX5_198 rfl rfl (vld_of (n := 7) rfl (by omega) (by omega)) ?_
                  refine r_iload hC dX5_give_120 rfl ?_
                  refine z_iald hM dX5_give_122 rfl (by omega) (by omega) (fun v18 h_v18 o_v18 t_v18 => ?_)
                  have w_v18 := ((t_v18 (Or.inl (by first | exact trivial | exact tb7_ (by decide) | simp [Tb]))).trans (rfl)).symm
                  clear t_v18
                  subst w_v18
                  refine r_istore hC dX5_give_123 rfl ?_
                  refine r_aload hC dX5_give_125 rfl ?_
                  refine r_iload hC dX5_give_127 rfl ?_
                  refine z_inv1 hM dX5_give_129 vl_RX5_133 rfl rfl rfl (Nat.le_of_ble_eq_true rfl) (Nat.le_of_ble_eq_true rfl) ?_
                  refine x_isTooLate (by omega) (fun h19 => ?_) (fun h19 => ?_)
                  · have y5_h19 : σ 7 (σ 13 i 0) 5 = (σ 7 (σ 13 i 0) 5) := (rfl)
                    have y10_h19 : σ 7 (σ 13 i 0) 10 = (σ 7 (σ 13 i 0) 10) := (rfl)
                    refine r_if_eq (tgt := 147) hC dX5_give_132 rfl (fun h20 => by omega) (fun h20 => ?_)
                    refine r_aload hC dX5_give_135 rfl ?_
                    refine r_dup hC dX5_give_137 rfl ?_
                    refine z_getI (jz := 11) hM dX5_give_138 fl_RX5_136 rfl rfl rfl (fun v21 h_v21 o_v21 t_v21 => ?_)
                    clear t_v21
                    refine r_iconst hC dX5_give_141 rfl ?_
                    refine r_iadd hC dX5_give_142 ?_
                    have f22 := inR_le (inR_wr (v21 + 1))
                    refine z_putIU (jz := 11) hM dX5_give_143 fw_RX5_136 rfl rfl rfl (by simp [Un, Tb, DL, DF, DR]) (by simp [Okv]) ?_
                    refine y_vret hK rfl dX5_give_146 ?_
                    have hm : gvM σ i t = σ := if_neg (fun q => by have q1 := q.1; have q2 := q.2.1; have q3 := q.2.2.1; have q4 := q.2.2.2.1; have q5 := q.2.2.2.2.1; have q6 := q.2.2.2.2.2; have hses := hs_; unfold gvN at q5; rw [hses] at q5; unfold NO at q5; unfold fuV at *; unfold ltV at *; omega)
                    rw [hm] at k
                    exact k
                  · have y5_h19 : σ 7 (σ 13 i 0) 5 = (σ 7 (σ 13 i 0) 5) := (rfl)
                    have y10_h19 : σ 7 (σ 13 i 0) 10 = (σ 7 (σ 13 i 0) 10) := (rfl)
                    refine r_if_eq (tgt := 147) hC dX5_give_132 rfl (fun h23 => ?_) (fun h23 => by omega)
                    refine r_aload_n hC dX5_give_147 rfl ?_
                    refine r_dup hC dX5_give_148 rfl ?_
                    refine z_getI (jz := 3) hM dX5_give_149 fl_RX5_231 rfl rfl rfl (fun v24 h_v24 o_v24 t_v24 => ?_)
                    have w_v24 := ((t_v24 (Or.inl (by first | exact trivial | exact tb7_ (by decide) | simp [Tb]))).trans (rfl)).symm
                    clear t_v24
                    subst w_v24
                    refine r_iconst hC dX5_give_152 rfl ?_
                    refine r_iadd hC dX5_give_153 ?_
                    have f25 := inR_le (inR_wr ((σ 13 i 3) + 1))
                    refine z_putIT (jz := 3) hM dX5_give_154 fw_RX5_231 rfl rfl rfl ⟨Or.inr (by first | exact id | exact dl7_ (by decide) | simp [DL]), Or.inr (by first | exact id | exact df14_ (by decide) | simp [DF])⟩ (by first | trivial | (simp only [Okv]; omega) | (simp [Okv]; try omega)) ?_
                    refine r_aload_n hC dX5_give_157 rfl ?_
                    refine r_aload hC dX5_give_158 rfl ?_
                    refine r_iload hC dX5_give_160 rfl ?_
                    refine r_sipush hC dX5_give_162 rfl ?_
                    refine r_sipush hC dX5_give_165 rfl ?_
                    refine r_iload hC dX5_give_168 rfl ?_
                    refine z_ins2 hM dX5_give_170 tl_RX5_234 rfl (Nat.le_of_ble_eq_true rfl) (Nat.le_of_ble_eq_true rfl) ?_
                    refine x_minE ?_
                    refine z_ins2 hM dX5_give_173 tl_RX5_239 rfl (Nat.le_of_ble_eq_true rfl) (Nat.le_of_ble_eq_true rfl) ?_
                    refine x_maxE ?_
                    refine z_inv3 hM dX5_give_176 vl_RX5_147 rfl rfl rfl (Nat.le_of_ble_eq_true rfl) (Nat.le_of_ble_eq_true rfl) ?_
                    have e7 : ∀ y : Int, (mu σ 13 i 3 (wr ((σ 13 i 3) + 1))) 7 (σ 13 i 0) y = σ 7 (σ 13 i 0) y := fun y => mu_ne (by omega)
                    have pl0 : (mu σ 13 i 3 (wr ((σ 13 i 3) + 1))) 7 (σ 13 i 0) 0 = (σ 13 i 0) := (e7 0).trans (hnL (σ 13 i 0) (by omega) (by omega))
                    have e6 := e7 6
                    have hh6 := hhL (σ 13 i 0) (by omega) (by omega)
                    have plF : FI ((mu σ 13 i 3 (wr ((σ 13 i 3) + 1))) 11 (σ 13 i 0)) ((mu σ 13 i 3 (wr ((σ 13 i 3) + 1))) 7 (σ 13 i 0) 6) := by rw [e6, show (mu σ 13 i 3 (wr ((σ 13 i 3) + 1))) 11 (σ 13 i 0) = σ 11 (σ 13 i 0) from funext fun y => mu_ne (by omega)]; exact hFL (σ 13 i 0) (by omega) (by omega)
                    refine x_place (by omega) (by omega) (by omega) pl0 plF (by omega) ?_
                    refine y_vret hK rfl dX5_give_179 ?_
                    have hN : gvN σ i = (cm (σ 16 0) (σ 15 0) (σ 7 i 2) (fun j => σ 9 i (w13 + j)) ((σ 7 i 6) - w13).toNat (σ 13 i 2)) := by unfold gvN; rw [hs_]
                    have hm : gvM σ i t = (plM (mu σ 13 i 3 (wr ((σ 13 i 3) + 1))) (σ 13 i 0) (σ 8 i ((σ 7 i 6) - 1)) (max (-1000) (min 1000 (cm (σ 16 0) (σ 15 0) (σ 7 i 2) (fun j => σ 9 i (w13 + j)) ((σ 7 i 6) - w13).toNat (σ 13 i 2))))) := by
                      unfold gvM
                      rw [if_pos ⟨by omega, by omega, by omega, by unfold fuV; omega, by rw [hN]; unfold NO; omega, by unfold ltV; omega⟩, hN]
                    rw [hm] at k
                    exact k
                · refine y_vret hK rfl dX5_give_115 ?_
                  have hm : gvM σ i t = σ := if_neg (fun q => by have q1 := q.1; have q2 := q.2.1; have q3 := q.2.2.1; have q4 := q.2.2.2.1; have q5 := q.2.2.2.2.1; have q6 := q.2.2.2.2.2; have hses := hs_; unfold gvN at q5; rw [hses] at q5; unfold NO at q5; unfold fuV at *; unfold ltV at *; omega)
                  rw [hm] at k
                  exact k
              · refine r_aload_n hC dX5_give_72 rfl ?_
                refine r_iload hC dX5_give_73 rfl ?_
                refine r_aload_n hC dX5_give_75 rfl ?_
                refine z_getI (jz := 1) hM dX5_give_76 fl_RX5_218 rfl rfl rfl (fun v26 h_v26 o_v26 t_v26 => ?_)
                have w_v26 := ((t_v26 (Or.inl (by first | exact trivial | exact tb7_ (by decide) | simp [Tb]))).trans (rfl)).symm
                clear t_v26
                subst w_v26
                refine z_inv2 hM dX5_give_79 vl_RX5_221 rfl rfl rfl (Nat.le_of_ble_eq_true rfl) (Nat.le_of_ble_eq_true rfl) ?_
                refine x_startsSession (by omega) (by omega) (fun h27 => ?_) (fun h27 => ?_)
                · refine r_if_ne (tgt := 91) hC dX5_give_82 rfl (fun h28 => ?_) (fun h28 => by omega)
                  have hs_ : ses (σ 8 i) (σ 13 i 1) (σ 7 i 6 - 1).toNat = w13 := by rw [← i0_67]; first | exact ses_0 (by omega) | exact ses_yes (by omega) (by omega)
                  refine r_aload_n hC dX5_give_91 rfl ?_
                  refine r_aload_n hC dX5_give_92 rfl ?_
                  refine r_iload hC dX5_give_93 rfl ?_
                  refine r_aload_n hC dX5_give_95 rfl ?_
                  refine z_getI (jz := 6) hM dX5_give_96 fl_RX5_154 rfl rfl rfl (fun v29 h_v29 o_v29 t_v29 => ?_)
                  have w_v29 := ((t_v29 (Or.inl (by first | exact trivial | exact tb7_ (by decide) | simp [Tb]))).trans (rfl)).symm
                  clear t_v29
                  subst w_v29
                  have q_v29 : 0 ≤ (σ 7 i 6) ∧ (σ 7 i 6) ≤ 121 := o_v29.1 rfl
                  refine r_aload_n hC dX5_give_99 rfl ?_
                  refine z_getI (jz := 2) hM dX5_give_100 fl_RX5_224 rfl rfl rfl (fun v30 h_v30 o_v30 t_v30 => ?_)
                  have w_v30 := ((t_v30 (Or.inl (by first | exact trivial | exact tb7_ (by decide) | simp [Tb]))).trans (rfl)).symm
                  clear t_v30
                  subst w_v30
                  refine z_inv4 hM dX5_give_103 vl_RX5_227 rfl rfl rfl (Nat.le_of_ble_eq_true rfl) (Nat.le_of_ble_eq_true rfl) ?_
                  refine x_comesTo (by omega) (by omega) (by omega) ?_
                  refine r_istore hC dX5_give_106 rfl ?_
                  refine r_iload hC dX5_give_108 rfl ?_
                  refine r_ldc hC dX5_give_110 co_RX5_175 rfl ?_
                  refine r_icmp_ne (tgt := 116) hC dX5_give_112 rfl (fun h31 => ?_) (fun h31 => ?_)
                  · refine r_aload_n hC dX5_give_116 rfl ?_
                    refine z_getR hM dX5_give_117 fl_RX5_198 rfl rfl (vld_of (n := 7) rfl (by omega) (by omega)) ?_
                    refine r_iload hC dX5_give_120 rfl ?_
                    refine z_iald hM dX5_give_122 rfl (by omega) (by omega) (fun v32 h_v32 o_v32 t_v32 => ?_)
                    have w_v32 := ((t_v32 (Or.inl (by first | exact trivial | exact tb7_ (by decide) | simp [Tb]))).trans (rfl)).symm
                    clear t_v32
                    subst w_v32
                    refine r_istore hC dX5_give_123 rfl ?_
                    refine r_aload hC dX5_give_125 rfl ?_
                    refine r_iload hC dX5_give_127 rfl ?_
                    refine z_inv1 hM dX5_give_129 vl_RX5_133 rfl rfl rfl (Nat.le_of_ble_eq_true rfl) (Nat.le_of_ble_eq_true rfl) ?_
                    refine x_isTooLate (by omega) (fun h33 => ?_) (fun h33 => ?_)
                    · have y5_h33 : σ 7 (σ 13 i 0) 5 = (σ 7 (σ 13 i 0) 5) := (rfl)
                      have y10_h33 : σ 7 (σ 13 i 0) 10 = (σ 7 (σ 13 i 0) 10) := (rfl)
                      refine r_if_eq (tgt := 147) hC dX5_give_132 rfl (fun h34 => by omega) (fun h34 => ?_)
                      refine r_aload hC dX5_give_135 rfl ?_
                      refine r_dup hC dX5_give_137 rfl ?_
                      refine z_getI (jz := 11) hM dX5_give_138 fl_RX5_136 rfl rfl rfl (fun v35 h_v35 o_v35 t_v35 => ?_)
                      clear t_v35
                      refine r_iconst hC dX5_give_141 rfl ?_
                      refine r_iadd hC dX5_give_142 ?_
                      have f36 := inR_le (inR_wr (v35 + 1))
                      refine z_putIU (jz := 11) hM dX5_give_143 fw_RX5_136 rfl rfl rfl (by simp [Un, Tb, DL, DF, DR]) (by simp [Okv]) ?_
                      refine y_vret hK rfl dX5_give_146 ?_
                      have hm : gvM σ i t = σ := if_neg (fun q => by have q1 := q.1; have q2 := q.2.1; have q3 := q.2.2.1; have q4 := q.2.2.2.1; have q5 := q.2.2.2.2.1; have q6 := q.2.2.2.2.2; have hses := hs_; unfold gvN at q5; rw [hses] at q5; unfold NO at q5; unfold fuV at *; unfold ltV at *; omega)
                      rw [hm] at k
                      exact k
                    · have y5_h33 : σ 7 (σ 13 i 0) 5 = (σ 7 (σ 13 i 0) 5) := (rfl)
                      have y10_h33 : σ 7 (σ 13 i 0) 10 = (σ 7 (σ 13 i 0) 10) := (rfl)
                      refine r_if_eq (tgt := 147) hC dX5_give_132 rfl (fun h37 => ?_) (fun h37 => by omega)
                      refine r_aload_n hC dX5_give_147 rfl ?_
                      refine r_dup hC dX5_give_148 rfl ?_
                      refine z_getI (jz := 3) hM dX5_give_149 fl_RX5_231 rfl rfl rfl (fun v38 h_v38 o_v38 t_v38 => ?_)
                      have w_v38 := ((t_v38 (Or.inl (by first | exact trivial | exact tb7_ (by decide) | simp [Tb]))).trans (rfl)).symm
                      clear t_v38
                      subst w_v38
                      refine r_iconst hC dX5_give_152 rfl ?_
                      refine r_iadd hC dX5_give_153 ?_
                      have f39 := inR_le (inR_wr ((σ 13 i 3) + 1))
                      refine z_putIT (jz := 3) hM dX5_give_154 fw_RX5_231 rfl rfl rfl ⟨Or.inr (by first | exact id | exact dl7_ (by decide) | simp [DL]), Or.inr (by first | exact id | exact df14_ (by decide) | simp [DF])⟩ (by first | trivial | (simp only [Okv]; omega) | (simp [Okv]; try omega)) ?_
                      refine r_aload_n hC dX5_give_157 rfl ?_
                      refine r_aload hC dX5_give_158 rfl ?_
                      refine r_iload hC dX5_give_160 rfl ?_
                      refine r_sipush hC dX5_give_162 rfl ?_
                      refine r_sipush hC dX5_give_165 rfl ?_
                      refine r_iload hC dX5_give_168 rfl ?_
                      refine z_ins2 hM dX5_give_170 tl_RX5_234 rfl (Nat.le_of_ble_eq_true rfl) (Nat.le_of_ble_eq_true rfl) ?_
                      refine x_minE ?_
                      refine z_ins2 hM dX5_give_173 tl_RX5_239 rfl (Nat.le_of_ble_eq_true rfl) (Nat.le_of_ble_eq_true rfl) ?_
                      refine x_maxE ?_
                      refine z_inv3 hM dX5_give_176 vl_RX5_147 rfl rfl rfl (Nat.le_of_ble_eq_true rfl) (Nat.le_of_ble_eq_true rfl) ?_
                      have e7 : ∀ y : Int, (mu σ 13 i 3 (wr ((σ 13 i 3) + 1))) 7 (σ 13 i 0) y = σ 7 (σ 13 i 0) y := fun y => mu_ne (by omega)
                      have pl0 : (mu σ 13 i 3 (wr ((σ 13 i 3) + 1))) 7 (σ 13 i 0) 0 = (σ 13 i 0) := (e7 0).trans (hnL (σ 13 i 0) (by omega) (by omega))
                      have e6 := e7 6
                      have hh6 := hhL (σ 13 i 0) (by omega) (by omega)
                      have plF : FI ((mu σ 13 i 3 (wr ((σ 13 i 3) + 1))) 11 (σ 13 i 0)) ((mu σ 13 i 3 (wr ((σ 13 i 3) + 1))) 7 (σ 13 i 0) 6) := by rw [e6, show (mu σ 13 i 3 (wr ((σ 13 i 3) + 1))) 11 (σ 13 i 0) = σ 11 (σ 13 i 0) from funext fun y => mu_ne (by omega)]; exact hFL (σ 13 i 0) (by omega) (by omega)
                      refine x_place (by omega) (by omega) (by omega) pl0 plF (by omega) ?_
                      refine y_vret hK rfl dX5_give_179 ?_
                      have hN : gvN σ i = (cm (σ 16 0) (σ 15 0) (σ 7 i 2) (fun j => σ 9 i (w13 + j)) ((σ 7 i 6) - w13).toNat (σ 13 i 2)) := by unfold gvN; rw [hs_]
                      have hm : gvM σ i t = (plM (mu σ 13 i 3 (wr ((σ 13 i 3) + 1))) (σ 13 i 0) (σ 8 i ((σ 7 i 6) - 1)) (max (-1000) (min 1000 (cm (σ 16 0) (σ 15 0) (σ 7 i 2) (fun j => σ 9 i (w13 + j)) ((σ 7 i 6) - w13).toNat (σ 13 i 2))))) := by
                        unfold gvM
                        rw [if_pos ⟨by omega, by omega, by omega, by unfold fuV; omega, by rw [hN]; unfold NO; omega, by unfold ltV; omega⟩, hN]
                      rw [hm] at k
                      exact k
                  · refine y_vret hK rfl dX5_give_115 ?_
                    have hm : gvM σ i t = σ := if_neg (fun q => by have q1 := q.1; have q2 := q.2.1; have q3 := q.2.2.1; have q4 := q.2.2.2.1; have q5 := q.2.2.2.2.1; have q6 := q.2.2.2.2.2; have hses := hs_; unfold gvN at q5; rw [hses] at q5; unfold NO at q5; unfold fuV at *; unfold ltV at *; omega)
                    rw [hm] at k
                    exact k
                · refine r_if_ne (tgt := 91) hC dX5_give_82 rfl (fun h40 => by omega) (fun h40 => ?_)
                  refine r_iincE hC ((w13 - 1)) dX5_give_85 rfl rfl (by omega) (by unfold inR; omega) ?_
                  refine r_goto (tgt := 67) hC dX5_give_88 rfl ?_
                  exact ih67 ((w13 - 1))  (by omega) (by first | rfl | (rw [← ses_no (by omega) (by omega)]; exact i0_67)) (by omega)  
          exact L67 122 (((σ 7 i 6) - 1))  (by omega) (by first | rfl | (rw [← ses_no (by omega) (by omega)]; exact i0_67)) (by omega)  
  · -- h3
    refine r_astoreN hC dX5_give_18 rfl ?_
    refine r_aload_n hC dX5_give_20 rfl ?_
    refine z_getI (jz := 6) hM dX5_give_21 fl_RX5_154 rfl rfl rfl (fun v41 h_v41 o_v41 t_v41 => ?_)
    have w_v41 := ((t_v41 (Or.inl (by first | exact trivial | exact tb7_ (by decide) | simp [Tb]))).trans (rfl)).symm
    clear t_v41
    subst w_v41
    have q_v41 : 0 ≤ (σ 7 i 6) ∧ (σ 7 i 6) ≤ 121 := o_v41.1 rfl
    refine r_iconst hC dX5_give_24 rfl ?_
    refine r_isubE hC (((σ 7 i 6) - 1)) dX5_give_25 (by omega) (by unfold inR; omega) ?_
    refine r_istore hC dX5_give_26 rfl ?_
    refine r_aloadN hC dX5_give_28 rfl ?_
    refine r_ifnullN (tgt := 62) hC dX5_give_30 rfl ?_
    refine y_vret hK rfl dX5_give_62 ?_
    have hm : gvM σ i t = σ := if_neg (fun q => by have q1 := q.1; have q2 := q.2.1; have q3 := q.2.2.1; have q4 := q.2.2.2.1; have q5 := q.2.2.2.2.1; have q6 := q.2.2.2.2.2; unfold fuV at *; unfold ltV at *; omega)
    rw [hm] at k
    exact k
-- B: what always holds at rest of the class's places, and what keeps it
def CI (V : Mm) : Prop := (∀ l : Int, 0 ≤ l → l ≤ 3 → V 7 l 0 = l) ∧ (∀ l : Int, 0 ≤ l → l ≤ 6 → FI (V 11 l) (V 7 l 6)) ∧ (∀ l : Int, 0 ≤ l → l ≤ 6 → Rst (V 7 l 3) (V 7 l 4) (V 7 l 6)) ∧ (∀ l : Int, 0 ≤ l → l ≤ 3 → V 13 l 0 ≠ l)
theorem CI.h7 {V : Mm} (h : CI V) {l : Int} (h0 : 0 ≤ l) (h1 : l ≤ 6) : 0 ≤ V 7 l 6 ∧ V 7 l 6 ≤ 120 := by
  have := h.2.2.1 l h0 h1
  unfold Rst at this
  omega
/-- the places that a call on LANE i may change -/
abbrev PS (i : Int) (c : Nat) (x y : Int) : Prop := (c = 12 ∧ 3 ≤ y ∧ y ≤ 5) ∨ (x = i ∧ (c = 8 ∨ c = 9 ∨ c = 10 ∨ c = 11 ∨ (c = 7 ∧ (y = 6 ∨ y = 10 ∨ y = 12 ∨ y = 13 ∨ y = 14))))
theorem enM_nx {V : Mm} {i t v x y : Int} {c : Nat} (h : ¬ PS i c x y) : enM V i t v c x y = V c x y := by
  unfold PS at h
  unfold enM
  rw [rgM_ne (by omega)]
  split
  · rw [adM_ne (by omega), insM_ne (by omega)]
  · rw [lyM_ne (by omega), insM_ne (by omega)]
theorem drps_nx {i x y : Int} {c : Nat} (h : ¬ PS i c x y) : ∀ (n : Nat) (V : Mm), drps i n V c x y = V c x y
  | 0, _ => rfl
  | n + 1, V => by
    show (if goV V i then drps i n (dpM V i) else V) c x y = V c x y
    split
    · rw [drps_nx h n, dpM_ne (by unfold PS at h; omega)]
    · rfl
theorem dpN_nx {i x y : Int} {c : Nat} (h : ¬ PS i c x y) : ∀ (n : Nat) (V : Mm), dpN i n V c x y = V c x y
  | 0, _ => rfl
  | n + 1, V => by
    show dpN i n (dpM V i) c x y = V c x y
    rw [dpN_nx h n, dpM_ne (by unfold PS at h; omega)]
theorem plM_nx {V : Mm} {i t v x y : Int} {c : Nat} (h : ¬ PS i c x y) : plM V i t v c x y = V c x y := by
  unfold plM
  rw [drps_nx h, enM_nx h]
theorem gvM_nx {V : Mm} {i t x y : Int} {c : Nat} (h : ¬ PS (V 13 i 0) c x y) (h13 : ¬ (c = 13 ∧ x = i ∧ y = 3)) : gvM V i t c x y = V c x y := by
  unfold gvM
  split
  · rw [plM_nx h, mu_ne h13]
  · rfl
theorem enM_6 {V : Mm} {i t v : Int} : enM V i t v 7 i 6 = V 7 i 6 + 1 := by
  unfold enM
  rw [rgM_ne (by omega)]
  split
  · rw [adM_ne (by omega), insM_6]
  · rw [lyM_ne (by omega), insM_6]
theorem drps_6 {i : Int} : ∀ (n : Nat) (V : Mm), 0 ≤ V 7 i 6 → (V 7 i 3 = 1 → 0 ≤ V 7 i 4) → 0 ≤ drps i n V 7 i 6 ∧ drps i n V 7 i 6 ≤ V 7 i 6
  | 0, _, h, _ => ⟨h, Int.le_refl _⟩
  | n + 1, V, h, hz => by
    show 0 ≤ (if goV V i then drps i n (dpM V i) else V) 7 i 6 ∧ (if goV V i then drps i n (dpM V i) else V) 7 i 6 ≤ V 7 i 6
    split
    · rename_i hg
      have h1 : 1 ≤ V 7 i 6 := by rcases hg with q | q <;> omega
      have ih := drps_6 n (dpM V i) (by rw [dpM_6]; omega) (by rw [dpM_ne (by omega), dpM_ne (by omega)]; exact hz)
      rw [dpM_6] at ih
      omega
    · omega
theorem drps_end {i : Int} : ∀ (n : Nat) (V : Mm), V 7 i 6 ≤ n → (V 7 i 3 = 1 → 0 ≤ V 7 i 4) → ¬ goV (drps i n V) i
  | 0, V, h, hz => by
    show ¬ goV V i
    unfold goV
    omega
  | n + 1, V, h, hz => by
    show ¬ goV (if goV V i then drps i n (dpM V i) else V) i
    split
    · exact drps_end n (dpM V i) (by rw [dpM_6]; omega) (by rw [dpM_ne (by omega), dpM_ne (by omega)]; exact hz)
    · assumption
theorem CI.to {V W : Mm} (h : CI V) (e : ∀ (c : Nat) (x y : Int), c = 11 ∨ (c = 7 ∧ (y = 0 ∨ y = 3 ∨ y = 4 ∨ y = 6)) ∨ (c = 13 ∧ y = 0) → W c x y = V c x y) : CI W := by
  refine ⟨fun l h0 h1 => ?_, fun l h0 h1 => ?_, fun l h0 h1 => ?_, fun l h0 h1 => ?_⟩
  · rw [e 7 l 0 (by omega)]; exact h.1 l h0 h1
  · rw [e 7 l 6 (by omega), show W 11 l = V 11 l from funext fun y => e 11 l y (by omega)]; exact h.2.1 l h0 h1
  · rw [e 7 l 3 (by omega), e 7 l 4 (by omega), e 7 l 6 (by omega)]; exact h.2.2.1 l h0 h1
  · rw [e 13 l 0 (by omega)]; exact h.2.2.2 l h0 h1
theorem CI.li {V : Mm} (h : CI V) {i : Int} (h0 : 0 ≤ i) (h1 : i ≤ 3) : LI V i := ⟨h.1 i h0 h1, h.2.1 i h0 (by omega), (h.h7 h0 (by omega)).1⟩
theorem CI.size {V : Mm} (h : CI V) {i : Int} (h0 : 0 ≤ i) (h1 : i ≤ 6) : V 7 i 3 = 1 → 1 ≤ V 7 i 4 ∧ V 7 i 4 ≤ 120 ∧ V 7 i 6 ≤ V 7 i 4 := fun q => by
  have := h.2.2.1 i h0 h1
  unfold Rst at this
  omega
theorem CI.pl {V : Mm} (h : CI V) {i t v : Int} (h0 : 0 ≤ i) (h1 : i ≤ 3) (hf : ¬ fuV V i) : CI (plM V i t v) := by
  have hz := h.size h0 (show i ≤ 6 by omega)
  have hL : LI (plM V i t v) i := (h.li h0 h1).pl (by omega)
  have e3 : enM V i t v 7 i 3 = V 7 i 3 := enM_nx (by unfold PS; omega)
  have e4 : enM V i t v 7 i 4 = V 7 i 4 := enM_nx (by unfold PS; omega)
  have h6 := h.h7 h0 (show i ≤ 6 by omega)
  have d6 := drps_6 (i := i) (V 7 i 6 + 1).toNat (enM V i t v) (by rw [enM_6]; omega) (by rw [e3, e4]; omega)
  have dE := drps_end (i := i) (V 7 i 6 + 1).toNat (enM V i t v) (by rw [enM_6]; omega) (by rw [e3, e4]; omega)
  have f3 : drps i (V 7 i 6 + 1).toNat (enM V i t v) 7 i 3 = V 7 i 3 := (drps_nx (by unfold PS; omega) _ _).trans e3
  have f4 : drps i (V 7 i 6 + 1).toNat (enM V i t v) 7 i 4 = V 7 i 4 := (drps_nx (by unfold PS; omega) _ _).trans e4
  rw [enM_6] at d6
  refine ⟨fun l a b => ?_, fun l a b => ?_, fun l a b => ?_, fun l a b => ?_⟩
  · rw [plM_nx (by unfold PS; omega)]; exact h.1 l a b
  · by_cases hl : l = i
    · subst hl; exact hL.2.1
    · rw [plM_nx (by unfold PS; omega), show plM V i t v 11 l = V 11 l from funext fun y => plM_nx (by unfold PS; omega)]; exact h.2.1 l a b
  · by_cases hl : l = i
    · subst hl
      unfold plM
      rw [f3, f4]
      unfold goV at dE
      rw [f3, f4] at dE
      unfold Rst
      unfold fuV at hf
      omega
    · rw [plM_nx (by unfold PS; omega), plM_nx (by unfold PS; omega), plM_nx (by unfold PS; omega)]; exact h.2.2.1 l a b
  · rw [plM_nx (by unfold PS; omega)]; exact h.2.2.2 l a b
theorem CI.gv {V : Mm} (h : CI V) {i t : Int} : CI (gvM V i t) := by
  unfold gvM
  split
  · rename_i q
    have hW : CI (mu V 13 i 3 (wr (V 13 i 3 + 1))) := h.to fun c x y e => mu_ne (by omega)
    refine hW.pl q.1.1 q.1.2.1 (fun z => q.2.2.2.1 ?_)
    unfold fuV at z ⊢
    rw [mu_ne (by omega), mu_ne (by omega)] at z
    exact z
  · exact h
theorem CI.dp {V : Mm} (h : CI V) {i : Int} (h0 : 0 ≤ i) (h1 : i ≤ 3) (h6 : 1 ≤ V 7 i 6) : CI (dpM V i) := by
  have hL := (h.li h0 h1).dp h6
  refine ⟨fun l a b => ?_, fun l a b => ?_, fun l a b => ?_, fun l a b => ?_⟩
  · rw [dpM_ne (by omega)]; exact h.1 l a b
  · by_cases hl : l = i
    · subst hl; exact hL.2.1
    · rw [dpM_ne (by omega), show dpM V i 11 l = V 11 l from funext fun y => dpM_ne (by omega)]; exact h.2.1 l a b
  · by_cases hl : l = i
    · subst hl
      rw [dpM_6, dpM_ne (by omega), dpM_ne (by omega)]
      have := h.2.2.1 l a b
      unfold Rst at this ⊢
      omega
    · rw [dpM_ne (by omega), dpM_ne (by omega), dpM_ne (by omega)]; exact h.2.2.1 l a b
  · rw [dpM_ne (by omega)]; exact h.2.2.2 l a b
theorem CI.nt {V : Mm} (h : CI V) : CI (ntM V) := h.to fun c x y e => if_neg (by omega)
theorem CI.rg {V : Mm} (h : CI V) {i : Int} : CI (rgM V i) := h.to fun c x y e => rgM_ne (by omega)
theorem CI.lay {V : Mm} (h : CI V) {i : Int} (h0 : 0 ≤ i) (h1 : i ≤ 3) : CI (lyM V i (V 7 i 6)) := by
  have h6 := h.h7 h0 (show i ≤ 6 by omega)
  refine ⟨fun l a b => ?_, fun l a b => ?_, fun l a b => ?_, fun l a b => ?_⟩
  · rw [lyM_ne (by omega)]; exact h.1 l a b
  · rw [lyM_ne (by omega)]
    by_cases hl : l = i
    · subst hl
      rw [show lyM V l (V 7 l 6) 11 l = lyR (V 7 l 6) (V 11 l) from funext fun y => su_at]
      exact FI_ly h6.1
    · rw [show lyM V i (V 7 i 6) 11 l = V 11 l from funext fun y => lyM_ne (by omega)]; exact h.2.1 l a b
  · rw [lyM_ne (by omega), lyM_ne (by omega), lyM_ne (by omega)]; exact h.2.2.1 l a b
  · rw [lyM_ne (by omega)]; exact h.2.2.2 l a b
-- the calls
abbrev opV (V : Mm) (l : Int) : Prop := (0 ≤ l ∧ l ≤ 3) ∧ V 7 l 1 = 1
abbrev coC (V : Mm) (l t v : Int) : Prop := opV V l ∧ (0 ≤ t ∧ t ≤ 100000) ∧ -1000 ≤ v ∧ v ≤ 1000
def coM (V : Mm) (l t v : Int) : Mm := if coC V l t v ∧ ¬ ltV V l t ∧ ¬ fuV V l then ntM (plM (gvM V l t) l t v) else V
def coR (V : Mm) (l t v : Int) : Int := if ¬ coC V l t v then -1 else if ltV V l t then -2 else if fuV V l then -1 else coM V l t v 7 l 6
def bst (l s : Int) : Nat → Int → Mm → Mm
  | 0, _, V => V
  | n + 1, v, V => bst l s n (v + s) (plM (gvM V l (wr (V 7 l 10 + 1))) l (wr (V 7 l 10 + 1)) v)
abbrev buC (V : Mm) (l m v s : Int) : Prop := opV V l ∧ (1 ≤ m ∧ m ≤ 40) ∧ (-1000 ≤ s ∧ s ≤ 1000) ∧ (-1000 ≤ v ∧ v ≤ 1000) ∧ (-1000 ≤ v + (m - 1) * s ∧ v + (m - 1) * s ≤ 1000) ∧ (0 ≤ wr (V 7 l 10 + m) ∧ wr (V 7 l 10 + m) ≤ 100000) ∧ ¬ (V 7 l 3 ≠ 1 ∧ 120 < V 7 l 6 + m)
def buM (V : Mm) (l m v s : Int) : Mm := if buC V l m v s then ntM (bst l s m.toNat v V) else V
def buR (V : Mm) (l m v s : Int) : Int := if buC V l m v s then buM V l m v s 7 l 6 else -1
abbrev leC (V : Mm) (l m : Int) : Prop := opV V l ∧ 0 ≤ m ∧ m ≤ V 7 l 6
def leM (V : Mm) (l m : Int) : Mm := if leC V l m then dpN l m.toNat V else V
def leR (V : Mm) (l m : Int) : Int := if leC V l m then leM V l m 7 l 6 else -1
def unM (V : Mm) (l t : Int) : Mm := if opV V l then dpN l (hU V l t).toNat V else V
def unR (V : Mm) (l t : Int) : Int := if opV V l then hU V l t else -1
abbrev evC (V : Mm) (l x : Int) : Prop := opV V l ∧ 0 ≤ x ∧ x < V 7 l 6
def taM (V : Mm) (l x : Int) : Mm := if evC V l x then rgM (lyM (remM V l x) l (V 7 l 6 - 1)) l else V
def taR (V : Mm) (l x : Int) : Int := if evC V l x then V 9 l x else -2147483648
abbrev alC (V : Mm) (l x v : Int) : Prop := evC V l x ∧ -1000 ≤ v ∧ v ≤ 1000
def alM (V : Mm) (l x v : Int) : Mm := if alC V l x v then rgM (lyM (mu V 9 l x v) l (V 7 l 6)) l else V
def alR (V : Mm) (l x v : Int) : Int := if alC V l x v then 1 else 0
theorem bst_s {l s v : Int} {n : Nat} {V : Mm} : bst l s (n + 1) v V = bst l s n (v + s) (plM (gvM V l (wr (V 7 l 10 + 1))) l (wr (V 7 l 10 + 1)) v) := rfl
theorem lin_btw {v m s i : Int} (h0 : 0 ≤ i) (h1 : i ≤ m) (ha : -1000 ≤ v ∧ v ≤ 1000) (hb : -1000 ≤ v + m * s ∧ v + m * s ≤ 1000) : -1000 ≤ v + i * s ∧ v + i * s ≤ 1000 := by
  rcases Int.le_total 0 s with hs | hs
  · have q0 := Int.mul_nonneg h0 hs
    have q1 := Int.mul_le_mul_of_nonneg_right h1 hs
    omega
  · have q0 := Int.mul_nonneg h0 (show 0 ≤ -s by omega)
    have q1 := Int.mul_le_mul_of_nonneg_right h1 (show 0 ≤ -s by omega)
    rw [Int.mul_neg] at q0 q1
    rw [Int.mul_neg] at q1
    omega
theorem gv_7 {V : Mm} (h : CI V) {l t : Int} (h0 : 0 ≤ l) (h1 : l ≤ 3) {y : Int} : gvM V l t 7 l y = V 7 l y := gvM_nx (by have := h.2.2.2 l h0 h1; unfold PS; omega) (by omega)
theorem pl_6 {V : Mm} (h : CI V) {i t v : Int} (h0 : 0 ≤ i) (h1 : i ≤ 3) : plM V i t v 7 i 6 ≤ V 7 i 6 + 1 := by
  have hz := h.size h0 (show i ≤ 6 by omega)
  have e3 : enM V i t v 7 i 3 = V 7 i 3 := enM_nx (by unfold PS; omega)
  have e4 : enM V i t v 7 i 4 = V 7 i 4 := enM_nx (by unfold PS; omega)
  have h6 := h.h7 h0 (show i ≤ 6 by omega)
  have d6 := drps_6 (i := i) (V 7 i 6 + 1).toNat (enM V i t v) (by rw [enM_6]; omega) (by rw [e3, e4]; omega)
  rw [enM_6] at d6
  unfold plM
  omega
-- B: the class's calls that move
theorem x_giveC {ec : Bool} {d : Nat} {P : Option Vl → Mm → Prop} {σ : Mm} {i t : Int} (hC : CI σ) (b_i : 0 ≤ i ∧ i ≤ 3) (b_t : -2147483648 ≤ t ∧ t ≤ 2147483647) (k : P none (gvM σ i t)) : WT (true, false, ec) (d + 7) 70 [vR 2 0, vR 7 i, vI t] σ P := x_give b_i b_t hC.1 (fun l a b => hC.2.1 l a (by omega)) (fun l a b => hC.h7 a (by omega)) (hC.2.2.2 i b_i.1 b_i.2) k
theorem x_placeC {ec : Bool} {d : Nat} {P : Option Vl → Mm → Prop} {σ : Mm} {i t v : Int} (hC : CI σ) (b_i : 0 ≤ i ∧ i ≤ 3) (b_t : -2147483648 ≤ t ∧ t ≤ 2147483647) (b_v : -1000 ≤ v ∧ v ≤ 1000) (k : P none (plM σ i t v)) : WT (true, false, ec) (d + 6) 67 [vR 2 0, vR 7 i, vI t, vI v] σ P := x_place ⟨b_i.1, by omega⟩ b_t b_v (hC.1 i b_i.1 b_i.2) (hC.2.1 i b_i.1 (by omega)) (hC.h7 b_i.1 (by omega)) k
theorem x_come {ec : Bool} {d : Nat} {P : Option Vl → Mm → Prop} {σ : Mm} {l t v : Int}  (hCI : CI σ)  (k : P (some (vI (coR σ l t v))) (coM σ l t v)) : WT (true, false, ec) (d + 8) 61 [vR 2 0, vI l, vI t, vI v] σ P := by
  refine WT_in fun K hK => ?_
  have hK : StpY (true, false, ec) cX5_come RX5 (some .int) (WT (true, false, ec) (d + 7)) P K := hK
  have hM := hK.1
  have hC := hK.1.1
  show K 0 [some (vR 2 0), some (vI l), some (vI t), some (vI v), none] [] σ
  refine r_rngz hC (fun g0 => ?_)
  have r_l : -2147483648 ≤ l ∧ l ≤ 2147483647 := inR_le (g0 (vI l) (by simp))
  have r_t : -2147483648 ≤ t ∧ t ≤ 2147483647 := inR_le (g0 (vI t) (by simp))
  have r_v : -2147483648 ≤ v ∧ v ≤ 2147483647 := inR_le (g0 (vI v) (by simp))
  refine r_aload_n hC dX5_come_0 rfl ?_
  refine r_iload_n hC dX5_come_1 rfl ?_
  refine z_inv1 hM dX5_come_2 vl_RX5_123 rfl rfl rfl (Nat.le_of_ble_eq_true rfl) (Nat.le_of_ble_eq_true rfl) ?_
  refine x_openLane (fun h1 => ?_) (fun h1 => ?_)
  · -- h1
    refine r_astore hC dX5_come_5 rfl ?_
    refine r_aload hC dX5_come_7 rfl ?_
    refine r_ifnullR hC dX5_come_9 ?_
    refine r_iload_n hC dX5_come_12 rfl ?_
    refine z_ins1 hM dX5_come_13 tl_RX5_127 rfl (Nat.le_of_ble_eq_true rfl) (Nat.le_of_ble_eq_true rfl) ?_
    refine s_isTime (fun h3 => ?_) (fun h3 => ?_)
    · refine r_if_eq (tgt := 26) hC dX5_come_16 rfl (fun h4 => by omega) (fun h4 => ?_)
      refine r_iload_n hC dX5_come_19 rfl ?_
      refine z_ins1 hM dX5_come_20 tl_RX5_130 rfl (Nat.le_of_ble_eq_true rfl) (Nat.le_of_ble_eq_true rfl) ?_
      refine s_isValue (fun h6 => ?_) (fun h6 => ?_)
      · refine r_if_ne (tgt := 28) hC dX5_come_23 rfl (fun h7 => ?_) (fun h7 => by omega)
        refine r_aload hC dX5_come_28 rfl ?_
        refine r_iload_n hC dX5_come_30 rfl ?_
        refine z_inv1 hM dX5_come_31 vl_RX5_133 rfl rfl rfl (Nat.le_of_ble_eq_true rfl) (Nat.le_of_ble_eq_true rfl) ?_
        refine x_isTooLate (by omega) (fun h8 => ?_) (fun h8 => ?_)
        · have y5_h8 : σ 7 l 5 = (σ 7 l 5) := (rfl)
          have y10_h8 : σ 7 l 10 = (σ 7 l 10) := (rfl)
          refine r_if_eq (tgt := 51) hC dX5_come_34 rfl (fun h9 => by omega) (fun h9 => ?_)
          refine r_aload hC dX5_come_37 rfl ?_
          refine r_dup hC dX5_come_39 rfl ?_
          refine z_getI (jz := 11) hM dX5_come_40 fl_RX5_136 rfl rfl rfl (fun v10 h_v10 o_v10 t_v10 => ?_)
          clear t_v10
          refine r_iconst hC dX5_come_43 rfl ?_
          refine r_iadd hC dX5_come_44 ?_
          have f11 := inR_le (inR_wr (v10 + 1))
          refine z_putIU (jz := 11) hM dX5_come_45 fw_RX5_136 rfl rfl rfl (by simp [Un, Tb, DL, DF, DR]) (by simp [Okv]) ?_
          refine r_bipush hC dX5_come_48 rfl ?_
          refine y_iret hK rfl dX5_come_50 ?_
          have hM : coM σ l t v = σ := by
            unfold coM
            first | exact if_pos (by omega) | exact if_neg (by omega)
          rw [hM] at k
          have hR : coR σ l t v = (-2) := by
            unfold coR
            first | (rw [if_pos (by omega)]; done) | (rw [if_neg (by omega), if_pos (by omega)]; done) | (rw [if_neg (by omega), if_neg (by omega), if_pos (by omega)]; done) | (rw [if_neg (by omega), if_neg (by omega), if_neg (by omega), hM]; exact ntM_ne (by omega))
          rw [hR] at k
          exact k
        · have y5_h8 : σ 7 l 5 = (σ 7 l 5) := (rfl)
          have y10_h8 : σ 7 l 10 = (σ 7 l 10) := (rfl)
          refine r_if_eq (tgt := 51) hC dX5_come_34 rfl (fun h12 => ?_) (fun h12 => by omega)
          refine r_aload hC dX5_come_51 rfl ?_
          refine z_inv0 hM dX5_come_53 vl_RX5_139 rfl rfl rfl (Nat.le_of_ble_eq_true rfl) (Nat.le_of_ble_eq_true rfl) ?_
          refine x_isFull (by omega) (fun h13 => ?_) (fun h13 => ?_)
          · have y3_h13 : σ 7 l 3 = (σ 7 l 3) := (rfl)
            have y6_h13 : σ 7 l 6 = (σ 7 l 6) := (rfl)
            refine r_if_eq (tgt := 61) hC dX5_come_56 rfl (fun h14 => by omega) (fun h14 => ?_)
            refine r_iconst hC dX5_come_59 rfl ?_
            refine y_iret hK rfl dX5_come_60 ?_
            have hM : coM σ l t v = σ := by
              unfold coM
              first | exact if_pos (by omega) | exact if_neg (by omega)
            rw [hM] at k
            have hR : coR σ l t v = (-1) := by
              unfold coR
              first | (rw [if_pos (by omega)]; done) | (rw [if_neg (by omega), if_pos (by omega)]; done) | (rw [if_neg (by omega), if_neg (by omega), if_pos (by omega)]; done) | (rw [if_neg (by omega), if_neg (by omega), if_neg (by omega), hM]; exact ntM_ne (by omega))
            rw [hR] at k
            exact k
          · have y3_h13 : σ 7 l 3 = (σ 7 l 3) := (rfl)
            have y6_h13 : σ 7 l 6 = (σ 7 l 6) := (rfl)
            refine r_if_eq (tgt := 61) hC dX5_come_56 rfl (fun h15 => ?_) (fun h15 => by omega)
            refine r_aload_n hC dX5_come_61 rfl ?_
            refine r_aload hC dX5_come_62 rfl ?_
            refine r_iload_n hC dX5_come_64 rfl ?_
            refine z_inv2 hM dX5_come_65 vl_RX5_143 rfl rfl rfl (Nat.le_of_ble_eq_true rfl) (Nat.le_of_ble_eq_true rfl) ?_
            refine x_giveC hCI (by omega) (by omega) ?_
            refine r_aload_n hC dX5_come_68 rfl ?_
            refine r_aload hC dX5_come_69 rfl ?_
            refine r_iload_n hC dX5_come_71 rfl ?_
            refine r_iload_n hC dX5_come_72 rfl ?_
            refine z_inv3 hM dX5_come_73 vl_RX5_147 rfl rfl rfl (Nat.le_of_ble_eq_true rfl) (Nat.le_of_ble_eq_true rfl) ?_
            refine x_placeC (CI.gv hCI) (by omega) (by omega) (by omega) ?_
            have u3_73 : (gvM σ l t) 7 l 3 = (σ 7 l 3) := ((gv_7 hCI (by omega) (by omega)).trans (rfl))
            have u6_73 : (gvM σ l t) 7 l 6 = (σ 7 l 6) := ((gv_7 hCI (by omega) (by omega)).trans (rfl))
            have nf_73 : ¬ fuV (gvM σ l t) l := by unfold fuV; omega
            refine r_aload_n hC dX5_come_76 rfl ?_
            refine z_inv0 hM dX5_come_77 vl_RX5_151 rfl rfl rfl (Nat.le_of_ble_eq_true rfl) (Nat.le_of_ble_eq_true rfl) ?_
            refine x_noteMost ?_
            refine r_aload hC dX5_come_80 rfl ?_
            refine z_getI (jz := 6) hM dX5_come_82 fl_RX5_154 rfl rfl rfl (fun v16 h_v16 o_v16 t_v16 => ?_)
            have w_v16 := ((t_v16 (Or.inl (by first | exact trivial | exact tb7_ (by decide) | simp [Tb]))).trans ((ntM_ne (by omega)).trans (rfl))).symm
            clear t_v16
            subst w_v16
            have q_v16 : 0 ≤ ((plM (gvM σ l t) l t v) 7 l 6) ∧ ((plM (gvM σ l t) l t v) 7 l 6) ≤ 121 := o_v16.1 rfl
            refine y_iret hK rfl dX5_come_85 ?_
            have hM : coM σ l t v = (ntM (plM (gvM σ l t) l t v)) := by
              unfold coM
              first | exact if_pos (by omega) | exact if_neg (by omega)
            rw [hM] at k
            have hR : coR σ l t v = ((plM (gvM σ l t) l t v) 7 l 6) := by
              unfold coR
              first | (rw [if_pos (by omega)]; done) | (rw [if_neg (by omega), if_pos (by omega)]; done) | (rw [if_neg (by omega), if_neg (by omega), if_pos (by omega)]; done) | (rw [if_neg (by omega), if_neg (by omega), if_neg (by omega), hM]; exact ntM_ne (by omega))
            rw [hR] at k
            exact k
      · refine r_if_ne (tgt := 28) hC dX5_come_23 rfl (fun h17 => by omega) (fun h17 => ?_)
        refine r_iconst hC dX5_come_26 rfl ?_
        refine y_iret hK rfl dX5_come_27 ?_
        have hM : coM σ l t v = σ := by
          unfold coM
          first | exact if_pos (by omega) | exact if_neg (by omega)
        rw [hM] at k
        have hR : coR σ l t v = (-1) := by
          unfold coR
          first | (rw [if_pos (by omega)]; done) | (rw [if_neg (by omega), if_pos (by omega)]; done) | (rw [if_neg (by omega), if_neg (by omega), if_pos (by omega)]; done) | (rw [if_neg (by omega), if_neg (by omega), if_neg (by omega), hM]; exact ntM_ne (by omega))
        rw [hR] at k
        exact k
    · refine r_if_eq (tgt := 26) hC dX5_come_16 rfl (fun h18 => ?_) (fun h18 => by omega)
      refine r_iconst hC dX5_come_26 rfl ?_
      refine y_iret hK rfl dX5_come_27 ?_
      have hM : coM σ l t v = σ := by
        unfold coM
        first | exact if_pos (by omega) | exact if_neg (by omega)
      rw [hM] at k
      have hR : coR σ l t v = (-1) := by
        unfold coR
        first | (rw [if_pos (by omega)]; done) | (rw [if_neg (by omega), if_pos (by omega)]; done) | (rw [if_neg (by omega), if_neg (by omega), if_pos (by omega)]; done) | (rw [if_neg (by omega), if_neg (by omega), if_neg (by omega), hM]; exact ntM_ne (by omega))
      rw [hR] at k
      exact k
  · -- h1
    refine r_astoreN hC dX5_come_5 rfl ?_
    refine r_aloadN hC dX5_come_7 rfl ?_
    refine r_ifnullN (tgt := 26) hC dX5_come_9 rfl ?_
    refine r_iconst hC dX5_come_26 rfl ?_
    refine y_iret hK rfl dX5_come_27 ?_
    have hM : coM σ l t v = σ := by
      unfold coM
      first | exact if_pos (by omega) | exact if_neg (by omega)
    rw [hM] at k
    have hR : coR σ l t v = (-1) := by
      unfold coR
      first | (rw [if_pos (by omega)]; done) | (rw [if_neg (by omega), if_pos (by omega)]; done) | (rw [if_neg (by omega), if_neg (by omega), if_pos (by omega)]; done) | (rw [if_neg (by omega), if_neg (by omega), if_neg (by omega), hM]; exact ntM_ne (by omega))
    rw [hR] at k
    exact k
theorem x_burst {ec : Bool} {d : Nat} {P : Option Vl → Mm → Prop} {σ : Mm} {l m v z : Int}  (hCI : CI σ)  (k : P (some (vI (buR σ l m v z))) (buM σ l m v z)) : WT (true, false, ec) (d + 8) 62 [vR 2 0, vI l, vI m, vI v, vI z] σ P := by
  refine WT_in fun K hK => ?_
  have hK : StpY (true, false, ec) cX5_burst RX5 (some .int) (WT (true, false, ec) (d + 7)) P K := hK
  have hM := hK.1
  have hC := hK.1.1
  show K 0 [some (vR 2 0), some (vI l), some (vI m), some (vI v), some (vI z), none, none, none] [] σ
  refine r_rngz hC (fun g0 => ?_)
  have r_l : -2147483648 ≤ l ∧ l ≤ 2147483647 := inR_le (g0 (vI l) (by simp))
  have r_m : -2147483648 ≤ m ∧ m ≤ 2147483647 := inR_le (g0 (vI m) (by simp))
  have r_v : -2147483648 ≤ v ∧ v ≤ 2147483647 := inR_le (g0 (vI v) (by simp))
  have r_z : -2147483648 ≤ z ∧ z ≤ 2147483647 := inR_le (g0 (vI z) (by simp))
  refine r_aload_n hC dX5_burst_0 rfl ?_
  refine r_iload_n hC dX5_burst_1 rfl ?_
  refine z_inv1 hM dX5_burst_2 vl_RX5_123 rfl rfl rfl (Nat.le_of_ble_eq_true rfl) (Nat.le_of_ble_eq_true rfl) ?_
  refine x_openLane (fun h1 => ?_) (fun h1 => ?_)
  · -- h1
    refine r_astore hC dX5_burst_5 rfl ?_
    refine r_aload hC dX5_burst_7 rfl ?_
    refine r_ifnullR hC dX5_burst_9 ?_
    refine r_iload_n hC dX5_burst_12 rfl ?_
    refine r_iconst hC dX5_burst_13 rfl ?_
    refine r_bipush hC dX5_burst_14 rfl ?_
    refine z_ins3 hM dX5_burst_16 tl_RX5_59 rfl (Nat.le_of_ble_eq_true rfl) (Nat.le_of_ble_eq_true rfl) ?_
    refine s_within (fun h3 => ?_) (fun h3 => ?_)
    · refine r_if_eq (tgt := 36) hC dX5_burst_19 rfl (fun h4 => by omega) (fun h4 => ?_)
      refine r_iload hC dX5_burst_22 rfl ?_
      refine r_sipush hC dX5_burst_24 rfl ?_
      refine r_sipush hC dX5_burst_27 rfl ?_
      refine z_ins3 hM dX5_burst_30 tl_RX5_59 rfl (Nat.le_of_ble_eq_true rfl) (Nat.le_of_ble_eq_true rfl) ?_
      refine s_within (fun h6 => ?_) (fun h6 => ?_)
      · refine r_if_ne (tgt := 38) hC dX5_burst_33 rfl (fun h7 => ?_) (fun h7 => by omega)
        refine r_iload_n hC dX5_burst_38 rfl ?_
        refine z_ins1 hM dX5_burst_39 tl_RX5_130 rfl (Nat.le_of_ble_eq_true rfl) (Nat.le_of_ble_eq_true rfl) ?_
        refine s_isValue (fun h9 => ?_) (fun h9 => ?_)
        · refine r_if_eq (tgt := 72) hC dX5_burst_42 rfl (fun h10 => by omega) (fun h10 => ?_)
          refine r_iload_n hC dX5_burst_45 rfl ?_
          refine r_iload_n hC dX5_burst_46 rfl ?_
          refine r_iconst hC dX5_burst_47 rfl ?_
          refine r_isubE hC ((m - 1)) dX5_burst_48 (by omega) (by unfold inR; omega) ?_
          refine r_iload hC dX5_burst_49 rfl ?_
          have m11 := mul_bd (a := (m - 1)) (b := z) (A := 39) (B := 1000) (by omega) (by omega) (by omega) (by omega)
          refine r_imulE hC (((m - 1) * z)) dX5_burst_51 (by omega) (by unfold inR; omega) ?_
          refine r_iaddE hC ((v + ((m - 1) * z))) dX5_burst_52 (by omega) (by unfold inR; omega) ?_
          refine z_ins1 hM dX5_burst_53 tl_RX5_130 rfl (Nat.le_of_ble_eq_true rfl) (Nat.le_of_ble_eq_true rfl) ?_
          refine s_isValue (fun h13 => ?_) (fun h13 => ?_)
          · refine r_if_eq (tgt := 72) hC dX5_burst_56 rfl (fun h14 => by omega) (fun h14 => ?_)
            refine r_aload hC dX5_burst_59 rfl ?_
            refine z_getI (jz := 10) hM dX5_burst_61 fl_RX5_157 rfl rfl rfl (fun v15 h_v15 o_v15 t_v15 => ?_)
            have w_v15 := ((t_v15 (Or.inl (by first | exact trivial | exact tb7_ (by decide) | simp [Tb]))).trans (rfl)).symm
            clear t_v15
            subst w_v15
            refine r_iload_n hC dX5_burst_64 rfl ?_
            refine r_iadd hC dX5_burst_65 ?_
            have f16 := inR_le (inR_wr ((σ 7 l 10) + m))
            refine z_ins1 hM dX5_burst_66 tl_RX5_127 rfl (Nat.le_of_ble_eq_true rfl) (Nat.le_of_ble_eq_true rfl) ?_
            refine s_isTime (fun h18 => ?_) (fun h18 => ?_)
            · refine r_if_ne (tgt := 74) hC dX5_burst_69 rfl (fun h19 => ?_) (fun h19 => by omega)
              refine r_aload hC dX5_burst_74 rfl ?_
              refine z_getI (jz := 3) hM dX5_burst_76 fl_RX5_160 rfl rfl rfl (fun v20 h_v20 o_v20 t_v20 => ?_)
              have w_v20 := ((t_v20 (Or.inl (by first | exact trivial | exact tb7_ (by decide) | simp [Tb]))).trans (rfl)).symm
              clear t_v20
              subst w_v20
              refine r_iconst hC dX5_burst_79 rfl ?_
              refine r_icmp_eq (tgt := 97) hC dX5_burst_80 rfl (fun h21 => ?_) (fun h21 => ?_)
              · refine r_iconst hC dX5_burst_97 rfl ?_
                refine r_istore hC dX5_burst_98 rfl ?_
                have L100 : ∀ (n100 : Nat) (w22 : Int) (ρ23 : Mm), 0 ≤ w22 ∧ w22 ≤ 40 → ((w22) ≤ m) → 40 - w22 < (n100 : Int) → (bst l z (m - (w22)).toNat (v + (w22) * z) ρ23 = bst l z m.toNat v σ) → (CI ρ23) → (ρ23 7 l 3 = σ 7 l 3) → (σ 7 l 3 ≠ 1 → ρ23 7 l 6 + m - (w22) ≤ 120) → K 100 [some (vR 2 0), some (vI l), some (vI m), some (vI v), some (vI z), some (vR 7 l), some (vI w22), none] [] ρ23 := by
                  intro n100
                  induction n100 with
                  | zero => intro w22 ρ23 f_w22 i0_100 hm  m0_100 m1_100 m2_100 m3_100; omega
                  | succ n100 ih100 =>
                    intro w22 ρ23 f_w22 i0_100 hm100  m0_100 m1_100 m2_100 m3_100
                    refine r_iload hC dX5_burst_100 rfl ?_
                    refine r_iload_n hC dX5_burst_102 rfl ?_
                    refine r_icmp_ge (tgt := 144) hC dX5_burst_103 rfl (fun h24 => ?_) (fun h24 => ?_)
                    · refine r_aload_n hC dX5_burst_144 rfl ?_
                      refine z_inv0 hM dX5_burst_145 vl_RX5_151 rfl rfl rfl (Nat.le_of_ble_eq_true rfl) (Nat.le_of_ble_eq_true rfl) ?_
                      refine x_noteMost ?_
                      refine r_aload hC dX5_burst_148 rfl ?_
                      refine z_getI (jz := 6) hM dX5_burst_150 fl_RX5_154 rfl rfl rfl (fun v25 h_v25 o_v25 t_v25 => ?_)
                      have w_v25 := ((t_v25 (Or.inl (by first | exact trivial | exact tb7_ (by decide) | simp [Tb]))).trans ((ntM_ne (by omega)).trans (rfl))).symm
                      clear t_v25
                      subst w_v25
                      have q_v25 : 0 ≤ (ρ23 7 l 6) ∧ (ρ23 7 l 6) ≤ 121 := o_v25.1 rfl
                      refine y_iret hK rfl dX5_burst_153 ?_
                      have hM : buM σ l m v z = (ntM ρ23) := by
                        have e0 : bst l z m.toNat v σ = ρ23 := by
                          rw [← m0_100, show (m - w22).toNat = 0 from by omega]
                          rfl
                        unfold buM
                        rw [if_pos (by omega), e0]
                      rw [hM] at k
                      have hR : buR σ l m v z = (ρ23 7 l 6) := by
                        unfold buR
                        rw [if_pos (by omega), hM]
                        exact ntM_ne (by omega)
                      rw [hR] at k
                      exact k
                    · refine r_aload hC dX5_burst_106 rfl ?_
                      refine z_getI (jz := 10) hM dX5_burst_108 fl_RX5_157 rfl rfl rfl (fun v26 h_v26 o_v26 t_v26 => ?_)
                      have w_v26 := ((t_v26 (Or.inl (by first | exact trivial | exact tb7_ (by decide) | simp [Tb]))).trans (rfl)).symm
                      clear t_v26
                      subst w_v26
                      refine r_iconst hC dX5_burst_111 rfl ?_
                      refine r_iadd hC dX5_burst_112 ?_
                      have f27 := inR_le (inR_wr ((ρ23 7 l 10) + 1))
                      refine r_istore hC dX5_burst_113 rfl ?_
                      refine r_aload_n hC dX5_burst_115 rfl ?_
                      refine r_aload hC dX5_burst_116 rfl ?_
                      refine r_iload hC dX5_burst_118 rfl ?_
                      refine z_inv2 hM dX5_burst_120 vl_RX5_143 rfl rfl rfl (Nat.le_of_ble_eq_true rfl) (Nat.le_of_ble_eq_true rfl) ?_
                      refine x_giveC m1_100 (by omega) (by omega) ?_
                      refine r_aload_n hC dX5_burst_123 rfl ?_
                      refine r_aload hC dX5_burst_124 rfl ?_
                      refine r_iload hC dX5_burst_126 rfl ?_
                      refine r_iload_n hC dX5_burst_128 rfl ?_
                      refine r_iload hC dX5_burst_129 rfl ?_
                      refine r_iload hC dX5_burst_131 rfl ?_
                      have m28 := mul_bd (a := w22) (b := z) (A := 39) (B := 1000) (by omega) (by omega) (by omega) (by omega)
                      refine r_imulE hC ((w22 * z)) dX5_burst_133 (by omega) (by unfold inR; omega) ?_
                      refine r_iaddE hC ((v + (w22 * z))) dX5_burst_134 (by omega) (by unfold inR; omega) ?_
                      refine z_inv3 hM dX5_burst_135 vl_RX5_147 rfl rfl rfl (Nat.le_of_ble_eq_true rfl) (Nat.le_of_ble_eq_true rfl) ?_
                      have lb := lin_btw (v := v) (s := z) (i := w22) (m := (m - 1)) (by omega) (by omega) (by omega) (by omega)
                      refine x_placeC (CI.gv m1_100) (by omega) (by omega) (by omega) ?_
                      have u3_135 : (gvM ρ23 l (wr ((ρ23 7 l 10) + 1))) 7 l 3 = (ρ23 7 l 3) := ((gv_7 m1_100 (by omega) (by omega)).trans (rfl))
                      have u6_135 : (gvM ρ23 l (wr ((ρ23 7 l 10) + 1))) 7 l 6 = (ρ23 7 l 6) := ((gv_7 m1_100 (by omega) (by omega)).trans (rfl))
                      have nf_135 : ¬ fuV (gvM ρ23 l (wr ((ρ23 7 l 10) + 1))) l := by unfold fuV; omega
                      refine r_iincE hC ((w22 + 1)) dX5_burst_138 rfl rfl (by omega) (by unfold inR; omega) ?_
                      refine r_goto (tgt := 100) hC dX5_burst_141 rfl ?_
                      refine r_forget hC (ls2 := [some (vR 2 0), some (vI l), some (vI m), some (vI v), some (vI z), some (vR 7 l), some (vI (w22 + 1)), none]) (lsub_some (lsub_some (lsub_some (lsub_some (lsub_some (lsub_some (lsub_some (lsub_none lsub_nil)))))))) ?_
                      exact ih100 ((w22 + 1)) (plM (gvM ρ23 l (wr ((ρ23 7 l 10) + 1))) l (wr ((ρ23 7 l 10) + 1)) (v + (w22 * z))) (by omega) (by omega) (by omega)  (by have q := m0_100; rw [show (m - w22).toNat = (m - (w22 + 1)).toNat + 1 from by omega, bst_s] at q; rw [show v + (w22 + 1) * z = v + w22 * z + z from by rw [Int.add_mul]; omega]; exact q) ((CI.pl (CI.gv m1_100) (by omega) (by omega) nf_135)) (((plM_nx (by unfold PS; omega)).trans ((gv_7 m1_100 (by omega) (by omega)).trans (rfl))).trans m2_100) (by have hp := pl_6 (i := l) (t := (wr ((ρ23 7 l 10) + 1))) (v := (v + (w22 * z))) (CI.gv m1_100 (i := l) (t := (wr ((ρ23 7 l 10) + 1)))) (by omega) (by omega); rw [gv_7 m1_100 (by omega) (by omega)] at hp; omega)
                exact L100 42 (0) σ (by omega) (by omega) (by omega)  (by rw [show (m - 0).toNat = m.toNat from by omega, show v + 0 * z = v from by omega]) (hCI) (rfl) (by omega)
              · refine r_aload hC dX5_burst_83 rfl ?_
                refine z_getI (jz := 6) hM dX5_burst_85 fl_RX5_154 rfl rfl rfl (fun v29 h_v29 o_v29 t_v29 => ?_)
                have w_v29 := ((t_v29 (Or.inl (by first | exact trivial | exact tb7_ (by decide) | simp [Tb]))).trans (rfl)).symm
                clear t_v29
                subst w_v29
                have q_v29 : 0 ≤ (σ 7 l 6) ∧ (σ 7 l 6) ≤ 121 := o_v29.1 rfl
                refine r_iload_n hC dX5_burst_88 rfl ?_
                refine r_iaddE hC (((σ 7 l 6) + m)) dX5_burst_89 (by omega) (by unfold inR; omega) ?_
                refine r_bipush hC dX5_burst_90 rfl ?_
                refine r_icmp_le (tgt := 97) hC dX5_burst_92 rfl (fun h30 => ?_) (fun h30 => ?_)
                · refine r_iconst hC dX5_burst_97 rfl ?_
                  refine r_istore hC dX5_burst_98 rfl ?_
                  have L100 : ∀ (n100 : Nat) (w31 : Int) (ρ32 : Mm), 0 ≤ w31 ∧ w31 ≤ 40 → ((w31) ≤ m) → 40 - w31 < (n100 : Int) → (bst l z (m - (w31)).toNat (v + (w31) * z) ρ32 = bst l z m.toNat v σ) → (CI ρ32) → (ρ32 7 l 3 = σ 7 l 3) → (σ 7 l 3 ≠ 1 → ρ32 7 l 6 + m - (w31) ≤ 120) → K 100 [some (vR 2 0), some (vI l), some (vI m), some (vI v), some (vI z), some (vR 7 l), some (vI w31), none] [] ρ32 := by
                    intro n100
                    induction n100 with
                    | zero => intro w31 ρ32 f_w31 i0_100 hm  m0_100 m1_100 m2_100 m3_100; omega
                    | succ n100 ih100 =>
                      intro w31 ρ32 f_w31 i0_100 hm100  m0_100 m1_100 m2_100 m3_100
                      refine r_iload hC dX5_burst_100 rfl ?_
                      refine r_iload_n hC dX5_burst_102 rfl ?_
                      refine r_icmp_ge (tgt := 144) hC dX5_burst_103 rfl (fun h33 => ?_) (fun h33 => ?_)
                      · refine r_aload_n hC dX5_burst_144 rfl ?_
                        refine z_inv0 hM dX5_burst_145 vl_RX5_151 rfl rfl rfl (Nat.le_of_ble_eq_true rfl) (Nat.le_of_ble_eq_true rfl) ?_
                        refine x_noteMost ?_
                        refine r_aload hC dX5_burst_148 rfl ?_
                        refine z_getI (jz := 6) hM dX5_burst_150 fl_RX5_154 rfl rfl rfl (fun v34 h_v34 o_v34 t_v34 => ?_)
                        have w_v34 := ((t_v34 (Or.inl (by first | exact trivial | exact tb7_ (by decide) | simp [Tb]))).trans ((ntM_ne (by omega)).trans (rfl))).symm
                        clear t_v34
                        subst w_v34
                        have q_v34 : 0 ≤ (ρ32 7 l 6) ∧ (ρ32 7 l 6) ≤ 121 := o_v34.1 rfl
                        refine y_iret hK rfl dX5_burst_153 ?_
                        have hM : buM σ l m v z = (ntM ρ32) := by
                          have e0 : bst l z m.toNat v σ = ρ32 := by
                            rw [← m0_100, show (m - w31).toNat = 0 from by omega]
                            rfl
                          unfold buM
                          rw [if_pos (by omega), e0]
                        rw [hM] at k
                        have hR : buR σ l m v z = (ρ32 7 l 6) := by
                          unfold buR
                          rw [if_pos (by omega), hM]
                          exact ntM_ne (by omega)
                        rw [hR] at k
                        exact k
                      · refine r_aload hC dX5_burst_106 rfl ?_
                        refine z_getI (jz := 10) hM dX5_burst_108 fl_RX5_157 rfl rfl rfl (fun v35 h_v35 o_v35 t_v35 => ?_)
                        have w_v35 := ((t_v35 (Or.inl (by first | exact trivial | exact tb7_ (by decide) | simp [Tb]))).trans (rfl)).symm
                        clear t_v35
                        subst w_v35
                        refine r_iconst hC dX5_burst_111 rfl ?_
                        refine r_iadd hC dX5_burst_112 ?_
                        have f36 := inR_le (inR_wr ((ρ32 7 l 10) + 1))
                        refine r_istore hC dX5_burst_113 rfl ?_
                        refine r_aload_n hC dX5_burst_115 rfl ?_
                        refine r_aload hC dX5_burst_116 rfl ?_
                        refine r_iload hC dX5_burst_118 rfl ?_
                        refine z_inv2 hM dX5_burst_120 vl_RX5_143 rfl rfl rfl (Nat.le_of_ble_eq_true rfl) (Nat.le_of_ble_eq_true rfl) ?_
                        refine x_giveC m1_100 (by omega) (by omega) ?_
                        refine r_aload_n hC dX5_burst_123 rfl ?_
                        refine r_aload hC dX5_burst_124 rfl ?_
                        refine r_iload hC dX5_burst_126 rfl ?_
                        refine r_iload_n hC dX5_burst_128 rfl ?_
                        refine r_iload hC dX5_burst_129 rfl ?_
                        refine r_iload hC dX5_burst_131 rfl ?_
                        have m37 := mul_bd (a := w31) (b := z) (A := 39) (B := 1000) (by omega) (by omega) (by omega) (by omega)
                        refine r_imulE hC ((w31 * z)) dX5_burst_133 (by omega) (by unfold inR; omega) ?_
                        refine r_iaddE hC ((v + (w31 * z))) dX5_burst_134 (by omega) (by unfold inR; omega) ?_
                        refine z_inv3 hM dX5_burst_135 vl_RX5_147 rfl rfl rfl (Nat.le_of_ble_eq_true rfl) (Nat.le_of_ble_eq_true rfl) ?_
                        have lb := lin_btw (v := v) (s := z) (i := w31) (m := (m - 1)) (by omega) (by omega) (by omega) (by omega)
                        refine x_placeC (CI.gv m1_100) (by omega) (by omega) (by omega) ?_
                        have u3_135 : (gvM ρ32 l (wr ((ρ32 7 l 10) + 1))) 7 l 3 = (ρ32 7 l 3) := ((gv_7 m1_100 (by omega) (by omega)).trans (rfl))
                        have u6_135 : (gvM ρ32 l (wr ((ρ32 7 l 10) + 1))) 7 l 6 = (ρ32 7 l 6) := ((gv_7 m1_100 (by omega) (by omega)).trans (rfl))
                        have nf_135 : ¬ fuV (gvM ρ32 l (wr ((ρ32 7 l 10) + 1))) l := by unfold fuV; omega
                        refine r_iincE hC ((w31 + 1)) dX5_burst_138 rfl rfl (by omega) (by unfold inR; omega) ?_
                        refine r_goto (tgt := 100) hC dX5_burst_141 rfl ?_
                        refine r_forget hC (ls2 := [some (vR 2 0), some (vI l), some (vI m), some (vI v), some (vI z), some (vR 7 l), some (vI (w31 + 1)), none]) (lsub_some (lsub_some (lsub_some (lsub_some (lsub_some (lsub_some (lsub_some (lsub_none lsub_nil)))))))) ?_
                        exact ih100 ((w31 + 1)) (plM (gvM ρ32 l (wr ((ρ32 7 l 10) + 1))) l (wr ((ρ32 7 l 10) + 1)) (v + (w31 * z))) (by omega) (by omega) (by omega)  (by have q := m0_100; rw [show (m - w31).toNat = (m - (w31 + 1)).toNat + 1 from by omega, bst_s] at q; rw [show v + (w31 + 1) * z = v + w31 * z + z from by rw [Int.add_mul]; omega]; exact q) ((CI.pl (CI.gv m1_100) (by omega) (by omega) nf_135)) (((plM_nx (by unfold PS; omega)).trans ((gv_7 m1_100 (by omega) (by omega)).trans (rfl))).trans m2_100) (by have hp := pl_6 (i := l) (t := (wr ((ρ32 7 l 10) + 1))) (v := (v + (w31 * z))) (CI.gv m1_100 (i := l) (t := (wr ((ρ32 7 l 10) + 1)))) (by omega) (by omega); rw [gv_7 m1_100 (by omega) (by omega)] at hp; omega)
                  exact L100 42 (0) σ (by omega) (by omega) (by omega)  (by rw [show (m - 0).toNat = m.toNat from by omega, show v + 0 * z = v from by omega]) (hCI) (rfl) (by omega)
                · refine r_iconst hC dX5_burst_95 rfl ?_
                  refine y_iret hK rfl dX5_burst_96 ?_
                  have hM : buM σ l m v z = σ := by
                    exact if_neg (by omega)
                  rw [hM] at k
                  have hR : buR σ l m v z = (-1) := by
                    exact if_neg (by omega)
                  rw [hR] at k
                  exact k
            · refine r_if_ne (tgt := 74) hC dX5_burst_69 rfl (fun h38 => by omega) (fun h38 => ?_)
              refine r_iconst hC dX5_burst_72 rfl ?_
              refine y_iret hK rfl dX5_burst_73 ?_
              have hM : buM σ l m v z = σ := by
                exact if_neg (by omega)
              rw [hM] at k
              have hR : buR σ l m v z = (-1) := by
                exact if_neg (by omega)
              rw [hR] at k
              exact k
          · refine r_if_eq (tgt := 72) hC dX5_burst_56 rfl (fun h39 => ?_) (fun h39 => by omega)
            refine r_iconst hC dX5_burst_72 rfl ?_
            refine y_iret hK rfl dX5_burst_73 ?_
            have hM : buM σ l m v z = σ := by
              exact if_neg (by omega)
            rw [hM] at k
            have hR : buR σ l m v z = (-1) := by
              exact if_neg (by omega)
            rw [hR] at k
            exact k
        · refine r_if_eq (tgt := 72) hC dX5_burst_42 rfl (fun h40 => ?_) (fun h40 => by omega)
          refine r_iconst hC dX5_burst_72 rfl ?_
          refine y_iret hK rfl dX5_burst_73 ?_
          have hM : buM σ l m v z = σ := by
            exact if_neg (by omega)
          rw [hM] at k
          have hR : buR σ l m v z = (-1) := by
            exact if_neg (by omega)
          rw [hR] at k
          exact k
      · refine r_if_ne (tgt := 38) hC dX5_burst_33 rfl (fun h41 => by omega) (fun h41 => ?_)
        refine r_iconst hC dX5_burst_36 rfl ?_
        refine y_iret hK rfl dX5_burst_37 ?_
        have hM : buM σ l m v z = σ := by
          exact if_neg (by omega)
        rw [hM] at k
        have hR : buR σ l m v z = (-1) := by
          exact if_neg (by omega)
        rw [hR] at k
        exact k
    · refine r_if_eq (tgt := 36) hC dX5_burst_19 rfl (fun h42 => ?_) (fun h42 => by omega)
      refine r_iconst hC dX5_burst_36 rfl ?_
      refine y_iret hK rfl dX5_burst_37 ?_
      have hM : buM σ l m v z = σ := by
        exact if_neg (by omega)
      rw [hM] at k
      have hR : buR σ l m v z = (-1) := by
        exact if_neg (by omega)
      rw [hR] at k
      exact k
  · -- h1
    refine r_astoreN hC dX5_burst_5 rfl ?_
    refine r_aloadN hC dX5_burst_7 rfl ?_
    refine r_ifnullN (tgt := 36) hC dX5_burst_9 rfl ?_
    refine r_iconst hC dX5_burst_36 rfl ?_
    refine y_iret hK rfl dX5_burst_37 ?_
    have hM : buM σ l m v z = σ := by
      exact if_neg (by omega)
    rw [hM] at k
    have hR : buR σ l m v z = (-1) := by
      exact if_neg (by omega)
    rw [hR] at k
    exact k
theorem x_dropC {ec : Bool} {d : Nat} {P : Option Vl → Mm → Prop} {σ : Mm} {i : Int} (hC : CI σ) (b_i : 0 ≤ i ∧ i ≤ 3) (h1 : 1 ≤ σ 7 i 6) (k : P none (dpM σ i)) : WT (true, false, ec) (d + 5) 68 [vR 2 0, vR 7 i] σ P := x_dropOldest ⟨b_i.1, by omega⟩ (hC.1 i b_i.1 b_i.2) (hC.2.1 i b_i.1 (by omega)) h1 (by have := hC.h7 (l := i) b_i.1 (by omega); omega) k
theorem dpN_s {i : Int} {n : Nat} {V : Mm} : dpN i (n + 1) V = dpN i n (dpM V i) := rfl
theorem x_leave {ec : Bool} {d : Nat} {P : Option Vl → Mm → Prop} {σ : Mm} {l m : Int}  (hCI : CI σ)  (k : P (some (vI (leR σ l m))) (leM σ l m)) : WT (true, false, ec) (d + 6) 63 [vR 2 0, vI l, vI m] σ P := by
  refine WT_in fun K hK => ?_
  have hK : StpY (true, false, ec) cX5_leave RX5 (some .int) (WT (true, false, ec) (d + 5)) P K := hK
  have hM := hK.1
  have hC := hK.1.1
  show K 0 [some (vR 2 0), some (vI l), some (vI m), none, none] [] σ
  refine r_rngz hC (fun g0 => ?_)
  have r_l : -2147483648 ≤ l ∧ l ≤ 2147483647 := inR_le (g0 (vI l) (by simp))
  have r_m : -2147483648 ≤ m ∧ m ≤ 2147483647 := inR_le (g0 (vI m) (by simp))
  have h6L : 0 ≤ l → l ≤ 3 → 0 ≤ σ 7 l 6 ∧ σ 7 l 6 ≤ 120 := fun a b => hCI.h7 a (by omega)
  refine r_aload_n hC dX5_leave_0 rfl ?_
  refine r_iload_n hC dX5_leave_1 rfl ?_
  refine z_inv1 hM dX5_leave_2 vl_RX5_123 rfl rfl rfl (Nat.le_of_ble_eq_true rfl) (Nat.le_of_ble_eq_true rfl) ?_
  refine x_openLane (fun h1 => ?_) (fun h1 => ?_)
  · -- h1
    refine r_astore_n hC dX5_leave_5 rfl ?_
    refine r_aload_n hC dX5_leave_6 rfl ?_
    refine r_ifnullR hC dX5_leave_7 ?_
    refine r_iload_n hC dX5_leave_10 rfl ?_
    refine r_iconst hC dX5_leave_11 rfl ?_
    refine r_aload_n hC dX5_leave_12 rfl ?_
    refine z_getI (jz := 6) hM dX5_leave_13 fl_RX5_154 rfl rfl rfl (fun v2 h_v2 o_v2 t_v2 => ?_)
    have w_v2 := ((t_v2 (Or.inl (by first | exact trivial | exact tb7_ (by decide) | simp [Tb]))).trans (rfl)).symm
    clear t_v2
    subst w_v2
    have q_v2 : 0 ≤ (σ 7 l 6) ∧ (σ 7 l 6) ≤ 121 := o_v2.1 rfl
    refine z_ins3 hM dX5_leave_16 tl_RX5_59 rfl (Nat.le_of_ble_eq_true rfl) (Nat.le_of_ble_eq_true rfl) ?_
    refine s_within (fun h4 => ?_) (fun h4 => ?_)
    · refine r_if_ne (tgt := 24) hC dX5_leave_19 rfl (fun h5 => ?_) (fun h5 => by omega)
      refine r_iconst hC dX5_leave_24 rfl ?_
      refine r_istore hC dX5_leave_25 rfl ?_
      have L27 : ∀ (n27 : Nat) (w6 : Int) (ρ7 : Mm), 0 ≤ w6 ∧ w6 ≤ 121 → ((w6) ≤ m) → 121 - w6 < (n27 : Int) → (dpN l (m - (w6)).toNat ρ7 = dpN l (m).toNat σ) → (CI ρ7) → (ρ7 7 l 6 = σ 7 l 6 - (w6)) → K 27 [some (vR 2 0), some (vI l), some (vI m), some (vR 7 l), some (vI w6)] [] ρ7 := by
        intro n27
        induction n27 with
        | zero => intro w6 ρ7 f_w6 i0_27 hm  m0_27 m1_27 m2_27; omega
        | succ n27 ih27 =>
          intro w6 ρ7 f_w6 i0_27 hm27  m0_27 m1_27 m2_27
          refine r_iload hC dX5_leave_27 rfl ?_
          refine r_iload_n hC dX5_leave_29 rfl ?_
          refine r_icmp_ge (tgt := 44) hC dX5_leave_30 rfl (fun h8 => ?_) (fun h8 => ?_)
          · refine r_aload_n hC dX5_leave_44 rfl ?_
            refine z_getI (jz := 6) hM dX5_leave_45 fl_RX5_154 rfl rfl rfl (fun v9 h_v9 o_v9 t_v9 => ?_)
            have w_v9 := ((t_v9 (Or.inl (by first | exact trivial | exact tb7_ (by decide) | simp [Tb]))).trans (rfl)).symm
            clear t_v9
            subst w_v9
            have q_v9 : 0 ≤ (ρ7 7 l 6) ∧ (ρ7 7 l 6) ≤ 121 := o_v9.1 rfl
            refine y_iret hK rfl dX5_leave_48 ?_
            have hM : leM σ l m = ρ7 := by
              have e0 : dpN l (m).toNat σ = ρ7 := by
                rw [← m0_27, show (m - w6).toNat = 0 from by omega]
                rfl
              unfold leM
              rw [if_pos (by omega), e0]
            rw [hM] at k
            have hR : leR σ l m = (ρ7 7 l 6) := by
              unfold leR
              rw [if_pos (by omega), hM]
            rw [hR] at k
            exact k
          · refine r_aload_n hC dX5_leave_33 rfl ?_
            refine r_aload_n hC dX5_leave_34 rfl ?_
            refine z_inv1 hM dX5_leave_35 vl_RX5_163 rfl rfl rfl (Nat.le_of_ble_eq_true rfl) (Nat.le_of_ble_eq_true rfl) ?_
            have u1_35 : 1 ≤ ρ7 7 l 6 := by omega
            refine x_dropC m1_27 (by omega) u1_35 ?_
            refine r_iincE hC ((w6 + 1)) dX5_leave_38 rfl rfl (by omega) (by unfold inR; omega) ?_
            refine r_goto (tgt := 27) hC dX5_leave_41 rfl ?_
            exact ih27 ((w6 + 1)) (dpM ρ7 l) (by omega) (by omega) (by omega)  (by have q := m0_27; rw [show (m - w6).toNat = (m - (w6 + 1)).toNat + 1 from by omega, dpN_s] at q; exact q) ((CI.dp m1_27 (by omega) (by omega) u1_35)) (by have q : (dpM ρ7 l) 7 l 6 = ((ρ7 7 l 6) - 1) := (dpM_6); omega)
      exact L27 123 (0) σ (by omega) (by omega) (by omega)  (by rw [show (m - 0).toNat = (m).toNat from by omega]) (hCI) (by omega)
    · refine r_if_ne (tgt := 24) hC dX5_leave_19 rfl (fun h10 => by omega) (fun h10 => ?_)
      refine r_iconst hC dX5_leave_22 rfl ?_
      refine y_iret hK rfl dX5_leave_23 ?_
      have hM : leM σ l m = σ := by
        exact if_neg (by omega)
      rw [hM] at k
      have hR : leR σ l m = (-1) := by
        exact if_neg (by omega)
      rw [hR] at k
      exact k
  · -- h1
    refine r_astoreN_n hC dX5_leave_5 rfl ?_
    refine r_aloadN_n hC dX5_leave_6 rfl ?_
    refine r_ifnullN (tgt := 22) hC dX5_leave_7 rfl ?_
    refine r_iconst hC dX5_leave_22 rfl ?_
    refine y_iret hK rfl dX5_leave_23 ?_
    have hM : leM σ l m = σ := by
      exact if_neg (by omega)
    rw [hM] at k
    have hR : leR σ l m = (-1) := by
      exact if_neg (by omega)
    rw [hR] at k
    exact k
theorem x_until {ec : Bool} {d : Nat} {P : Option Vl → Mm → Prop} {σ : Mm} {l t : Int}  (hCI : CI σ)  (k : P (some (vI (unR σ l t))) (unM σ l t)) : WT (true, false, ec) (d + 6) 64 [vR 2 0, vI l, vI t] σ P := by
  refine WT_in fun K hK => ?_
  have hK : StpY (true, false, ec) cX5_until RX5 (some .int) (WT (true, false, ec) (d + 5)) P K := hK
  have hM := hK.1
  have hC := hK.1.1
  show K 0 [some (vR 2 0), some (vI l), some (vI t), none, none, none] [] σ
  refine r_rngz hC (fun g0 => ?_)
  have r_l : -2147483648 ≤ l ∧ l ≤ 2147483647 := inR_le (g0 (vI l) (by simp))
  have r_t : -2147483648 ≤ t ∧ t ≤ 2147483647 := inR_le (g0 (vI t) (by simp))
  have h6L : 0 ≤ l → l ≤ 3 → 0 ≤ σ 7 l 6 ∧ σ 7 l 6 ≤ 120 := fun a b => hCI.h7 a (by omega)
  refine r_aload_n hC dX5_until_0 rfl ?_
  refine r_iload_n hC dX5_until_1 rfl ?_
  refine z_inv1 hM dX5_until_2 vl_RX5_123 rfl rfl rfl (Nat.le_of_ble_eq_true rfl) (Nat.le_of_ble_eq_true rfl) ?_
  refine x_openLane (fun h1 => ?_) (fun h1 => ?_)
  · -- h1
    refine r_astore_n hC dX5_until_5 rfl ?_
    refine r_aload_n hC dX5_until_6 rfl ?_
    refine r_ifnonnullR (tgt := 12) hC dX5_until_7 rfl ?_
    refine r_aload_n hC dX5_until_12 rfl ?_
    refine r_iload_n hC dX5_until_13 rfl ?_
    refine r_i2l hC dX5_until_14 ?_
    refine z_inv1 hM dX5_until_15 vl_RX5_167 rfl rfl rfl (Nat.le_of_ble_eq_true rfl) (Nat.le_of_ble_eq_true rfl) ?_
    refine x_heldUntil (by omega) (fun h2 => ?_)
    refine r_istore hC dX5_until_18 rfl ?_
    refine r_iconst hC dX5_until_20 rfl ?_
    refine r_istore hC dX5_until_21 rfl ?_
    have L23 : ∀ (n23 : Nat) (w3 : Int) (ρ4 : Mm), 0 ≤ w3 ∧ w3 ≤ 121 → ((w3) ≤ hU σ l t) → 121 - w3 < (n23 : Int) → (dpN l (hU σ l t - (w3)).toNat ρ4 = dpN l (hU σ l t).toNat σ) → (CI ρ4) → (ρ4 7 l 6 = σ 7 l 6 - (w3)) → K 23 [some (vR 2 0), some (vI l), some (vI t), some (vR 7 l), some (vI (hU σ l t)), some (vI w3)] [] ρ4 := by
      intro n23
      induction n23 with
      | zero => intro w3 ρ4 f_w3 i0_23 hm  m0_23 m1_23 m2_23; omega
      | succ n23 ih23 =>
        intro w3 ρ4 f_w3 i0_23 hm23  m0_23 m1_23 m2_23
        refine r_iload hC dX5_until_23 rfl ?_
        refine r_iload hC dX5_until_25 rfl ?_
        refine r_icmp_ge (tgt := 41) hC dX5_until_27 rfl (fun h5 => ?_) (fun h5 => ?_)
        · refine r_iload hC dX5_until_41 rfl ?_
          refine y_iret hK rfl dX5_until_43 ?_
          have hM : unM σ l t = ρ4 := by
            have e0 : dpN l (hU σ l t).toNat σ = ρ4 := by
              rw [← m0_23, show (hU σ l t - w3).toNat = 0 from by omega]
              rfl
            unfold unM
            rw [if_pos (by omega), e0]
          rw [hM] at k
          have hR : unR σ l t = (hU σ l t) := by
            unfold unR
            rw [if_pos (by omega)]
          rw [hR] at k
          exact k
        · refine r_aload_n hC dX5_until_30 rfl ?_
          refine r_aload_n hC dX5_until_31 rfl ?_
          refine z_inv1 hM dX5_until_32 vl_RX5_163 rfl rfl rfl (Nat.le_of_ble_eq_true rfl) (Nat.le_of_ble_eq_true rfl) ?_
          have u1_32 : 1 ≤ ρ4 7 l 6 := by omega
          refine x_dropC m1_23 (by omega) u1_32 ?_
          refine r_iincE hC ((w3 + 1)) dX5_until_35 rfl rfl (by omega) (by unfold inR; omega) ?_
          refine r_goto (tgt := 23) hC dX5_until_38 rfl ?_
          exact ih23 ((w3 + 1)) (dpM ρ4 l) (by omega) (by omega) (by omega)  (by have q := m0_23; rw [show (hU σ l t - w3).toNat = (hU σ l t - (w3 + 1)).toNat + 1 from by omega, dpN_s] at q; exact q) ((CI.dp m1_23 (by omega) (by omega) u1_32)) (by have q : (dpM ρ4 l) 7 l 6 = ((ρ4 7 l 6) - 1) := (dpM_6); omega)
    exact L23 123 (0) σ (by omega) (by omega) (by omega)  (by rw [show (hU σ l t - 0).toNat = (hU σ l t).toNat from by omega]) (hCI) (by omega)
  · -- h1
    refine r_astoreN_n hC dX5_until_5 rfl ?_
    refine r_aloadN_n hC dX5_until_6 rfl ?_
    refine r_ifnonnullN hC dX5_until_7 ?_
    refine r_iconst hC dX5_until_10 rfl ?_
    refine y_iret hK rfl dX5_until_11 ?_
    have hM : unM σ l t = σ := by
      exact if_neg (by omega)
    rw [hM] at k
    have hR : unR σ l t = (-1) := by
      exact if_neg (by omega)
    rw [hR] at k
    exact k
theorem x_take {ec : Bool} {d : Nat} {P : Option Vl → Mm → Prop} {σ : Mm} {l x : Int}  (hCI : CI σ)  (k : P (some (vI (taR σ l x))) (taM σ l x)) : WT (true, false, ec) (d + 6) 65 [vR 2 0, vI l, vI x] σ P := by
  refine WT_in fun K hK => ?_
  have hK : StpY (true, false, ec) cX5_take RX5 (some .int) (WT (true, false, ec) (d + 5)) P K := hK
  have hM := hK.1
  have hC := hK.1.1
  show K 0 [some (vR 2 0), some (vI l), some (vI x), none, none] [] σ
  refine r_rngz hC (fun g0 => ?_)
  have r_l : -2147483648 ≤ l ∧ l ≤ 2147483647 := inR_le (g0 (vI l) (by simp))
  have r_x : -2147483648 ≤ x ∧ x ≤ 2147483647 := inR_le (g0 (vI x) (by simp))
  have h6L : 0 ≤ l → l ≤ 3 → 0 ≤ σ 7 l 6 ∧ σ 7 l 6 ≤ 120 := fun a b => hCI.h7 a (by omega)
  refine r_aload_n hC dX5_take_0 rfl ?_
  refine r_iload_n hC dX5_take_1 rfl ?_
  refine r_iload_n hC dX5_take_2 rfl ?_
  refine z_inv2 hM dX5_take_3 vl_RX5_171 rfl rfl rfl (Nat.le_of_ble_eq_true rfl) (Nat.le_of_ble_eq_true rfl) ?_
  refine x_laneHolding (fun h1 => ?_) (fun h1 => ?_)
  · refine r_astore_n hC dX5_take_6 rfl ?_
    refine r_aload_n hC dX5_take_7 rfl ?_
    refine r_ifnonnullR (tgt := 14) hC dX5_take_8 rfl ?_
    refine r_aload_n hC dX5_take_14 rfl ?_
    refine z_getR hM dX5_take_15 fl_RX5_176 rfl rfl (vld_of (n := 7) rfl (by omega) (by omega)) ?_
    refine r_iload_n hC dX5_take_18 rfl ?_
    refine z_iald hM dX5_take_19 rfl (by omega) (by omega) (fun v2 h_v2 o_v2 t_v2 => ?_)
    have w_v2 := ((t_v2 (Or.inl (by first | exact trivial | exact tb7_ (by decide) | simp [Tb]))).trans (rfl)).symm
    clear t_v2
    subst w_v2
    have q_v2 : -1000 ≤ (σ 9 l x) ∧ (σ 9 l x) ≤ 1000 := o_v2
    refine r_istore hC dX5_take_20 rfl ?_
    refine r_aload_n hC dX5_take_22 rfl ?_
    refine r_iload_n hC dX5_take_23 rfl ?_
    refine z_inv1 hM dX5_take_24 vl_RX5_179 rfl rfl rfl (Nat.le_of_ble_eq_true rfl) (Nat.le_of_ble_eq_true rfl) ?_
    have z6_24 : σ 7 l 6 = (σ 7 l 6) := (rfl)
    refine x_remove (by omega) (by omega) (by omega) ?_
    refine r_aload_n hC dX5_take_27 rfl ?_
    refine r_aload_n hC dX5_take_28 rfl ?_
    refine z_inv1 hM dX5_take_29 vl_RX5_182 rfl rfl rfl (Nat.le_of_ble_eq_true rfl) (Nat.le_of_ble_eq_true rfl) ?_
    refine x_layAnewS (by omega) (((remM_ne (by omega)).trans (rfl)).trans (hCI.1 l (by omega) (by omega))) ?_
    rw [show (remM σ l x) 7 l 6 = ((σ 7 l 6) - 1) from (remM_6.trans (congrArg (· - 1) (rfl)))]
    refine r_iload hC dX5_take_32 rfl ?_
    refine y_iret hK rfl dX5_take_34 ?_
    have hM : taM σ l x = (rgM (lyM (remM σ l x) l ((σ 7 l 6) - 1)) l) := by
      exact if_pos (by omega)
    rw [hM] at k
    have hR : taR σ l x = (σ 9 l x) := by
      exact if_pos (by omega)
    rw [hR] at k
    exact k
  · refine r_astoreN_n hC dX5_take_6 rfl ?_
    refine r_aloadN_n hC dX5_take_7 rfl ?_
    refine r_ifnonnullN hC dX5_take_8 ?_
    refine r_ldc hC dX5_take_11 co_RX5_175 rfl ?_
    refine y_iret hK rfl dX5_take_13 ?_
    have hM : taM σ l x = σ := by
      exact if_neg (by omega)
    rw [hM] at k
    have hR : taR σ l x = (-2147483648) := by
      exact if_neg (by omega)
    rw [hR] at k
    exact k
theorem x_alter {ec : Bool} {d : Nat} {P : Option Vl → Mm → Prop} {σ : Mm} {l x v : Int}  (hCI : CI σ)  (k : P (some (vI (alR σ l x v))) (alM σ l x v)) : WT (true, false, ec) (d + 6) 66 [vR 2 0, vI l, vI x, vI v] σ P := by
  refine WT_in fun K hK => ?_
  have hK : StpY (true, false, ec) cX5_alter RX5 (some .boolean) (WT (true, false, ec) (d + 5)) P K := hK
  have hM := hK.1
  have hC := hK.1.1
  show K 0 [some (vR 2 0), some (vI l), some (vI x), some (vI v), none] [] σ
  refine r_rngz hC (fun g0 => ?_)
  have r_l : -2147483648 ≤ l ∧ l ≤ 2147483647 := inR_le (g0 (vI l) (by simp))
  have r_x : -2147483648 ≤ x ∧ x ≤ 2147483647 := inR_le (g0 (vI x) (by simp))
  have r_v : -2147483648 ≤ v ∧ v ≤ 2147483647 := inR_le (g0 (vI v) (by simp))
  have h6L : 0 ≤ l → l ≤ 3 → 0 ≤ σ 7 l 6 ∧ σ 7 l 6 ≤ 120 := fun a b => hCI.h7 a (by omega)
  refine r_aload_n hC dX5_alter_0 rfl ?_
  refine r_iload_n hC dX5_alter_1 rfl ?_
  refine r_iload_n hC dX5_alter_2 rfl ?_
  refine z_inv2 hM dX5_alter_3 vl_RX5_171 rfl rfl rfl (Nat.le_of_ble_eq_true rfl) (Nat.le_of_ble_eq_true rfl) ?_
  refine x_laneHolding (fun h1 => ?_) (fun h1 => ?_)
  · refine r_astore hC dX5_alter_6 rfl ?_
    refine r_aload hC dX5_alter_8 rfl ?_
    refine r_ifnullR hC dX5_alter_10 ?_
    refine r_iload_n hC dX5_alter_13 rfl ?_
    refine z_ins1 hM dX5_alter_14 tl_RX5_130 rfl (Nat.le_of_ble_eq_true rfl) (Nat.le_of_ble_eq_true rfl) ?_
    refine s_isValue (fun h3 => ?_) (fun h3 => ?_)
    · refine r_if_ne (tgt := 22) hC dX5_alter_17 rfl (fun h4 => ?_) (fun h4 => by omega)
      refine r_aload hC dX5_alter_22 rfl ?_
      refine z_getR hM dX5_alter_24 fl_RX5_176 rfl rfl (vld_of (n := 7) rfl (by omega) (by omega)) ?_
      refine r_iload_n hC dX5_alter_27 rfl ?_
      refine r_iload_n hC dX5_alter_28 rfl ?_
      refine z_iastT hM dX5_alter_29 rfl (by omega) (by omega) ⟨Or.inr (by first | exact id | exact dl7_ (by decide) | simp [DL]), Or.inr (by first | exact id | exact df14_ (by decide) | simp [DF])⟩ (by first | trivial | (simp only [Okv]; omega) | (simp [Okv]; try omega)) ?_
      refine r_aload_n hC dX5_alter_30 rfl ?_
      refine r_aload hC dX5_alter_31 rfl ?_
      refine z_inv1 hM dX5_alter_33 vl_RX5_182 rfl rfl rfl (Nat.le_of_ble_eq_true rfl) (Nat.le_of_ble_eq_true rfl) ?_
      refine x_layAnewS (by omega) (((mu_ne (by omega)).trans (rfl)).trans (hCI.1 l (by omega) (by omega))) ?_
      rw [show (mu σ 9 l x v) 7 l 6 = (σ 7 l 6) from ((mu_ne (by omega)).trans (rfl))]
      refine r_iconst hC dX5_alter_36 rfl ?_
      refine y_zret hK rfl dX5_alter_37 (by omega) ?_
      have hM : alM σ l x v = (rgM (lyM (mu σ 9 l x v) l (σ 7 l 6)) l) := by
        exact if_pos (by omega)
      rw [hM] at k
      have hR : alR σ l x v = 1 := by
        exact if_pos (by omega)
      rw [hR] at k
      exact k
    · refine r_if_ne (tgt := 22) hC dX5_alter_17 rfl (fun h5 => by omega) (fun h5 => ?_)
      refine r_iconst hC dX5_alter_20 rfl ?_
      refine y_zret hK rfl dX5_alter_21 (by omega) ?_
      have hM : alM σ l x v = σ := by
        exact if_neg (by omega)
      rw [hM] at k
      have hR : alR σ l x v = 0 := by
        exact if_neg (by omega)
      rw [hR] at k
      exact k
  · refine r_astoreN hC dX5_alter_6 rfl ?_
    refine r_aloadN hC dX5_alter_8 rfl ?_
    refine r_ifnullN (tgt := 20) hC dX5_alter_10 rfl ?_
    refine r_iconst hC dX5_alter_20 rfl ?_
    refine y_zret hK rfl dX5_alter_21 (by omega) ?_
    have hM : alM σ l x v = σ := by
      exact if_neg (by omega)
    rw [hM] at k
    have hR : alR σ l x v = 0 := by
      exact if_neg (by omega)
    rw [hR] at k
    exact k
