-- B: what the movers come to, in the class's places (V: a memory, i: a LANE)
def su (V : Mm) (k : Nat) (i : Int) (f : Int → Int) : Mm := fun c x y => if c = k ∧ x = i then f y else V c x y
theorem su_ne {V : Mm} {k c : Nat} {i x y : Int} {f : Int → Int} (h : ¬ (c = k ∧ x = i)) : su V k i f c x y = V c x y := if_neg h
theorem su_at {V : Mm} {k : Nat} {i y : Int} {f : Int → Int} : su V k i f k i y = f y := if_pos ⟨rfl, rfl⟩
theorem cpy_ne {τ : Mm} {c0 c1 c : Nat} {i0 i1 sp dp n x y : Int} (h : c ≠ c1) : cpy τ c0 i0 sp c1 i1 dp n c x y = τ c x y := if_neg (fun q => h q.1)
def r7 (a0 a1 a2 a3 a4 a5 a6 : Int) (g : Int → Int) : Int → Int := fun y => if y = 0 then a0 else if y = 1 then a1 else if y = 2 then a2 else if y = 3 then a3 else if y = 4 then a4 else if y = 5 then a5 else if y = 6 then a6 else g y
theorem mu7 {σ : Mm} {k : Nat} {i a0 a1 a2 a3 a4 a5 a6 : Int} {ρ : Mm} (g : Gx (fun c x y => c = k ∧ x = i ∧ 0 ≤ y ∧ y ≤ 6) σ ρ) (h0 : ρ k i 0 = a0) (h1 : ρ k i 1 = a1) (h2 : ρ k i 2 = a2) (h3 : ρ k i 3 = a3) (h4 : ρ k i 4 = a4) (h5 : ρ k i 5 = a5) (h6 : ρ k i 6 = a6) : ρ = su σ k i (r7 a0 a1 a2 a3 a4 a5 a6 (σ k i)) := by
  funext c x y
  by_cases hc : c = k ∧ x = i
  · obtain ⟨rfl, rfl⟩ := hc
    rw [su_at]
    unfold r7
    by_cases e0 : y = 0
    · subst e0; rw [if_pos rfl]; exact h0
    rw [if_neg e0]
    by_cases e1 : y = 1
    · subst e1; rw [if_pos rfl]; exact h1
    rw [if_neg e1]
    by_cases e2 : y = 2
    · subst e2; rw [if_pos rfl]; exact h2
    rw [if_neg e2]
    by_cases e3 : y = 3
    · subst e3; rw [if_pos rfl]; exact h3
    rw [if_neg e3]
    by_cases e4 : y = 4
    · subst e4; rw [if_pos rfl]; exact h4
    rw [if_neg e4]
    by_cases e5 : y = 5
    · subst e5; rw [if_pos rfl]; exact h5
    rw [if_neg e5]
    by_cases e6 : y = 6
    · subst e6; rw [if_pos rfl]; exact h6
    rw [if_neg e6]
    exact g _ _ _ (by omega)
  · rw [su_ne hc]
    exact g _ _ _ (fun q => hc ⟨q.1, q.2.1⟩)
/-- how many are of a time or one ahead of it, seen from the newest -/
def hc (f : Int → Int) (t : Int) : Nat → Int
  | 0 => 0
  | n + 1 => if f n ≤ t then (n : Int) + 1 else hc f t n
def hU (V : Mm) (i t : Int) : Int := hc (V 8 i) t (V 7 i 6).toNat
theorem hc_b (f : Int → Int) (t : Int) : ∀ n : Nat, 0 ≤ hc f t n ∧ hc f t n ≤ n
  | 0 => ⟨Int.le_refl _, Int.le_refl _⟩
  | n + 1 => by
    have ih := hc_b f t n
    show 0 ≤ (if f n ≤ t then (n : Int) + 1 else hc f t n) ∧ (if f n ≤ t then (n : Int) + 1 else hc f t n) ≤ _
    split <;> omega
theorem hU_b {V : Mm} {i t : Int} (h : 0 ≤ V 7 i 6) : 0 ≤ hU V i t ∧ hU V i t ≤ V 7 i 6 := by
  have := hc_b (V 8 i) t (V 7 i 6).toNat
  unfold hU
  omega
-- FRONT, MIDDLE, BACK: the end of a MOVE that took c
def emL (f : Int → Int) : Int := if f 1 = 0 ∧ f 2 > f 0 then f 2 + f 0 else f 3
def emM (f : Int → Int) : Int := if f 1 = 0 ∧ f 2 > f 0 then f 2 else f 1
def emT (c : Int) (f : Int → Int) : Int := (if f 1 = 0 ∧ f 2 > f 0 then c - 1 else c) + min 3 (emL f)
def emR (c : Int) (f : Int → Int) : Int → Int := r7 (if emL f - min 3 (emL f) = 0 then f 0 + emM f else f 0) (if emL f - min 3 (emL f) = 0 then 0 else emM f) (if f 1 = 0 ∧ f 2 > f 0 then 0 else f 2) (emL f - min 3 (emL f)) (emT c f) (wr (f 5 + emT c f)) (max (f 6) (emT c f)) f
def ft (f : Int → Int) (j a : Int) : Int → Int := fun y => if y = j then a else f y
def adR (f : Int → Int) : Int → Int := emR (if f 2 > 0 then 1 else 0) (ft f 2 (f 2 + 1))
def dfR (f : Int → Int) : Int → Int := emR 0 (ft (ft f 0 (f 0 - 1)) 3 (if f 3 > 0 then f 3 - 1 else f 3))
def lyR (h : Int) (f : Int → Int) : Int → Int := r7 h 0 0 0 (max 0 (h - 1)) (wr (f 5 + max 0 (h - 1))) (f 6) f
def zrR (f : Int → Int) : Int → Int := r7 0 0 0 0 0 0 0 f
def adM (V : Mm) (i : Int) : Mm := su V 11 i (adR (V 11 i))
def dfM (V : Mm) (i : Int) : Mm := su V 11 i (dfR (V 11 i))
def lyM (V : Mm) (i h : Int) : Mm := su V 11 i (lyR h (V 11 i))
-- what lies in a row: one more, one less
def insR (f : Int → Int) (a h x : Int) : Int → Int := fun y => if y = a then x else if a < y ∧ y ≤ h then f (y - 1) else f y
def remR (f : Int → Int) (e h : Int) : Int → Int := fun y => if e ≤ y ∧ y < h - 1 then f (y + 1) else f y
def insM (V : Mm) (i a t v : Int) : Mm := fun c x y => if x = i then (if c = 8 then insR (V 8 i) a (V 7 i 6) t y else if c = 9 then insR (V 9 i) a (V 7 i 6) v y else if c = 10 then insR (V 10 i) a (V 7 i 6) (V 7 i 12) y else if c = 7 then (if y = 6 then V 7 i 6 + 1 else if y = 12 then wr (V 7 i 12 + 1) else if y = 10 then max (V 7 i 10) t else if y = 14 then V 7 i 6 - a else V 7 i y) else V c x y) else V c x y
def remM (V : Mm) (i e : Int) : Mm := fun c x y => if x = i then (if c = 8 ∨ c = 9 ∨ c = 10 then remR (V c i) e (V 7 i 6) y else if c = 7 ∧ y = 6 then V 7 i 6 - 1 else V c x y) else V c x y
-- WATCHES
def rch (a b : Int) : Prop := a ≠ NO ∧ b ≤ a
def nmV (V : Mm) (i w : Int) : Int := cm (V 16 0) (V 15 0) (V 7 i 2) (V 9 i) (V 7 i 6).toNat w
def isR (V : Mm) (i w : Int) : Int := if nmV V i (V 12 w 1) ≠ NO ∧ V 12 w 2 ≤ nmV V i (V 12 w 1) then 1 else 0
def rgM (V : Mm) (i : Int) : Mm := fun c w y => if c = 12 ∧ (0 ≤ w ∧ w < 8) ∧ V 12 w 0 = i then (if y = 3 then isR V i w else if y = 4 then (if isR V i w = 1 ∧ V 12 w 3 = 0 then wr (V 12 w 4 + 1) else V 12 w 4) else if y = 5 then (if isR V i w = 1 ∧ V 12 w 3 = 0 then V 7 i 10 else V 12 w 5) else V 12 w y) else V c w y
def dpM (V : Mm) (i : Int) : Mm := rgM (dfM (mu (remM V i 0) 7 i 13 (wr (V 7 i 13 + 1))) i) i
abbrev goV (V : Mm) (i : Int) : Prop := (V 7 i 3 = 1 ∧ V 7 i 4 < V 7 i 6) ∨ (V 7 i 3 = 2 ∧ 0 < V 7 i 6 ∧ V 8 i 0 ≤ wr (V 7 i 10 - V 7 i 4))
def drps (i : Int) : Nat → Mm → Mm
  | 0, V => V
  | n + 1, V => if goV V i then drps i n (dpM V i) else V
def dpN (i : Int) : Nat → Mm → Mm
  | 0, V => V
  | n + 1, V => dpN i n (dpM V i)
def enM (V : Mm) (i t v : Int) : Mm := rgM (if hU V i t = V 7 i 6 then adM (insM V i (hU V i t) t v) i else lyM (insM V i (hU V i t) t v) i (V 7 i 6 + 1)) i
def plM (V : Mm) (i t v : Int) : Mm := drps i (V 7 i 6 + 1).toNat (enM V i t v)
-- LINKS
def ses (T : Int → Int) (g : Int) : Nat → Int
  | 0 => 0
  | n + 1 => if wr (T (n + 1) - T n) > g then (n : Int) + 1 else ses T g n
def gvN (V : Mm) (i : Int) : Int := cm (V 16 0) (V 15 0) (V 7 i 2) (fun j => V 9 i (ses (V 8 i) (V 13 i 1) (V 7 i 6 - 1).toNat + j)) (V 7 i 6 - ses (V 8 i) (V 13 i 1) (V 7 i 6 - 1).toNat).toNat (V 13 i 2)
abbrev fuV (V : Mm) (i : Int) : Prop := V 7 i 3 ≠ 1 ∧ 120 ≤ V 7 i 6
abbrev ltV (V : Mm) (i t : Int) : Prop := t < wr (V 7 i 10 - V 7 i 5)
abbrev gvC (V : Mm) (i t : Int) : Prop := (0 ≤ V 13 i 0 ∧ V 13 i 0 ≤ 3 ∧ V 7 (V 13 i 0) 1 = 1) ∧ 1 ≤ V 7 i 6 ∧ wr (t - V 8 i (V 7 i 6 - 1)) > V 13 i 1 ∧ ¬ fuV V (V 13 i 0) ∧ gvN V i ≠ NO ∧ ¬ ltV V (V 13 i 0) (V 8 i (V 7 i 6 - 1))
def gvM (V : Mm) (i t : Int) : Mm := if gvC V i t then plM (mu V 13 i 3 (wr (V 13 i 3 + 1))) (V 13 i 0) (V 8 i (V 7 i 6 - 1)) (max (-1000) (min 1000 (gvN V i))) else V
def ntM (V : Mm) : Mm := fun c x y => if c = 7 ∧ (0 ≤ x ∧ x ≤ 3) ∧ y = 15 then max (V 7 x 15) (V 7 x 6) else V c x y
theorem lcmp_f (a b : Int) : (-1 ≤ lcmp a b ∧ lcmp a b ≤ 1) ∧ (lcmp a b ≤ 0 ↔ a ≤ b) ∧ (lcmp a b < 0 ↔ a < b) := by
  unfold lcmp
  split
  · omega
  · split <;> omega
theorem mu_row {V : Mm} {k : Nat} {i j a : Int} : mu V k i j a k i = ft (V k i) j a := by
  funext y
  unfold mu ft
  by_cases h : y = j
  · rw [if_pos ⟨rfl, rfl, h⟩, if_pos h]
  · rw [if_neg (fun q => h q.2.2), if_neg h]
theorem su_mu {V : Mm} {k : Nat} {i j a : Int} {f : Int → Int} : su (mu V k i j a) k i f = su V k i f := by
  funext c x y
  unfold su
  by_cases h : c = k ∧ x = i
  · rw [if_pos h, if_pos h]
  · rw [if_neg h, if_neg h, mu_ne (fun q => h ⟨q.1, q.2.1⟩)]
theorem adM_1 {V : Mm} {i : Int} (h : V 11 i 2 > 0) : adM V i = su (mu V 11 i 2 (V 11 i 2 + 1)) 11 i (emR 1 ((mu V 11 i 2 (V 11 i 2 + 1)) 11 i)) := by
  rw [su_mu, mu_row]
  unfold adM adR
  rw [if_pos h]
theorem adM_0 {V : Mm} {i : Int} (h : ¬ V 11 i 2 > 0) : adM V i = su (mu V 11 i 2 (V 11 i 2 + 1)) 11 i (emR 0 ((mu V 11 i 2 (V 11 i 2 + 1)) 11 i)) := by
  rw [su_mu, mu_row]
  unfold adM adR
  rw [if_neg h]
theorem ft_self (f : Int → Int) (j : Int) : ft f j (f j) = f := by
  funext y
  unfold ft
  split
  · rename_i h; rw [h]
  · rfl
theorem dfM_1 {V : Mm} {i : Int} (h : V 11 i 3 > 0) : dfM V i = su (mu (mu V 11 i 0 (V 11 i 0 - 1)) 11 i 3 (V 11 i 3 - 1)) 11 i (emR 0 ((mu (mu V 11 i 0 (V 11 i 0 - 1)) 11 i 3 (V 11 i 3 - 1)) 11 i)) := by
  rw [su_mu, mu_row, su_mu, mu_row]
  unfold dfM dfR
  rw [if_pos h]
theorem dfM_0 {V : Mm} {i : Int} (h : ¬ V 11 i 3 > 0) : dfM V i = su (mu V 11 i 0 (V 11 i 0 - 1)) 11 i (emR 0 ((mu V 11 i 0 (V 11 i 0 - 1)) 11 i)) := by
  rw [su_mu, mu_row]
  unfold dfM dfR
  rw [if_neg h, show V 11 i 3 = ft (V 11 i) 0 (V 11 i 0 - 1) 3 from rfl, ft_self]
theorem cpy_in {τ : Mm} {c0 c1 : Nat} {i0 i1 sp dp n j : Int} (h : dp ≤ j ∧ j < dp + n) : cpy τ c0 i0 sp c1 i1 dp n c1 i1 j = τ c0 i0 (sp + (j - dp)) := if_pos ⟨rfl, rfl, h⟩
theorem cpy_ni {τ : Mm} {c0 c1 c : Nat} {i0 i1 sp dp n x y : Int} (h : ¬ (c = c1 ∧ x = i1)) : cpy τ c0 i0 sp c1 i1 dp n c x y = τ c x y := if_neg (fun q => h ⟨q.1, q.2.1⟩)
theorem insM_eq {V : Mm} {i a t v n w z : Int} (hn : n = V 7 i 6 - a) (ha : 0 ≤ a ∧ a ≤ V 7 i 6) (hw : w = wr (V 7 i 12 + 1)) (hz : z = max (V 7 i 10) t) : insM V i a t v = mu (mu (mu (mu (mu (mu (cpy (cpy (cpy (mu V 7 i 14 n) 8 i a 8 i (a + 1) n) 9 i a 9 i (a + 1) n) 10 i a 10 i (a + 1) n) 8 i a t) 9 i a v) 10 i a (V 7 i 12)) 7 i 6 (V 7 i 6 + 1)) 7 i 12 w) 7 i 10 z := by
  subst hn hw hz
  funext c x y
  by_cases hx : x = i
  · subst hx
    unfold insM
    rw [if_pos rfl]
    by_cases h8 : c = 8
    · subst h8
      rw [if_pos rfl, mu_ne (by omega), mu_ne (by omega), mu_ne (by omega), mu_ne (by omega), mu_ne (by omega)]
      unfold insR
      by_cases e1 : y = a
      · subst e1; rw [if_pos rfl, mu_self]
      · rw [if_neg e1, mu_ne (by omega), cpy_ne (by omega), cpy_ne (by omega)]
        by_cases e2 : a < y ∧ y ≤ V 7 x 6
        · rw [if_pos e2, cpy_in (by omega), show a + (y - (a + 1)) = y - 1 from by omega, mu_ne (by omega)]
        · rw [if_neg e2, cpy_off (by omega), mu_ne (by omega)]
    rw [if_neg h8]
    by_cases h9 : c = 9
    · subst h9
      rw [if_pos rfl, mu_ne (by omega), mu_ne (by omega), mu_ne (by omega), mu_ne (by omega)]
      unfold insR
      by_cases e1 : y = a
      · subst e1; rw [if_pos rfl, mu_self]
      · rw [if_neg e1, mu_ne (by omega), mu_ne (by omega), cpy_ne (by omega)]
        by_cases e2 : a < y ∧ y ≤ V 7 x 6
        · rw [if_pos e2, cpy_in (by omega), show a + (y - (a + 1)) = y - 1 from by omega, cpy_ne (by omega), mu_ne (by omega)]
        · rw [if_neg e2, cpy_off (by omega), cpy_ne (by omega), mu_ne (by omega)]
    rw [if_neg h9]
    by_cases h10 : c = 10
    · subst h10
      rw [if_pos rfl, mu_ne (by omega), mu_ne (by omega), mu_ne (by omega)]
      unfold insR
      by_cases e1 : y = a
      · subst e1; rw [if_pos rfl, mu_self]
      · rw [if_neg e1, mu_ne (by omega), mu_ne (by omega), mu_ne (by omega)]
        by_cases e2 : a < y ∧ y ≤ V 7 x 6
        · rw [if_pos e2, cpy_in (by omega), show a + (y - (a + 1)) = y - 1 from by omega, cpy_ne (by omega), cpy_ne (by omega), mu_ne (by omega)]
        · rw [if_neg e2, cpy_off (by omega), cpy_ne (by omega), cpy_ne (by omega), mu_ne (by omega)]
    rw [if_neg h10]
    by_cases h7 : c = 7
    · subst h7
      rw [if_pos rfl]
      by_cases e6 : y = 6
      · subst e6
        rw [if_pos rfl, mu_ne (by omega), mu_ne (by omega), mu_self]
      rw [if_neg e6]
      by_cases e12 : y = 12
      · subst e12
        rw [if_pos rfl, mu_ne (by omega), mu_self]
      rw [if_neg e12]
      by_cases e10 : y = 10
      · subst e10
        rw [if_pos rfl, mu_self]
      rw [if_neg e10]
      rw [mu_ne (by omega), mu_ne (by omega), mu_ne (by omega), mu_ne (by omega), mu_ne (by omega), mu_ne (by omega), cpy_ne (by omega), cpy_ne (by omega), cpy_ne (by omega)]
      by_cases e14 : y = 14
      · subst e14
        rw [if_pos rfl, mu_self]
      · rw [if_neg e14, mu_ne (by omega)]
    · rw [if_neg h7, mu_ne (by omega), mu_ne (by omega), mu_ne (by omega), mu_ne (by omega), mu_ne (by omega), mu_ne (by omega), cpy_ne (by omega), cpy_ne (by omega), cpy_ne (by omega), mu_ne (by omega)]
  · unfold insM
    rw [if_neg hx, mu_ne (by omega), mu_ne (by omega), mu_ne (by omega), mu_ne (by omega), mu_ne (by omega), mu_ne (by omega)]
    rw [cpy_ni (by omega), cpy_ni (by omega), cpy_ni (by omega), mu_ne (by omega)]
theorem remM_eq {V : Mm} {i a : Int} (ha : 0 ≤ a ∧ a < V 7 i 6) : remM V i a = mu (cpy (cpy (cpy V 8 i (a + 1) 8 i a (V 7 i 6 - a - 1)) 9 i (a + 1) 9 i a (V 7 i 6 - a - 1)) 10 i (a + 1) 10 i a (V 7 i 6 - a - 1)) 7 i 6 (V 7 i 6 - 1) := by
  funext c x y
  unfold remM
  by_cases hx : x = i
  · subst hx
    rw [if_pos rfl]
    by_cases h : c = 8 ∨ c = 9 ∨ c = 10
    · rw [if_pos h, mu_ne (by omega)]
      unfold remR
      by_cases e : a ≤ y ∧ y < V 7 x 6 - 1
      · rw [if_pos e]
        rcases h with rfl | rfl | rfl
        · rw [cpy_ne (by omega), cpy_ne (by omega), cpy_in (by omega), show a + 1 + (y - a) = y + 1 from by omega]
        · rw [cpy_ne (by omega), cpy_in (by omega), show a + 1 + (y - a) = y + 1 from by omega, cpy_ne (by omega)]
        · rw [cpy_in (by omega), show a + 1 + (y - a) = y + 1 from by omega, cpy_ne (by omega), cpy_ne (by omega)]
      · rw [if_neg e]
        rcases h with rfl | rfl | rfl
        · rw [cpy_ne (by omega), cpy_ne (by omega), cpy_off (by omega)]
        · rw [cpy_ne (by omega), cpy_off (by omega), cpy_ne (by omega)]
        · rw [cpy_off (by omega), cpy_ne (by omega), cpy_ne (by omega)]
    · rw [if_neg h]
      by_cases e : c = 7 ∧ y = 6
      · obtain ⟨rfl, rfl⟩ := e
        rw [if_pos ⟨rfl, rfl⟩, mu_self]
      · rw [if_neg e, mu_ne (by omega), cpy_ne (by omega), cpy_ne (by omega), cpy_ne (by omega)]
  · rw [if_neg hx, mu_ne (by omega), cpy_ni (by omega), cpy_ni (by omega), cpy_ni (by omega)]
theorem insM_ne {V : Mm} {i a t v x y : Int} {c : Nat} (h : ¬ (x = i ∧ (c = 8 ∨ c = 9 ∨ c = 10 ∨ (c = 7 ∧ (y = 6 ∨ y = 12 ∨ y = 10 ∨ y = 14))))) : insM V i a t v c x y = V c x y := by
  unfold insM
  by_cases hx : x = i
  · subst hx
    rw [if_pos rfl, if_neg (by omega), if_neg (by omega), if_neg (by omega)]
    split
    · rename_i h7
      subst h7
      rw [if_neg (by omega), if_neg (by omega), if_neg (by omega), if_neg (by omega)]
    · rfl
  · rw [if_neg hx]
theorem insM_6 {V : Mm} {i a t v : Int} : insM V i a t v 7 i 6 = V 7 i 6 + 1 := by
  unfold insM
  rw [if_pos rfl, if_neg (by omega), if_neg (by omega), if_neg (by omega), if_pos rfl, if_pos rfl]
theorem remM_ne {V : Mm} {i a x y : Int} {c : Nat} (h : ¬ (x = i ∧ (c = 8 ∨ c = 9 ∨ c = 10 ∨ (c = 7 ∧ y = 6)))) : remM V i a c x y = V c x y := by
  unfold remM
  by_cases hx : x = i
  · subst hx
    rw [if_pos rfl, if_neg (by omega), if_neg (by omega)]
  · rw [if_neg hx]
theorem remM_6 {V : Mm} {i a : Int} : remM V i a 7 i 6 = V 7 i 6 - 1 := by
  unfold remM
  rw [if_pos rfl, if_neg (by omega), if_pos ⟨rfl, rfl⟩]
theorem rgM_ne {V : Mm} {i w y : Int} {c : Nat} (h : ¬ (c = 12 ∧ 3 ≤ y ∧ y ≤ 5)) : rgM V i c w y = V c w y := by
  unfold rgM
  split
  · rename_i q
    rw [if_neg (by omega), if_neg (by omega), if_neg (by omega), q.1]
  · rfl
theorem adM_ne {V : Mm} {i x y : Int} {c : Nat} (h : ¬ (c = 11 ∧ x = i)) : adM V i c x y = V c x y := su_ne h
theorem dfM_ne {V : Mm} {i x y : Int} {c : Nat} (h : ¬ (c = 11 ∧ x = i)) : dfM V i c x y = V c x y := su_ne h
theorem lyM_ne {V : Mm} {i hh x y : Int} {c : Nat} (h : ¬ (c = 11 ∧ x = i)) : lyM V i hh c x y = V c x y := su_ne h
theorem dpM_ne {V : Mm} {i x y : Int} {c : Nat} (h : ¬ (c = 12 ∧ 3 ≤ y ∧ y ≤ 5) ∧ ¬ (c = 11 ∧ x = i) ∧ ¬ (x = i ∧ (c = 8 ∨ c = 9 ∨ c = 10 ∨ (c = 7 ∧ (y = 6 ∨ y = 13))))) : dpM V i c x y = V c x y := by
  unfold dpM
  rw [rgM_ne h.1, dfM_ne h.2.1, mu_ne (by omega), remM_ne (by omega)]
theorem dpM_6 {V : Mm} {i : Int} : dpM V i 7 i 6 = V 7 i 6 - 1 := by
  unfold dpM
  rw [rgM_ne (by omega), dfM_ne (by omega), mu_ne (by omega), remM_6]
theorem r7_0 {a0 a1 a2 a3 a4 a5 a6 : Int} {g : Int → Int} : r7 a0 a1 a2 a3 a4 a5 a6 g 0 = a0 := if_pos rfl
theorem r7_1 {a0 a1 a2 a3 a4 a5 a6 : Int} {g : Int → Int} : r7 a0 a1 a2 a3 a4 a5 a6 g 1 = a1 := (if_neg (by decide)).trans (if_pos rfl)
theorem r7_2 {a0 a1 a2 a3 a4 a5 a6 : Int} {g : Int → Int} : r7 a0 a1 a2 a3 a4 a5 a6 g 2 = a2 := (if_neg (by decide)).trans ((if_neg (by decide)).trans (if_pos rfl))
theorem r7_3 {a0 a1 a2 a3 a4 a5 a6 : Int} {g : Int → Int} : r7 a0 a1 a2 a3 a4 a5 a6 g 3 = a3 := (if_neg (by decide)).trans ((if_neg (by decide)).trans ((if_neg (by decide)).trans (if_pos rfl)))
/-- what FRONT, MIDDLE, BACK and the STEPS left keep, h being held -/
def FI (f : Int → Int) (h : Int) : Prop := (0 ≤ f 0 ∧ 0 ≤ f 1 ∧ 0 ≤ f 2 ∧ 0 ≤ f 3) ∧ f 0 + f 1 + f 2 = h ∧ (f 3 = 0 ↔ f 1 = 0) ∧ (f 3 = 0 ∨ f 3 ≤ 2 * f 0 - 2) ∧ 3 * f 2 + f 3 ≤ 3 * (f 0 + f 1) ∧ (f 1 ≠ 0 ∨ f 2 ≤ f 0)
theorem FI_ad {f : Int → Int} {h : Int} (p : FI f h) : FI (adR f) (h + 1) := by
  have a0 : ft f 2 (f 2 + 1) 0 = f 0 := if_neg (by decide)
  have a1 : ft f 2 (f 2 + 1) 1 = f 1 := if_neg (by decide)
  have a2 : ft f 2 (f 2 + 1) 2 = f 2 + 1 := if_pos rfl
  have a3 : ft f 2 (f 2 + 1) 3 = f 3 := if_neg (by decide)
  unfold FI at p
  unfold FI adR emR
  rw [r7_0, r7_1, r7_2, r7_3]
  simp only [emL, emM, a0, a1, a2, a3]
  by_cases hb : f 1 = 0 ∧ f 2 + 1 > f 0
  · simp only [if_pos hb]
    by_cases hz : f 2 + 1 + f 0 - min 3 (f 2 + 1 + f 0) = 0
    · simp only [if_pos hz, if_pos hb, emM, a0, a1, a2, a3, iff_true]; omega
    · simp only [if_neg hz, a0, a1, a2, a3]; omega
  · simp only [if_neg hb]
    by_cases hz : f 3 - min 3 (f 3) = 0
    · simp only [if_pos hz, if_neg hb, emM, a0, a1, a2, a3, iff_true]; omega
    · simp only [if_neg hz, a0, a1, a2, a3]; omega
theorem FI_df {f : Int → Int} {h : Int} (p : FI f h) (h1 : 1 ≤ h) : FI (dfR f) (h - 1) := by
  have a0 : ft (ft f 0 (f 0 - 1)) 3 (if f 3 > 0 then f 3 - 1 else f 3) 0 = f 0 - 1 := (if_neg (by decide)).trans (if_pos rfl)
  have a1 : ft (ft f 0 (f 0 - 1)) 3 (if f 3 > 0 then f 3 - 1 else f 3) 1 = f 1 := (if_neg (by decide)).trans (if_neg (by decide))
  have a2 : ft (ft f 0 (f 0 - 1)) 3 (if f 3 > 0 then f 3 - 1 else f 3) 2 = f 2 := (if_neg (by decide)).trans (if_neg (by decide))
  have a3 : ft (ft f 0 (f 0 - 1)) 3 (if f 3 > 0 then f 3 - 1 else f 3) 3 = (if f 3 > 0 then f 3 - 1 else f 3) := if_pos rfl
  unfold FI at p
  unfold FI dfR emR
  rw [r7_0, r7_1, r7_2, r7_3]
  simp only [emL, emM, a0, a1, a2, a3]
  by_cases hb : f 1 = 0 ∧ f 2 > f 0 - 1
  · simp only [if_pos hb]
    by_cases hz : f 2 + (f 0 - 1) - min 3 (f 2 + (f 0 - 1)) = 0
    · simp only [if_pos hz, if_pos hb, emM, a0, a1, a2, a3, iff_true]; omega
    · simp only [if_neg hz, a0, a1, a2, a3]; omega
  · simp only [if_neg hb]
    by_cases hl : f 3 > 0
    · simp only [if_pos hl]
      by_cases hz : f 3 - 1 - min 3 (f 3 - 1) = 0
      · simp only [if_pos hz, if_neg hb, emM, a0, a1, a2, a3, iff_true]; omega
      · simp only [if_neg hz, a0, a1, a2, a3]; omega
    · simp only [if_neg hl]
      by_cases hz : f 3 - min 3 (f 3) = 0
      · simp only [if_pos hz, if_neg hb, emM, a0, a1, a2, a3, iff_true]; omega
      · simp only [if_neg hz, a0, a1, a2, a3]; omega
theorem FI_ly {f : Int → Int} {h : Int} (h0 : 0 ≤ h) : FI (lyR h f) h := by
  unfold FI lyR
  rw [r7_0, r7_1, r7_2, r7_3]
  omega
/-- a LANE on its way: number, what its FLIP keeps -/
def LI (V : Mm) (i : Int) : Prop := V 7 i 0 = i ∧ FI (V 11 i) (V 7 i 6) ∧ 0 ≤ V 7 i 6
def WI (V : Mm) : Prop := ∀ w : Int, 0 ≤ w → w < 8 → V 12 w 3 = 0 ∨ V 12 w 3 = 1
theorem isR_01 (V : Mm) (i w : Int) : isR V i w = 0 ∨ isR V i w = 1 := by
  unfold isR
  split
  · exact Or.inr rfl
  · exact Or.inl rfl
theorem WI.rg {V : Mm} (h : WI V) (i : Int) : WI (rgM V i) := fun w h0 h1 => by
  unfold rgM
  split
  · rw [if_pos rfl]
    exact isR_01 V i w
  · exact h w h0 h1
theorem WI.to {V W : Mm} (h : WI V) (e : ∀ w y : Int, W 12 w y = V 12 w y) : WI W := fun w h0 h1 => by rw [e]; exact h w h0 h1
theorem LI.rg {V : Mm} {i j : Int} (h : LI V i) : LI (rgM V j) i := by
  unfold LI
  rw [rgM_ne (by omega), rgM_ne (by omega), show (rgM V j) 11 i = V 11 i from funext fun y => rgM_ne (by omega)]
  exact h
theorem LI.dp {V : Mm} {i : Int} (h : LI V i) (h1 : 1 ≤ V 7 i 6) : LI (dpM V i) i := by
  refine LI.rg ?_
  refine ⟨?_, ?_, ?_⟩
  · rw [dfM_ne (by omega), mu_ne (by omega), remM_ne (by omega)]; exact h.1
  · rw [dfM_ne (by omega), mu_ne (by omega), remM_6, show dfM (mu (remM V i 0) 7 i 13 (wr (V 7 i 13 + 1))) i 11 i = dfR (V 11 i) from funext fun y => by
      unfold dfM
      rw [su_at, show (mu (remM V i 0) 7 i 13 (wr (V 7 i 13 + 1))) 11 i = V 11 i from funext fun z => (mu_ne (by omega)).trans (remM_ne (by omega))]]
    exact FI_df h.2.1 h1
  · rw [dfM_ne (by omega), mu_ne (by omega), remM_6]; omega
theorem WI.dp {V : Mm} (h : WI V) (i : Int) : WI (dpM V i) := WI.rg (WI.to h fun w y => (dfM_ne (by omega)).trans ((mu_ne (by omega)).trans (remM_ne (by omega)))) i

theorem drps_yes {i : Int} {n : Nat} {V : Mm} (h : goV V i) : drps i (n + 1) V = drps i n (dpM V i) := if_pos h
theorem drps_no {i : Int} {n : Nat} {V : Mm} (h : ¬ goV V i) : drps i n V = V := by
  cases n with
  | zero => rfl
  | succ n => exact if_neg h
-- rings, one WATCH after another
def rgK (V : Mm) (i n : Int) : Mm := fun c w y => if c = 12 ∧ (0 ≤ w ∧ w < n) ∧ V 12 w 0 = i then (if y = 3 then isR V i w else if y = 4 then (if isR V i w = 1 ∧ V 12 w 3 = 0 then wr (V 12 w 4 + 1) else V 12 w 4) else if y = 5 then (if isR V i w = 1 ∧ V 12 w 3 = 0 then V 7 i 10 else V 12 w 5) else V 12 w y) else V c w y
def noM (V : Mm) (w z t : Int) : Mm := fun c x y => if c = 12 ∧ x = w then (if y = 3 then z else if y = 4 then (if z = 1 ∧ V 12 w 3 = 0 then wr (V 12 w 4 + 1) else V 12 w 4) else if y = 5 then (if z = 1 ∧ V 12 w 3 = 0 then t else V 12 w 5) else V 12 w y) else V c x y
theorem noM_ne {V : Mm} {w z t x y : Int} {c : Nat} (h : ¬ (c = 12 ∧ x = w ∧ 3 ≤ y ∧ y ≤ 5)) : noM V w z t c x y = V c x y := by
  unfold noM
  split
  · rename_i q
    rw [if_neg (by omega), if_neg (by omega), if_neg (by omega), q.1, q.2]
  · rfl
theorem rgK_8 {V : Mm} {i n : Int} (h : n = 8) : rgK V i n = rgM V i := by
  subst h
  rfl
theorem rgK_0 {V : Mm} {i n : Int} (h : n = 0) (c : Nat) (x y : Int) : rgK V i n c x y = V c x y := if_neg (by omega)
theorem rgK_lo {V : Mm} {i n w y : Int} (h : y < 3) : rgK V i n 12 w y = V 12 w y := by
  unfold rgK
  split
  · rw [if_neg (by omega), if_neg (by omega), if_neg (by omega)]
  · rfl
theorem rgK_up {V : Mm} {i n w y : Int} (h : n ≤ w) : rgK V i n 12 w y = V 12 w y := if_neg (by omega)
theorem rgK_no {V : Mm} {i w : Int} (h : V 12 w 0 ≠ i) (c : Nat) (x y : Int) : rgK V i (w + 1) c x y = rgK V i w c x y := by
  unfold rgK
  by_cases hx : x = w
  · subst hx
    rw [if_neg (fun q => h q.2.2), if_neg (fun q => h q.2.2)]
  · by_cases hq : c = 12 ∧ (0 ≤ x ∧ x < w) ∧ V 12 x 0 = i
    · rw [if_pos ⟨hq.1, ⟨hq.2.1.1, by omega⟩, hq.2.2⟩, if_pos hq]
    · rw [if_neg hq, if_neg (fun q => hq ⟨q.1, ⟨q.2.1.1, by omega⟩, q.2.2⟩)]
theorem rgK_yes {V ρ : Mm} {i w z t : Int} (h0 : 0 ≤ w) (h : V 12 w 0 = i) (he : ∀ x y : Int, ρ 12 x y = rgK V i w 12 x y) (hz : z = isR V i w) (ht : t = V 7 i 10) (x y : Int) : noM ρ w z t 12 x y = rgK V i (w + 1) 12 x y := by
  subst hz ht
  by_cases hx : x = w
  · subst hx
    have e1 : noM ρ x (isR V i x) (V 7 i 10) 12 x y = (if y = 3 then isR V i x else if y = 4 then (if isR V i x = 1 ∧ ρ 12 x 3 = 0 then wr (ρ 12 x 4 + 1) else ρ 12 x 4) else if y = 5 then (if isR V i x = 1 ∧ ρ 12 x 3 = 0 then V 7 i 10 else ρ 12 x 5) else ρ 12 x y) := if_pos ⟨rfl, rfl⟩
    have e2 : rgK V i (x + 1) 12 x y = (if y = 3 then isR V i x else if y = 4 then (if isR V i x = 1 ∧ V 12 x 3 = 0 then wr (V 12 x 4 + 1) else V 12 x 4) else if y = 5 then (if isR V i x = 1 ∧ V 12 x 3 = 0 then V 7 i 10 else V 12 x 5) else V 12 x y) := if_pos ⟨rfl, ⟨h0, by omega⟩, h⟩
    rw [e1, e2, he x 3, he x 4, he x 5, he x y, rgK_up (by omega), rgK_up (by omega), rgK_up (by omega), rgK_up (by omega)]
  · rw [noM_ne (fun q => hx q.2.1), he]
    by_cases hq : (0 ≤ x ∧ x < w) ∧ V 12 x 0 = i
    · exact (if_pos ⟨rfl, hq⟩ : rgK V i w 12 x y = _).trans (if_pos ⟨rfl, ⟨hq.1.1, by omega⟩, hq.2⟩ : rgK V i (w + 1) 12 x y = _).symm
    · exact (if_neg (fun q => hq q.2) : rgK V i w 12 x y = _).trans (if_neg (fun q => hq ⟨⟨q.2.1.1, by omega⟩, q.2.2⟩) : rgK V i (w + 1) 12 x y = _).symm
theorem rgM_id {V : Mm} {i : Int} (h : ∀ w : Int, 0 ≤ w → w < 8 → V 12 w 0 ≠ i) : rgM V i = V := by
  funext c w y
  unfold rgM
  exact if_neg (fun q => h w q.2.1.1 q.2.1.2 q.2.2)
theorem isR_c {V W : Mm} {i w : Int} (h16 : W 16 0 = V 16 0) (h15 : W 15 0 = V 15 0) (h7 : W 7 i 2 = V 7 i 2) (h9 : W 9 i = V 9 i) (h6 : W 7 i 6 = V 7 i 6) (h12 : ∀ y : Int, W 12 w y = V 12 w y) : isR W i w = isR V i w := by
  unfold isR nmV
  rw [h16, h15, h7, h9, h6, h12 1, h12 2]
theorem rgM_c {V W : Mm} {i x y : Int} {c : Nat} (h16 : W 16 0 = V 16 0) (h15 : W 15 0 = V 15 0) (h7 : W 7 i 2 = V 7 i 2) (h9 : W 9 i = V 9 i) (h6 : W 7 i 6 = V 7 i 6) (h10 : W 7 i 10 = V 7 i 10) (h12 : ∀ w y : Int, W 12 w y = V 12 w y) (hc : W c x y = V c x y) : rgM W i c x y = rgM V i c x y := by
  unfold rgM
  rw [isR_c h16 h15 h7 h9 h6 (h12 x), h12 x 0, h12 x 3, h12 x 4, h12 x 5, h12 x y, h10, hc]
theorem ntM_eq {V : Mm} : ntM V = mu (mu (mu (mu V 7 0 15 (max (V 7 0 15) (V 7 0 6))) 7 1 15 (max (V 7 1 15) (V 7 1 6))) 7 2 15 (max (V 7 2 15) (V 7 2 6))) 7 3 15 (max (V 7 3 15) (V 7 3 6)) := by
  funext c x y
  unfold ntM mu
  by_cases h : c = 7 ∧ (0 ≤ x ∧ x ≤ 3) ∧ y = 15
  · obtain ⟨rfl, hx, rfl⟩ := h
    rw [if_pos ⟨rfl, hx, rfl⟩]
    rcases (by omega : x = 0 ∨ x = 1 ∨ x = 2 ∨ x = 3) with rfl | rfl | rfl | rfl
    · rw [if_neg (by omega), if_neg (by omega), if_neg (by omega), if_pos ⟨rfl, rfl, rfl⟩]
    · rw [if_neg (by omega), if_neg (by omega), if_pos ⟨rfl, rfl, rfl⟩]
    · rw [if_neg (by omega), if_pos ⟨rfl, rfl, rfl⟩]
    · rw [if_pos ⟨rfl, rfl, rfl⟩]
  · rw [if_neg h, if_neg (by omega), if_neg (by omega), if_neg (by omega), if_neg (by omega)]
-- a LANE's own places: what a call on another LANE leaves
def own (c : Nat) (y : Int) : Prop := ¬ (c = 12 ∧ 3 ≤ y ∧ y ≤ 5)
theorem enM_ne {V : Mm} {i t v x y : Int} {c : Nat} (h : x ≠ i) (ho : own c y) : enM V i t v c x y = V c x y := by
  unfold enM
  rw [rgM_ne ho]
  split
  · rw [adM_ne (fun q => h q.2), insM_ne (fun q => h q.1)]
  · rw [lyM_ne (fun q => h q.2), insM_ne (fun q => h q.1)]
theorem drps_ne {i x y : Int} {c : Nat} (h : x ≠ i) (ho : own c y) : ∀ (n : Nat) (V : Mm), drps i n V c x y = V c x y
  | 0, _ => rfl
  | n + 1, V => by
    show (if goV V i then drps i n (dpM V i) else V) c x y = V c x y
    split
    · rw [drps_ne h ho n, dpM_ne ⟨ho, fun q => h q.2, fun q => h q.1⟩]
    · rfl
theorem plM_ne {V : Mm} {i t v x y : Int} {c : Nat} (h : x ≠ i) (ho : own c y) : plM V i t v c x y = V c x y := by
  unfold plM
  rw [drps_ne h ho, enM_ne h ho]
theorem gvM_ne {V : Mm} {i t x y : Int} {c : Nat} (h : x ≠ V 13 i 0) (ho : own c y) (h13 : ¬ (c = 13 ∧ x = i ∧ y = 3)) : gvM V i t c x y = V c x y := by
  unfold gvM
  split
  · rw [plM_ne h ho, mu_ne h13]
  · rfl
theorem LI.to {V W : Mm} {i : Int} (h : LI V i) (h0 : W 7 i 0 = V 7 i 0) (h6 : W 7 i 6 = V 7 i 6) (h11 : ∀ y : Int, W 11 i y = V 11 i y) : LI W i := by
  unfold LI
  rw [h0, h6, show W 11 i = V 11 i from funext h11]
  exact h
theorem LI.en {V : Mm} {i t v : Int} (h : LI V i) : LI (enM V i t v) i := by
  refine LI.rg ?_
  split
  · refine ⟨?_, ?_, ?_⟩
    · rw [adM_ne (by omega), insM_ne (by omega)]; exact h.1
    · rw [adM_ne (by omega), insM_6, show adM (insM V i (hU V i t) t v) i 11 i = adR (V 11 i) from funext fun y => by
        unfold adM
        rw [su_at, show (insM V i (hU V i t) t v) 11 i = V 11 i from funext fun z => insM_ne (by omega)]]
      exact FI_ad h.2.1
    · rw [adM_ne (by omega), insM_6]; have := h.2.2; omega
  · refine ⟨?_, ?_, ?_⟩
    · rw [lyM_ne (by omega), insM_ne (by omega)]; exact h.1
    · rw [lyM_ne (by omega), insM_6, show lyM (insM V i (hU V i t) t v) i (V 7 i 6 + 1) 11 i = lyR (V 7 i 6 + 1) (V 11 i) from funext fun y => by
        unfold lyM
        rw [su_at, show (insM V i (hU V i t) t v) 11 i = V 11 i from funext fun z => insM_ne (by omega)]]
      exact FI_ly (by have := h.2.2; omega)
    · rw [lyM_ne (by omega), insM_6]; have := h.2.2; omega
theorem LI_drps {i : Int} : ∀ (n : Nat) {V : Mm}, LI V i → V 7 i 3 = 1 ∧ 0 ≤ V 7 i 4 ∨ V 7 i 3 ≠ 1 → LI (drps i n V) i
  | 0, _, h, _ => h
  | n + 1, V, h, hz => by
    show LI (if goV V i then drps i n (dpM V i) else V) i
    split
    · rename_i hg
      refine LI_drps n (h.dp ?_) ?_
      · rcases hg with q | q
        · omega
        · omega
      · rw [dpM_ne (by omega), dpM_ne (by omega)]; exact hz
    · exact h
theorem LI.pl {V : Mm} {i t v : Int} (h : LI V i) (hz : V 7 i 3 = 1 ∧ 0 ≤ V 7 i 4 ∨ V 7 i 3 ≠ 1) : LI (plM V i t v) i := by
  refine LI_drps _ h.en ?_
  have e : ∀ y : Int, y = 3 ∨ y = 4 → enM V i t v 7 i y = V 7 i y := fun y hy => by
    unfold enM
    rw [rgM_ne (by omega)]
    split
    · rw [adM_ne (by omega), insM_ne (by omega)]
    · rw [lyM_ne (by omega), insM_ne (by omega)]
  rw [e 3 (Or.inl rfl), e 4 (Or.inr rfl)]
  exact hz
