-- B: what is asked of folds: firsts, bests, rows that others make of a LANE's
def Fst (q : Int → Prop) (N r : Int) : Prop := (r = -1 ∧ ∀ n : Int, 1 ≤ n → n ≤ N → ¬ q n) ∨ ((1 ≤ r ∧ r ≤ N) ∧ q r ∧ ∀ n : Int, 1 ≤ n → n < r → ¬ q n)
theorem Fst.u {q : Int → Prop} {N r s : Int} (a : Fst q N r) (b : Fst q N s) : r = s := by
  rcases a with ⟨a1, a2⟩ | ⟨a1, a2, a3⟩
  · rcases b with ⟨b1, b2⟩ | ⟨b1, b2, b3⟩
    · omega
    · exact absurd b2 (a2 s b1.1 b1.2)
  · rcases b with ⟨b1, b2⟩ | ⟨b1, b2, b3⟩
    · exact absurd a2 (b2 r a1.1 a1.2)
    · by_cases h : r < s
      · exact absurd a2 (b3 r a1.1 h)
      · by_cases h2 : s < r
        · exact absurd b2 (a3 s b1.1 h2)
        · omega
/-- the first of the greatest of f 0 .. f N -/
def Best (f : Int → Int) (N r : Int) : Prop := (0 ≤ r ∧ r ≤ N) ∧ (∀ i : Int, 0 ≤ i → i < r → f i < f r) ∧ ∀ i : Int, r ≤ i → i ≤ N → f i ≤ f r
theorem Best.u {f : Int → Int} {N r s : Int} (a : Best f N r) (b : Best f N s) : r = s := by
  by_cases h : r < s
  · have := b.2.1 r a.1.1 h
    have := a.2.2 s (by omega) b.1.2
    omega
  · by_cases h2 : s < r
    · have := a.2.1 s b.1.1 h2
      have := b.2.2 r (by omega) a.1.2
      omega
    · omega
/-- among f 0 .. f (n - 1), seen one by one: the first of the greatest, and it -/
def bst2 (f : Int → Int) : Nat → Int × Int
  | 0 => (0, NO)
  | n + 1 => if (bst2 f n).2 < f n then ((n : Int), f n) else bst2 f n
theorem bst2_b (f : Int → Int) (hf : ∀ i : Int, 0 ≤ i → NO ≤ f i) : ∀ n : Nat, 1 ≤ n → Best f ((n : Int) - 1) (bst2 f n).1 ∧ (bst2 f n).2 = f (bst2 f n).1
  | 0, h => by omega
  | 1, _ => by
    have e : bst2 f 1 = if NO < f 0 then (0, f 0) else (0, NO) := rfl
    have h0 := hf 0 (by omega)
    rw [e]
    split
    · refine ⟨⟨⟨by show (0 : Int) ≤ 0; omega, by show (0 : Int) ≤ _; omega⟩, fun i a b => ?_, fun i a b => ?_⟩, rfl⟩
      · have b2 : i < 0 := b
        omega
      · obtain rfl : i = 0 := by have a2 : (0 : Int) ≤ i := a; omega
        exact Int.le_refl _
    · refine ⟨⟨⟨by show (0 : Int) ≤ 0; omega, by show (0 : Int) ≤ _; omega⟩, fun i a b => ?_, fun i a b => ?_⟩, ?_⟩
      · have b2 : i < 0 := b
        omega
      · obtain rfl : i = 0 := by have a2 : (0 : Int) ≤ i := a; omega
        exact Int.le_refl _
      · show NO = f 0
        omega
  | n + 2, _ => by
    obtain ⟨⟨i1, i2, i3⟩, i4⟩ := bst2_b f hf (n + 1) (by omega)
    have e : bst2 f (n + 2) = if (bst2 f (n + 1)).2 < f ((n + 1 : Nat) : Int) then (((n + 1 : Nat) : Int), f ((n + 1 : Nat) : Int)) else bst2 f (n + 1) := rfl
    rw [e]
    split
    · rename_i h
      refine ⟨⟨⟨by show (0 : Int) ≤ ((n + 1 : Nat) : Int); omega, by show ((n + 1 : Nat) : Int) ≤ _; omega⟩, fun i a b => ?_, fun i a b => ?_⟩, rfl⟩
      · have b2 : i < ((n + 1 : Nat) : Int) := b
        show f i < f ((n + 1 : Nat) : Int)
        by_cases q : i < (bst2 f (n + 1)).1
        · have := i2 i a q
          omega
        · have := i3 i (by omega) (by omega)
          omega
      · have a2 : ((n + 1 : Nat) : Int) ≤ i := a
        obtain rfl : i = ((n + 1 : Nat) : Int) := by omega
        exact Int.le_refl _
    · rename_i h
      refine ⟨⟨⟨i1.1, by omega⟩, i2, fun i a b => ?_⟩, i4⟩
      by_cases q : i = ((n + 1 : Nat) : Int)
      · subst q; omega
      · exact i3 i a (by omega)
abbrev rchV (V : Mm) (l f z w b : Int) : Prop := ptV V l f z w ≠ NO ∧ b ≤ ptV V l f z w
def reA (V : Mm) (l w b r : Int) : Prop := (¬ lwC V l w → r = -1) ∧ (lwC V l w → Fst (fun n => rchV V l 0 n w b) (V 7 l 6) r)
def rbA (V : Mm) (l w b r : Int) : Prop := (¬ lwC V l w → r = -1) ∧ (lwC V l w → Fst (fun n => rchV V l (V 7 l 6 - n) (V 7 l 6) w b) (V 7 l 6) r)
theorem iff_u {C : Prop} {Q : Int → Prop} {z r s : Int} (a : (¬ C → r = z) ∧ (C → Q r)) (b : (¬ C → s = z) ∧ (C → Q s)) (u : Q r → Q s → r = s) : r = s := by
  by_cases c : C
  · exact u (a.2 c) (b.2 c)
  · rw [a.1 c, b.1 c]
theorem reA.u {V : Mm} {l w b r s : Int} (h : reA V l w b r) (h2 : reA V l w b s) : r = s := iff_u h h2 Fst.u
theorem rbA.u {V : Mm} {l w b r s : Int} (h : rbA V l w b r) (h2 : rbA V l w b s) : r = s := iff_u h h2 Fst.u
abbrev pkC (V : Mm) (l m w : Int) : Prop := lwC V l w ∧ 1 ≤ m ∧ m ≤ V 7 l 6
def paA (V : Mm) (l m w r : Int) : Prop := (¬ pkC V l m w → r = -1) ∧ (pkC V l m w → Best (fun i => ptV V l i (i + m) w) (V 7 l 6 - m) r)
theorem paA.u {V : Mm} {l m w r s : Int} (h : paA V l m w r) (h2 : paA V l m w s) : r = s := iff_u h h2 Best.u
def pkA (V : Mm) (l m w r : Int) : Prop := ∃ a : Int, paA V l m w a ∧ r = if a = -1 then NO else ptV V l a (a + m) w
theorem pkA.u {V : Mm} {l m w r s : Int} (h : pkA V l m w r) (h2 : pkA V l m w s) : r = s := by
  obtain ⟨a, a1, a2⟩ := h
  obtain ⟨b, b1, b2⟩ := h2
  have := a1.u b1
  subst this
  rw [a2, b2]
def woU (V : Mm) (l x : Int) : Int → Int := fun j => if j < x then V 9 l j else V 9 l (j + 1)
def woV (V : Mm) (l x w : Int) : Int := cm (V 16 0) (V 15 0) (V 7 l 2) (woU V l x) (V 7 l 6 - 1).toNat w
def woR (V : Mm) (l x w : Int) : Int := if lwC V l w ∧ 0 ≤ x ∧ x < V 7 l 6 then woV V l x w else -2147483648
abbrev spC (V : Mm) (l w : Int) : Prop := lwC V l w ∧ 2 ≤ V 7 l 6
def spA (V : Mm) (l w r : Int) : Prop := (¬ spC V l w → r = -1) ∧ (spC V l w → Best (fun i => woV V l i w) (V 7 l 6 - 1) r)
theorem spA.u {V : Mm} {l w r s : Int} (h : spA V l w r) (h2 : spA V l w s) : r = s := iff_u h h2 Best.u
def tuU (V : Mm) (l : Int) : Int → Int := fun j => V 9 l (V 7 l 6 - 1 - j)
def tuR (V : Mm) (l w : Int) : Int := if lwC V l w then cm (V 16 0) (V 15 0) (V 7 l 2) (tuU V l) (V 7 l 6).toNat w else -2147483648
abbrev lkC2 (V : Mm) (l o w : Int) : Prop := lwC V l w ∧ opV V o ∧ V 7 l 2 = V 7 o 2
def jnU (V : Mm) (l o : Int) : Int → Int := fun j => if j < V 7 l 6 then V 9 l j else V 9 o (j - V 7 l 6)
def jnR (V : Mm) (l o w : Int) : Int := if lkC2 V l o w then cm (V 16 0) (V 15 0) (V 7 l 2) (jnU V l o) (V 7 l 6 + V 7 o 6).toNat w else -2147483648
/-- how many of the first are there among the first n of two woven -/
abbrev wvC (T S : Int → Int) (h g i k : Int) : Prop := g ≤ k ∨ (i < h ∧ T i ≤ S k)
def wvS (T S : Int → Int) (h g : Int) : Nat → Int
  | 0 => 0
  | n + 1 => if wvC T S h g (wvS T S h g n) ((n : Int) - wvS T S h g n) then wvS T S h g n + 1 else wvS T S h g n
abbrev wvI (V : Mm) (l o : Int) (n : Nat) : Int := wvS (V 8 l) (V 8 o) (V 7 l 6) (V 7 o 6) n
def wvU (V : Mm) (l o : Int) : Int → Int := fun j => if wvC (V 8 l) (V 8 o) (V 7 l 6) (V 7 o 6) (wvI V l o j.toNat) (j - wvI V l o j.toNat) then V 9 l (wvI V l o j.toNat) else V 9 o (j - wvI V l o j.toNat)
def wvR (V : Mm) (l o w : Int) : Int := if lkC2 V l o w then cm (V 16 0) (V 15 0) (V 7 l 2) (wvU V l o) (V 7 l 6 + V 7 o 6).toNat w else -2147483648
/-- two rows come to the same -/
def alk (V : Mm) (o : Int) (u v : Int → Int) (n m : Nat) : Prop := if n = 0 ∨ m = 0 then n = m else ∀ k : Int, 0 ≤ k → k < numF o → cmN (V 16 0) (V 15 0) o v m k = cmN (V 16 0) (V 15 0) o u n k
def YN (C Q : Prop) (r : Int) : Prop := (¬ C → r = -1) ∧ (C → (Q → r = 1) ∧ (¬ Q → r = 0))
theorem YN.u {C Q : Prop} {r s : Int} (a : YN C Q r) (b : YN C Q s) : r = s := by
  by_cases c : C
  · by_cases q : Q
    · rw [(a.2 c).1 q, (b.2 c).1 q]
    · rw [(a.2 c).2 q, (b.2 c).2 q]
  · rw [a.1 c, b.1 c]
abbrev saC (V : Mm) (l o : Int) : Prop := opV V l ∧ opV V o ∧ V 7 l 2 = V 7 o 2
def saA (V : Mm) (l o r : Int) : Prop := YN (saC V l o) (alk V (V 7 l 2) (V 9 l) (V 9 o) (V 7 l 6).toNat (V 7 o 6).toNat) r
def coU (V : Mm) (l x : Int) : Int → Int := fun j => V 9 l (if j = x then x + 1 else if j = x + 1 then x else j)
abbrev comC (V : Mm) (l x : Int) : Prop := opV V l ∧ 0 ≤ x ∧ x + 1 < V 7 l 6
def comA (V : Mm) (l x r : Int) : Prop := YN (comC V l x) (alk V (V 7 l 2) (V 9 l) (coU V l x) (V 7 l 6).toNat (V 7 l 6).toNat) r
/-- SESSIONS one by one: how many began, where session s began, how long it is -/
def sst (T : Int → Int) (g s : Int) : Nat → Int × Int × Int
  | 0 => (0, 0, 0)
  | n + 1 =>
    let q := sst T g s n
    let c := if n = 0 ∨ wr (T n - T (n - 1)) > g then q.1 + 1 else q.1
    (c, if c - 1 = s ∧ q.2.2 = 0 then (n : Int) else q.2.1, if c - 1 = s then q.2.2 + 1 else q.2.2)
abbrev seC (V : Mm) (l g s w : Int) : Prop := lwC V l w ∧ (0 ≤ g ∧ g ≤ 100000) ∧ 0 ≤ s
abbrev sstV (V : Mm) (l g s : Int) : Int × Int × Int := sst (V 8 l) g s (V 7 l 6).toNat
def seR (V : Mm) (l g s w : Int) : Int := if seC V l g s w then cm (V 16 0) (V 15 0) (V 7 l 2) (fun j => V 9 l ((sstV V l g s).2.1 + j)) (sstV V l g s).2.2.toNat w else -2147483648
/-- in how many windows that begin at one place the number lies between -/
def wnR (f : Int → Int) (a b : Int) : Nat → Int
  | 0 => 0
  | n + 1 => wnR f a b n + (if f n ≠ NO ∧ a ≤ f n ∧ f n ≤ b then 1 else 0)
def wnS (V : Mm) (l w a b : Int) : Nat → Int
  | 0 => 0
  | n + 1 => wnS V l w a b n + wnR (fun k => ptV V l n (n + k + 1) w) a b (V 7 l 6 - n).toNat
def wnQ (V : Mm) (l w a b : Int) : Int := if lwC V l w then wnS V l w a b (V 7 l 6).toNat else -1
/-- the fewest neighbours by which a bound is REACHED, and where they are first -/
def ShB (q : Int → Int → Prop) (h n i : Int) : Prop := (n = h + 1 ∧ i = -1 ∧ ∀ f m : Int, 0 ≤ f → 1 ≤ m → f + m ≤ h → ¬ q f m) ∨ ((1 ≤ n ∧ 0 ≤ i ∧ i + n ≤ h) ∧ q i n ∧ (∀ f m : Int, 0 ≤ f → 1 ≤ m → f + m ≤ h → m < n → ¬ q f m) ∧ ∀ f : Int, 0 ≤ f → f < i → ¬ q f n)
theorem ShB.u {q : Int → Int → Prop} {h n i m j : Int} (a : ShB q h n i) (b : ShB q h m j) : n = m ∧ i = j := by
  rcases a with ⟨a1, a2, a3⟩ | ⟨a1, a2, a3, a4⟩
  · rcases b with ⟨b1, b2, b3⟩ | ⟨b1, b2, b3, b4⟩
    · omega
    · exact absurd b2 (a3 j m b1.2.1 b1.1 b1.2.2)
  · rcases b with ⟨b1, b2, b3⟩ | ⟨b1, b2, b3, b4⟩
    · exact absurd a2 (b3 i n a1.2.1 a1.1 a1.2.2)
    · by_cases h1 : n < m
      · exact absurd a2 (b3 i n a1.2.1 a1.1 a1.2.2 h1)
      by_cases h2 : m < n
      · exact absurd b2 (a3 j m b1.2.1 b1.1 b1.2.2 h2)
      obtain rfl : n = m := by omega
      refine ⟨rfl, ?_⟩
      by_cases h3 : i < j
      · exact absurd a2 (b4 i a1.2.1 h3)
      by_cases h4 : j < i
      · exact absurd b2 (a4 j b1.2.1 h4)
      · omega
abbrev shC2 (V : Mm) (l w k : Int) : Prop := lwC V l w ∧ 0 ≤ k ∧ k ≤ 1
def stA (V : Mm) (l w b k r : Int) : Prop := (¬ shC2 V l w k → r = -1) ∧ (shC2 V l w k → ∃ n i : Int, ShB (fun f m => rchV V l f (f + m) w b) (V 7 l 6) n i ∧ r = if i = -1 then -1 else if k = 0 then n else i)
theorem stA.u {V : Mm} {l w b k r s : Int} (h : stA V l w b k r) (h2 : stA V l w b k s) : r = s := by
  by_cases c : shC2 V l w k
  · obtain ⟨n, i, p, q⟩ := h.2 c
    obtain ⟨m, j, p2, q2⟩ := h2.2 c
    obtain ⟨rfl, rfl⟩ := p.u p2
    rw [q, q2]
  · rw [h.1 c, h2.1 c]
-- PANES and SESSIONS counted
def pnN (T : Int → Int) (w : Int) : Nat → Int
  | 0 => 0
  | n + 1 => pnN T w n + (if n = 0 ∨ T n / w ≠ T (n - 1) / w then 1 else 0)
abbrev pnC (V : Mm) (l w : Int) : Prop := opV V l ∧ 1 ≤ w ∧ w ≤ 100000
def pnR (V : Mm) (l w : Int) : Int := if pnC V l w then pnN (V 8 l) w (V 7 l 6).toNat else -1
/-- how many in the newest PANE, the most, which -/
def flN (T : Int → Int) (w : Int) : Nat → Int × Int × Int
  | 0 => (0, 0, -1)
  | n + 1 =>
    let q := flN T w n
    let c := if n ≠ 0 ∧ T n / w = T (n - 1) / w then q.1 + 1 else 1
    (c, if c > q.2.1 then c else q.2.1, if c > q.2.1 then T n / w else q.2.2)
def flR (V : Mm) (l w : Int) : Int := if pnC V l w then (flN (V 8 l) w (V 7 l 6).toNat).2.2 else -1
def ssN (T : Int → Int) (g : Int) : Nat → Int
  | 0 => 0
  | n + 1 => ssN T g n + (if n = 0 ∨ wr (T n - T (n - 1)) > g then 1 else 0)
abbrev gaC (V : Mm) (l g : Int) : Prop := opV V l ∧ 0 ≤ g ∧ g ≤ 100000
def ssR (V : Mm) (l g : Int) : Int := if gaC V l g then ssN (V 8 l) g (V 7 l 6).toNat else -1
/-- how many SESSIONS began, how long the newest is, the most, which -/
def loN (T : Int → Int) (g : Int) : Nat → Int × Int × Int × Int
  | 0 => (0, 0, 0, -1)
  | n + 1 =>
    let q := loN T g n
    let c := if n = 0 ∨ wr (T n - T (n - 1)) > g then q.1 + 1 else q.1
    let m := if n = 0 ∨ wr (T n - T (n - 1)) > g then 1 else q.2.1 + 1
    (c, m, if m > q.2.2.1 then m else q.2.2.1, if m > q.2.2.1 then c - 1 else q.2.2.2)
def loR (V : Mm) (l g : Int) : Int := if gaC V l g then (loN (V 8 l) g (V 7 l 6).toNat).2.2.2 else -1
