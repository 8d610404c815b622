-- B: what is asked of folds: firsts, bests, rows that others make of a LANE's
def Fst (q : Int → Prop) (N r : Int) : Prop := (r = -1 ∧ ∀ n : Int, 1 ≤ n → n ≤ N → ¬ q n) ∨ ((1 ≤ r ∧ r ≤ N) ∧ q r ∧ ∀ n : Int, 1 ≤ n → n < r → ¬ q n)
theorem Fst.u {q : Int → Prop} {N r s : Int} (a : Fst q N r) (b : Fst q N s) : r = s := by
  rcases a with ⟨a1, a2⟩ | ⟨a1, a2, a3⟩
  · rcases b with ⟨b1, b2⟩ | ⟨b1, b2, b3⟩
    · omega
    · exact absurd b2 (a2 s b1.1 b1.2)
  · rcases b with ⟨b1, b2⟩ | ⟨b1, b2, b3⟩
    · exact absurd a2 (b2 r a1.1 a1.2)
    · by_cases h : r < s
      · exact absurd a2 (b3 r a1.1 h)
      · by_cases h2 : s < r
        · exact absurd b2 (a3 s b1.1 h2)
        · omega
/-- the first of the greatest of f 0 .. f N -/
def Best (f : Int → Int) (N r : Int) : Prop := (0 ≤ r ∧ r ≤ N) ∧ (∀ i : Int, 0 ≤ i → i < r → f i < f r) ∧ ∀ i : Int, r ≤ i → i ≤ N → f i ≤ f r
theorem Best.u {f : Int → Int} {N r s : Int} (a : Best f N r) (b : Best f N s) : r = s := by
  by_cases h : r < s
  · have := b.2.1 r a.1.1 h
    have := a.2.2 s (by omega) b.1.2
    omega
  · by_cases h2 : s < r
    · have := a.2.1 s b.1.1 h2
      have := b.2.2 r (by omega) a.1.2
      omega
    · omega
/-- among f 0 .. f (n - 1), seen one by one: the first of the greatest, and it -/
def bst2 (f : Int → Int) : Nat → Int × Int
  | 0 => (0, NO)
  | n + 1 => if (bst2 f n).2 < f n then ((n : Int), f n) else bst2 f n
theorem bst2_b (f : Int → Int) (hf : ∀ i : Int, 0 ≤ i → NO ≤ f i) : ∀ n : Nat, 1 ≤ n → Best f ((n : Int) - 1) (bst2 f n).1 ∧ (bst2 f n).2 = f (bst2 f n).1
  | 0, h => by omega
  | 1, _ => by
    have e : bst2 f 1 = if NO < f 0 then (0, f 0) else (0, NO) := rfl
    have h0 := hf 0 (by omega)
    rw [e]
    split
    · refine ⟨⟨⟨by show (0 : Int) ≤ 0; omega, by show (0 : Int) ≤ _; omega⟩, fun i a b => ?_, fun i a b => ?_⟩, rfl⟩
      · have b2 : i < 0 := b
        omega
      · obtain rfl : i = 0 := by have a2 : (0 : Int) ≤ i := a; omega
        exact Int.le_refl _
    · refine ⟨⟨⟨by show (0 : Int) ≤ 0; omega, by show (0 : Int) ≤ _; omega⟩, fun i a b => ?_, fun i a b => ?_⟩, ?_⟩
      · have b2 : i < 0 := b
        omega
      · obtain rfl : i = 0 := by have a2 : (0 : Int) ≤ i := a; omega
        exact Int.le_refl _
      · show NO = f 0
        omega
  | n + 2, _ => by
    obtain ⟨⟨i1, i2, i3⟩, i4⟩ := bst2_b f hf (n + 1) (by omega)
    have e : bst2 f (n + 2) = if (bst2 f (n + 1)).2 < f ((n + 1 : Nat) : Int) then (((n + 1 : Nat) : Int), f ((n + 1 : Nat) : Int)) else bst2 f (n + 1) := rfl
    rw [e]
    split
    · rename_i h
      refine ⟨⟨⟨by show (0 : Int) ≤ ((n + 1 : Nat) : Int); omega, by show ((n + 1 : Nat) : Int) ≤ _; omega⟩, fun i a b => ?_, fun i a b => ?_⟩, rfl⟩
      · have b2 : i < ((n + 1 : Nat) : Int) := b
        show f i < f ((n + 1 : Nat) : Int)
        by_cases q : i < (bst2 f (n + 1)).1
        · have := i2 i a q
          omega
        · have := i3 i (by omega) (by omega)
          omega
      · have a2 : ((n + 1 : Nat) : Int) ≤ i := a
        obtain rfl : i = ((n + 1 : Nat) : Int) := by omega
        exact Int.le_refl _
    · rename_i h
      refine ⟨⟨⟨i1.1, by omega⟩, i2, fun i a b => ?_⟩, i4⟩
      by_cases q : i = ((n + 1 : Nat) : Int)
      · subst q; omega
      · exact i3 i a (by omega)
abbrev rchV (V : Mm) (l f z w b : Int) : Prop := ptV V l f z w ≠ NO ∧ b ≤ ptV V l f z w
def reA (V : Mm) (l w b r : Int) : Prop := (¬ lwC V l w → r = -1) ∧ (lwC V l w → Fst (fun n => rchV V l 0 n w b) (V 7 l 6) r)
def rbA (V : Mm) (l w b r : Int) : Prop := (¬ lwC V l w → r = -1) ∧ (lwC V l w → Fst (fun n => rchV V l (V 7 l 6 - n) (V 7 l 6) w b) (V 7 l 6) r)
theorem iff_u {C : Prop} {Q : Int → Prop} {z r s : Int} (a : (¬ C → r = z) ∧ (C → Q r)) (b : (¬ C → s = z) ∧ (C → Q s)) (u : Q r → Q s → r = s) : r = s := by
  by_cases c : C
  · exact u (a.2 c) (b.2 c)
  · rw [a.1 c, b.1 c]
theorem reA.u {V : Mm} {l w b r s : Int} (h : reA V l w b r) (h2 : reA V l w b s) : r = s := iff_u h h2 Fst.u
theorem rbA.u {V : Mm} {l w b r s : Int} (h : rbA V l w b r) (h2 : rbA V l w b s) : r = s := iff_u h h2 Fst.u
abbrev pkC (V : Mm) (l m w : Int) : Prop := lwC V l w ∧ 1 ≤ m ∧ m ≤ V 7 l 6
def paA (V : Mm) (l m w r : Int) : Prop := (¬ pkC V l m w → r = -1) ∧ (pkC V l m w → Best (fun i => ptV V l i (i + m) w) (V 7 l 6 - m) r)
theorem paA.u {V : Mm} {l m w r s : Int} (h : paA V l m w r) (h2 : paA V l m w s) : r = s := iff_u h h2 Best.u
def pkA (V : Mm) (l m w r : Int) : Prop := ∃ a : Int, paA V l m w a ∧ r = if a = -1 then NO else ptV V l a (a + m) w
theorem pkA.u {V : Mm} {l m w r s : Int} (h : pkA V l m w r) (h2 : pkA V l m w s) : r = s := by
  obtain ⟨a, a1, a2⟩ := h
  obtain ⟨b, b1, b2⟩ := h2
  have := a1.u b1
  subst this
  rw [a2, b2]
def woU (V : Mm) (l x : Int) : Int → Int := fun j => if j < x then V 9 l j else V 9 l (j + 1)
def woV (V : Mm) (l x w : Int) : Int := cm (V 16 0) (V 15 0) (V 7 l 2) (woU V l x) (V 7 l 6 - 1).toNat w
def woR (V : Mm) (l x w : Int) : Int := if lwC V l w ∧ 0 ≤ x ∧ x < V 7 l 6 then woV V l x w else -2147483648
abbrev spC (V : Mm) (l w : Int) : Prop := lwC V l w ∧ 2 ≤ V 7 l 6
def spA (V : Mm) (l w r : Int) : Prop := (¬ spC V l w → r = -1) ∧ (spC V l w → Best (fun i => woV V l i w) (V 7 l 6 - 1) r)
theorem spA.u {V : Mm} {l w r s : Int} (h : spA V l w r) (h2 : spA V l w s) : r = s := iff_u h h2 Best.u
def tuU (V : Mm) (l : Int) : Int → Int := fun j => V 9 l (V 7 l 6 - 1 - j)
def tuR (V : Mm) (l w : Int) : Int := if lwC V l w then cm (V 16 0) (V 15 0) (V 7 l 2) (tuU V l) (V 7 l 6).toNat w else -2147483648
abbrev lkC2 (V : Mm) (l o w : Int) : Prop := lwC V l w ∧ opV V o ∧ V 7 l 2 = V 7 o 2
def jnU (V : Mm) (l o : Int) : Int → Int := fun j => if j < V 7 l 6 then V 9 l j else V 9 o (j - V 7 l 6)
def jnR (V : Mm) (l o w : Int) : Int := if lkC2 V l o w then cm (V 16 0) (V 15 0) (V 7 l 2) (jnU V l o) (V 7 l 6 + V 7 o 6).toNat w else -2147483648
/-- how many of the first are there among the first n of two woven -/
abbrev wvC (T S : Int → Int) (h g i k : Int) : Prop := g ≤ k ∨ (i < h ∧ T i ≤ S k)
def wvS (T S : Int → Int) (h g : Int) : Nat → Int
  | 0 => 0
  | n + 1 => if wvC T S h g (wvS T S h g n) ((n : Int) - wvS T S h g n) then wvS T S h g n + 1 else wvS T S h g n
abbrev wvI (V : Mm) (l o : Int) (n : Nat) : Int := wvS (V 8 l) (V 8 o) (V 7 l 6) (V 7 o 6) n
def wvU (V : Mm) (l o : Int) : Int → Int := fun j => if wvC (V 8 l) (V 8 o) (V 7 l 6) (V 7 o 6) (wvI V l o j.toNat) (j - wvI V l o j.toNat) then V 9 l (wvI V l o j.toNat) else V 9 o (j - wvI V l o j.toNat)
def wvR (V : Mm) (l o w : Int) : Int := if lkC2 V l o w then cm (V 16 0) (V 15 0) (V 7 l 2) (wvU V l o) (V 7 l 6 + V 7 o 6).toNat w else -2147483648
/-- two rows come to the same -/
def alk (V : Mm) (o : Int) (u v : Int → Int) (n m : Nat) : Prop := if n = 0 ∨ m = 0 then n = m else ∀ k : Int, 0 ≤ k → k < numF o → cmN (V 16 0) (V 15 0) o v m k = cmN (V 16 0) (V 15 0) o u n k
def YN (C Q : Prop) (r : Int) : Prop := (¬ C → r = -1) ∧ (C → (Q → r = 1) ∧ (¬ Q → r = 0))
theorem YN.u {C Q : Prop} {r s : Int} (a : YN C Q r) (b : YN C Q s) : r = s := by
  by_cases c : C
  · by_cases q : Q
    · rw [(a.2 c).1 q, (b.2 c).1 q]
    · rw [(a.2 c).2 q, (b.2 c).2 q]
  · rw [a.1 c, b.1 c]
abbrev saC (V : Mm) (l o : Int) : Prop := opV V l ∧ opV V o ∧ V 7 l 2 = V 7 o 2
def saA (V : Mm) (l o r : Int) : Prop := YN (saC V l o) (alk V (V 7 l 2) (V 9 l) (V 9 o) (V 7 l 6).toNat (V 7 o 6).toNat) r
def coU (V : Mm) (l x : Int) : Int → Int := fun j => V 9 l (if j = x then x + 1 else if j = x + 1 then x else j)
abbrev comC (V : Mm) (l x : Int) : Prop := opV V l ∧ 0 ≤ x ∧ x + 1 < V 7 l 6
def comA (V : Mm) (l x r : Int) : Prop := YN (comC V l x) (alk V (V 7 l 2) (V 9 l) (coU V l x) (V 7 l 6).toNat (V 7 l 6).toNat) r
/-- SESSIONS one by one: how many began, where session s began, how long it is -/
def sst (T : Int → Int) (g s : Int) : Nat → Int × Int × Int
  | 0 => (0, 0, 0)
  | n + 1 =>
    let q := sst T g s n
    let c := if n = 0 ∨ wr (T n - T (n - 1)) > g then q.1 + 1 else q.1
    (c, if c - 1 = s ∧ q.2.2 = 0 then (n : Int) else q.2.1, if c - 1 = s then q.2.2 + 1 else q.2.2)
abbrev seC (V : Mm) (l g s w : Int) : Prop := lwC V l w ∧ (0 ≤ g ∧ g ≤ 100000) ∧ 0 ≤ s
abbrev sstV (V : Mm) (l g s : Int) : Int × Int × Int := sst (V 8 l) g s (V 7 l 6).toNat
def seR (V : Mm) (l g s w : Int) : Int := if seC V l g s w then cm (V 16 0) (V 15 0) (V 7 l 2) (fun j => V 9 l ((sstV V l g s).2.1 + j)) (sstV V l g s).2.2.toNat w else -2147483648
/-- in how many windows that begin at one place the number lies between -/
def wnR (f : Int → Int) (a b : Int) : Nat → Int
  | 0 => 0
  | n + 1 => wnR f a b n + (if f n ≠ NO ∧ a ≤ f n ∧ f n ≤ b then 1 else 0)
def wnS (V : Mm) (l w a b : Int) : Nat → Int
  | 0 => 0
  | n + 1 => wnS V l w a b n + wnR (fun k => ptV V l n (n + k + 1) w) a b (V 7 l 6 - n).toNat
def wnQ (V : Mm) (l w a b : Int) : Int := if lwC V l w then wnS V l w a b (V 7 l 6).toNat else -1
/-- the fewest neighbours by which a bound is REACHED, and where they are first -/
def ShB (q : Int → Int → Prop) (h n i : Int) : Prop := (n = h + 1 ∧ i = -1 ∧ ∀ f m : Int, 0 ≤ f → 1 ≤ m → f + m ≤ h → ¬ q f m) ∨ ((1 ≤ n ∧ 0 ≤ i ∧ i + n ≤ h) ∧ q i n ∧ (∀ f m : Int, 0 ≤ f → 1 ≤ m → f + m ≤ h → m < n → ¬ q f m) ∧ ∀ f : Int, 0 ≤ f → f < i → ¬ q f n)
theorem ShB.u {q : Int → Int → Prop} {h n i m j : Int} (a : ShB q h n i) (b : ShB q h m j) : n = m ∧ i = j := by
  rcases a with ⟨a1, a2, a3⟩ | ⟨a1, a2, a3, a4⟩
  · rcases b with ⟨b1, b2, b3⟩ | ⟨b1, b2, b3, b4⟩
    · omega
    · exact absurd b2 (a3 j m b1.2.1 b1.1 b1.2.2)
  · rcases b with ⟨b1, b2, b3⟩ | ⟨b1, b2, b3, b4⟩
    · exact absurd a2 (b3 i n a1.2.1 a1.1 a1.2.2)
    · by_cases h1 : n < m
      · exact absurd a2 (b3 i n a1.2.1 a1.1 a1.2.2 h1)
      by_cases h2 : m < n
      · exact absurd b2 (a3 j m b1.2.1 b1.1 b1.2.2 h2)
      obtain rfl : n = m := by omega
      refine ⟨rfl, ?_⟩
      by_cases h3 : i < j
      · exact absurd a2 (b4 i a1.2.1 h3)
      by_cases h4 : j < i
      · exact absurd b2 (a4 j b1.2.1 h4)
      · omega
abbrev shC2 (V : Mm) (l w k : Int) : Prop := lwC V l w ∧ 0 ≤ k ∧ k ≤ 1
def stA (V : Mm) (l w b k r : Int) : Prop := (¬ shC2 V l w k → r = -1) ∧ (shC2 V l w k → ∃ n i : Int, ShB (fun f m => rchV V l f (f + m) w b) (V 7 l 6) n i ∧ r = if i = -1 then -1 else if k = 0 then n else i)
theorem stA.u {V : Mm} {l w b k r s : Int} (h : stA V l w b k r) (h2 : stA V l w b k s) : r = s := by
  by_cases c : shC2 V l w k
  · obtain ⟨n, i, p, q⟩ := h.2 c
    obtain ⟨m, j, p2, q2⟩ := h2.2 c
    obtain ⟨rfl, rfl⟩ := p.u p2
    rw [q, q2]
  · rw [h.1 c, h2.1 c]
-- PANES and SESSIONS counted
def pnN (T : Int → Int) (w : Int) : Nat → Int
  | 0 => 0
  | n + 1 => pnN T w n + (if n = 0 ∨ T n / w ≠ T (n - 1) / w then 1 else 0)
abbrev pnC (V : Mm) (l w : Int) : Prop := opV V l ∧ 1 ≤ w ∧ w ≤ 100000
def pnR (V : Mm) (l w : Int) : Int := if pnC V l w then pnN (V 8 l) w (V 7 l 6).toNat else -1
/-- how many in the newest PANE, the most, which -/
def flN (T : Int → Int) (w : Int) : Nat → Int × Int × Int
  | 0 => (0, 0, -1)
  | n + 1 =>
    let q := flN T w n
    let c := if n ≠ 0 ∧ T n / w = T (n - 1) / w then q.1 + 1 else 1
    (c, if c > q.2.1 then c else q.2.1, if c > q.2.1 then T n / w else q.2.2)
def flR (V : Mm) (l w : Int) : Int := if pnC V l w then (flN (V 8 l) w (V 7 l 6).toNat).2.2 else -1
def ssN (T : Int → Int) (g : Int) : Nat → Int
  | 0 => 0
  | n + 1 => ssN T g n + (if n = 0 ∨ wr (T n - T (n - 1)) > g then 1 else 0)
abbrev gaC (V : Mm) (l g : Int) : Prop := opV V l ∧ 0 ≤ g ∧ g ≤ 100000
def ssR (V : Mm) (l g : Int) : Int := if gaC V l g then ssN (V 8 l) g (V 7 l 6).toNat else -1
/-- how many SESSIONS began, how long the newest is, the most, which -/
def loN (T : Int → Int) (g : Int) : Nat → Int × Int × Int × Int
  | 0 => (0, 0, 0, -1)
  | n + 1 =>
    let q := loN T g n
    let c := if n = 0 ∨ wr (T n - T (n - 1)) > g then q.1 + 1 else q.1
    let m := if n = 0 ∨ wr (T n - T (n - 1)) > g then 1 else q.2.1 + 1
    (c, m, if m > q.2.2.1 then m else q.2.2.1, if m > q.2.2.1 then c - 1 else q.2.2.2)
def loR (V : Mm) (l g : Int) : Int := if gaC V l g then (loN (V 8 l) g (V 7 l 6).toNat).2.2.2 else -1
-- B: what is asked of folds: steps
theorem wvS_y {T S : Int → Int} {h g : Int} {n : Nat} (c : wvC T S h g (wvS T S h g n) ((n : Int) - wvS T S h g n)) : wvS T S h g (n + 1) = wvS T S h g n + 1 := if_pos c
theorem wvS_n {T S : Int → Int} {h g : Int} {n : Nat} (c : ¬ wvC T S h g (wvS T S h g n) ((n : Int) - wvS T S h g n)) : wvS T S h g (n + 1) = wvS T S h g n := if_neg c
theorem wvI_y {V : Mm} {l o i k : Int} (h0 : 0 ≤ i + k) (e : i = wvI V l o (i + k).toNat) (c : wvC (V 8 l) (V 8 o) (V 7 l 6) (V 7 o 6) i k) : i + 1 = wvI V l o (i + 1 + k).toNat := by
  unfold wvI at e ⊢
  rw [show (i + 1 + k).toNat = (i + k).toNat + 1 from by omega, wvS_y, ← e]
  rw [← e, show (((i + k).toNat : Nat) : Int) - i = k from by omega]
  exact c
theorem wvI_n {V : Mm} {l o i k : Int} (h0 : 0 ≤ i + k) (e : i = wvI V l o (i + k).toNat) (c : ¬ wvC (V 8 l) (V 8 o) (V 7 l 6) (V 7 o 6) i k) : i = wvI V l o (i + (k + 1)).toNat := by
  unfold wvI at e ⊢
  rw [show (i + (k + 1)).toNat = (i + k).toNat + 1 from by omega, wvS_n, ← e]
  rw [← e, show (((i + k).toNat : Nat) : Int) - i = k from by omega]
  exact c
theorem wvU_y {V : Mm} {l o i k : Int} {n : Nat} (hn : (n : Int) = i + k) (e : i = wvI V l o n) (c : wvC (V 8 l) (V 8 o) (V 7 l 6) (V 7 o 6) i k) : V 9 l i = wvU V l o (n : Int) := by
  unfold wvU
  rw [Int.toNat_natCast, ← e, show ((n : Nat) : Int) - i = k from by omega, if_pos c]
theorem wvU_n {V : Mm} {l o i k : Int} {n : Nat} (hn : (n : Int) = i + k) (e : i = wvI V l o n) (c : ¬ wvC (V 8 l) (V 8 o) (V 7 l 6) (V 7 o 6) i k) : V 9 o k = wvU V l o (n : Int) := by
  unfold wvU
  rw [Int.toNat_natCast, ← e, show ((n : Nat) : Int) - i = k from by omega, if_neg c]
theorem wvS_b (T S : Int → Int) {h g : Int} (h0 : 0 ≤ h) (g0 : 0 ≤ g) : ∀ n : Nat, (n : Int) ≤ h + g → (0 ≤ wvS T S h g n ∧ wvS T S h g n ≤ h) ∧ 0 ≤ (n : Int) - wvS T S h g n ∧ (n : Int) - wvS T S h g n ≤ g
  | 0, _ => by
    have e : wvS T S h g 0 = 0 := rfl
    rw [e]
    omega
  | n + 1, q => by
    have ih := wvS_b T S h0 g0 n (by omega)
    by_cases c : wvC T S h g (wvS T S h g n) ((n : Int) - wvS T S h g n)
    · rw [wvS_y c]
      unfold wvC at c
      omega
    · rw [wvS_n c]
      unfold wvC at c
      omega
theorem wvU_b {V : Mm} {l o : Int} (hl : 0 ≤ V 7 l 6 ∧ V 7 l 6 ≤ 120) (ho : 0 ≤ V 7 o 6 ∧ V 7 o 6 ≤ 120) (bl : ∀ y : Int, 0 ≤ y → y ≤ 120 → -1000 ≤ V 9 l y ∧ V 9 l y ≤ 1000) (bo : ∀ y : Int, 0 ≤ y → y ≤ 120 → -1000 ≤ V 9 o y ∧ V 9 o y ≤ 1000) {j : Int} (j0 : 0 ≤ j) (j1 : j ≤ V 7 l 6 + V 7 o 6) : -1000 ≤ wvU V l o j ∧ wvU V l o j ≤ 1000 := by
  have b := wvS_b (V 8 l) (V 8 o) hl.1 ho.1 j.toNat (by omega)
  unfold wvU
  split
  · exact bl _ b.1.1 (by unfold wvI; omega)
  · exact bo _ (by unfold wvI; omega) (by unfold wvI; omega)
-- SESSIONS
theorem sst_y {T : Int → Int} {g s i : Int} (h : 0 ≤ i) (c : i = 0 ∨ wr (T i - T (i - 1)) > g) : (sst T g s (i + 1).toNat).1 = (sst T g s i.toNat).1 + 1 ∧ ((sst T g s i.toNat).1 = s → (sst T g s i.toNat).2.2 = 0 → (sst T g s (i + 1).toNat).2.1 = i) ∧ (¬ ((sst T g s i.toNat).1 = s ∧ (sst T g s i.toNat).2.2 = 0) → (sst T g s (i + 1).toNat).2.1 = (sst T g s i.toNat).2.1) ∧ ((sst T g s i.toNat).1 = s → (sst T g s (i + 1).toNat).2.2 = (sst T g s i.toNat).2.2 + 1) ∧ ((sst T g s i.toNat).1 ≠ s → (sst T g s (i + 1).toNat).2.2 = (sst T g s i.toNat).2.2) := by
  obtain ⟨n, rfl⟩ := Int.eq_ofNat_of_zero_le h
  have e : ((n : Int) + 1).toNat = n + 1 := by omega
  rw [e, Int.toNat_natCast]
  have c2 : n = 0 ∨ wr (T n - T (n - 1)) > g := by rcases c with q | q; exact Or.inl (by omega); exact Or.inr q
  have d : sst T g s (n + 1) = ((sst T g s n).1 + 1, if (sst T g s n).1 + 1 - 1 = s ∧ (sst T g s n).2.2 = 0 then (n : Int) else (sst T g s n).2.1, if (sst T g s n).1 + 1 - 1 = s then (sst T g s n).2.2 + 1 else (sst T g s n).2.2) := by
    show ((if n = 0 ∨ wr (T n - T (n - 1)) > g then (sst T g s n).1 + 1 else (sst T g s n).1), _, _) = _
    simp only [if_pos c2]
  rw [d, show (sst T g s n).1 + 1 - 1 = (sst T g s n).1 from by omega]
  exact ⟨rfl, fun a b => if_pos ⟨a, b⟩, fun q => if_neg q, fun a => if_pos a, fun a => if_neg a⟩
theorem sst_n {T : Int → Int} {g s i : Int} (h : 0 ≤ i) (c : ¬ (i = 0 ∨ wr (T i - T (i - 1)) > g)) : (sst T g s (i + 1).toNat).1 = (sst T g s i.toNat).1 ∧ ((sst T g s i.toNat).1 - 1 = s → (sst T g s i.toNat).2.2 = 0 → (sst T g s (i + 1).toNat).2.1 = i) ∧ (¬ ((sst T g s i.toNat).1 - 1 = s ∧ (sst T g s i.toNat).2.2 = 0) → (sst T g s (i + 1).toNat).2.1 = (sst T g s i.toNat).2.1) ∧ ((sst T g s i.toNat).1 - 1 = s → (sst T g s (i + 1).toNat).2.2 = (sst T g s i.toNat).2.2 + 1) ∧ ((sst T g s i.toNat).1 - 1 ≠ s → (sst T g s (i + 1).toNat).2.2 = (sst T g s i.toNat).2.2) := by
  obtain ⟨n, rfl⟩ := Int.eq_ofNat_of_zero_le h
  have e : ((n : Int) + 1).toNat = n + 1 := by omega
  rw [e, Int.toNat_natCast]
  have c2 : ¬ (n = 0 ∨ wr (T n - T (n - 1)) > g) := fun q => c (by rcases q with q | q; exact Or.inl (by omega); exact Or.inr q)
  have d : sst T g s (n + 1) = ((sst T g s n).1, if (sst T g s n).1 - 1 = s ∧ (sst T g s n).2.2 = 0 then (n : Int) else (sst T g s n).2.1, if (sst T g s n).1 - 1 = s then (sst T g s n).2.2 + 1 else (sst T g s n).2.2) := by
    show ((if n = 0 ∨ wr (T n - T (n - 1)) > g then (sst T g s n).1 + 1 else (sst T g s n).1), _, _) = _
    simp only [if_neg c2]
  rw [d]
  exact ⟨rfl, fun a b => if_pos ⟨a, b⟩, fun q => if_neg q, fun a => if_pos a, fun a => if_neg a⟩
/-- what always holds of SESSIONS seen one by one -/
theorem sst_b {T : Int → Int} {g s : Int} (hs : 0 ≤ s) : ∀ n : Nat, (0 ≤ (sst T g s n).1 ∧ (sst T g s n).1 ≤ n) ∧ 0 ≤ (sst T g s n).2.1 ∧ 0 ≤ (sst T g s n).2.2 ∧ (sst T g s n).2.1 + (sst T g s n).2.2 ≤ n ∧ ((sst T g s n).1 - 1 < s → (sst T g s n).2.2 = 0) ∧ ((sst T g s n).1 - 1 = s → 1 ≤ (sst T g s n).2.2 ∧ (sst T g s n).2.1 + (sst T g s n).2.2 = n) ∧ (n ≠ 0 → 1 ≤ (sst T g s n).1)
  | 0 => by
    have e : sst T g s 0 = (0, 0, 0) := rfl
    rw [e]
    dsimp only
    omega
  | n + 1 => by
    have ih := sst_b (T := T) (g := g) hs n
    by_cases c : (n : Int) = 0 ∨ wr (T n - T (n - 1)) > g
    · have q := sst_y (s := s) (show (0 : Int) ≤ n by omega) c
      rw [show ((n : Int) + 1).toNat = n + 1 from by omega, Int.toNat_natCast] at q
      omega
    · have q := sst_n (s := s) (show (0 : Int) ≤ n by omega) c
      rw [show ((n : Int) + 1).toNat = n + 1 from by omega, Int.toNat_natCast] at q
      omega
-- the fewest neighbours, seen from one event on after another
def ShP (q : Int → Int → Prop) (h f n i : Int) : Prop := (n = h + 1 ∧ i = -1 ∧ ∀ a m : Int, 0 ≤ a → a < f → 1 ≤ m → a + m ≤ h → ¬ q a m) ∨ ((1 ≤ n ∧ 0 ≤ i ∧ i < f ∧ i + n ≤ h) ∧ q i n ∧ (∀ a m : Int, 0 ≤ a → a < f → 1 ≤ m → a + m ≤ h → m < n → ¬ q a m) ∧ ∀ a : Int, 0 ≤ a → a < i → ¬ q a n)
theorem ShP.zero {q : Int → Int → Prop} {h n : Int} (e : n = h + 1) : ShP q h 0 n (-1) := Or.inl ⟨e, rfl, fun a m a0 a1 => by omega⟩
theorem ShP.next {q : Int → Int → Prop} {h f n i : Int} (p : ShP q h f n i) (e : ∀ m : Int, 1 ≤ m → m < n → f + m ≤ h → ¬ q f m) (hf : 0 ≤ f) : ShP q h (f + 1) n i := by
  rcases p with ⟨p1, p2, p3⟩ | ⟨p1, p2, p3, p4⟩
  · refine Or.inl ⟨p1, p2, fun a m a0 a1 m1 am => ?_⟩
    by_cases z : a = f
    · subst z; exact e m m1 (by omega) am
    · exact p3 a m a0 (by omega) m1 am
  · refine Or.inr ⟨by omega, p2, fun a m a0 a1 m1 am mn => ?_, p4⟩
    by_cases z : a = f
    · subst z; exact e m m1 mn am
    · exact p3 a m a0 (by omega) m1 am mn
theorem ShP.hit {q : Int → Int → Prop} {h f n i m : Int} (p : ShP q h f n i) (hm : 1 ≤ m) (hn : m < n) (hh : f + m ≤ h) (hf : 0 ≤ f) (hq : q f m) (e : ∀ k : Int, 1 ≤ k → k < m → ¬ q f k) : ShP q h (f + 1) m f := by
  have old : ∀ a k : Int, 0 ≤ a → a < f → 1 ≤ k → a + k ≤ h → k < n → ¬ q a k := fun a k a0 a1 k1 ak kn => by
    rcases p with ⟨p1, p2, p3⟩ | ⟨p1, p2, p3, p4⟩
    · exact p3 a k a0 a1 k1 ak
    · exact p3 a k a0 a1 k1 ak kn
  refine Or.inr ⟨by omega, hq, fun a k a0 a1 k1 ak km => ?_, fun a a0 a1 => old a m a0 a1 hm (by omega) hn⟩
  by_cases z : a = f
  · subst z; exact e k k1 km
  · exact old a k a0 (by omega) k1 ak (by omega)
theorem ShP.done {q : Int → Int → Prop} {h f n i : Int} (p : ShP q h f n i) (hf : f = h) : ShB q h n i := by
  rcases p with ⟨p1, p2, p3⟩ | ⟨p1, p2, p3, p4⟩
  · exact Or.inl ⟨p1, p2, fun a m a0 m1 am => p3 a m a0 (by omega) m1 am⟩
  · exact Or.inr ⟨by omega, p2, fun a m a0 m1 am mn => p3 a m a0 (by omega) m1 am mn, p4⟩
theorem ShP.b {q : Int → Int → Prop} {h f n i : Int} (p : ShP q h f n i) (h0 : 0 ≤ h) : 1 ≤ n ∧ n ≤ h + 1 ∧ -1 ≤ i ∧ i ≤ h := by
  rcases p with ⟨p1, p2, p3⟩ | ⟨p1, p2, p3, p4⟩ <;> omega
-- windows
theorem wnR_I {f : Int → Int} {a b i : Int} (h : 0 ≤ i) : wnR f a b (i + 1).toNat = wnR f a b i.toNat + (if f i ≠ NO ∧ a ≤ f i ∧ f i ≤ b then 1 else 0) := by
  obtain ⟨n, rfl⟩ := Int.eq_ofNat_of_zero_le h
  rw [show ((n : Int) + 1).toNat = n + 1 from by omega, Int.toNat_natCast]
  rfl
theorem wnS_I {V : Mm} {l w a b i : Int} (h : 0 ≤ i) : wnS V l w a b (i + 1).toNat = wnS V l w a b i.toNat + wnR (fun k => ptV V l i (i + k + 1) w) a b (V 7 l 6 - i).toNat := by
  obtain ⟨n, rfl⟩ := Int.eq_ofNat_of_zero_le h
  rw [show ((n : Int) + 1).toNat = n + 1 from by omega, Int.toNat_natCast]
  rfl
theorem wnR_b (f : Int → Int) (a b : Int) : ∀ n : Nat, 0 ≤ wnR f a b n ∧ wnR f a b n ≤ n
  | 0 => ⟨Int.le_refl _, Int.le_refl _⟩
  | n + 1 => by
    have ih := wnR_b f a b n
    have e : wnR f a b (n + 1) = wnR f a b n + (if f n ≠ NO ∧ a ≤ f n ∧ f n ≤ b then 1 else 0) := rfl
    rw [e]
    split <;> omega
theorem wnS_b {V : Mm} {l w a b : Int} (h : V 7 l 6 ≤ 120) : ∀ n : Nat, 0 ≤ wnS V l w a b n ∧ wnS V l w a b n ≤ 120 * n
  | 0 => ⟨Int.le_refl _, Int.le_refl _⟩
  | n + 1 => by
    have ih := wnS_b (w := w) (a := a) (b := b) h n
    have e : wnS V l w a b (n + 1) = wnS V l w a b n + wnR (fun k => ptV V l n (n + k + 1) w) a b (V 7 l 6 - n).toNat := rfl
    have q := wnR_b (fun k => ptV V l n (n + k + 1) w) a b (V 7 l 6 - n).toNat
    rw [e]
    omega
-- numbers noted
def NT (σ : Mm) (o : Int) (u : Int → Int) (n : Nat) : Prop := σ 14 0 4 = (n : Int) ∧ ∀ k : Int, 0 ≤ k → k < numF o → σ 18 0 k = cmN (σ 16 0) (σ 15 0) o u n k
theorem NT.e {σ ρ : Mm} {o : Int} {u : Int → Int} {n : Nat} (h : NT σ o u n) (h14 : ρ 14 0 4 = σ 14 0 4) (h18 : ∀ k : Int, ρ 18 0 k = σ 18 0 k) (h16 : ρ 16 0 = σ 16 0) (h15 : ρ 15 0 = σ 15 0) : NT ρ o u n := ⟨h14.trans h.1, fun k a b => by rw [h18, h16, h15]; exact h.2 k a b⟩
-- counting
theorem idiv_fr {a b : Int} (ha : 0 ≤ a) (hb : 0 < b) : 0 ≤ a / b ∧ a / b ≤ a := ⟨Int.ediv_nonneg ha (by omega), Int.ediv_le_self b ha⟩
theorem pnN_I {T : Int → Int} {w i : Int} (h : 0 ≤ i) : pnN T w (i + 1).toNat = pnN T w i.toNat + (if i = 0 ∨ T i / w ≠ T (i - 1) / w then 1 else 0) := by
  obtain ⟨n, rfl⟩ := Int.eq_ofNat_of_zero_le h
  rw [show ((n : Int) + 1).toNat = n + 1 from by omega, Int.toNat_natCast]
  show pnN T w n + (if n = 0 ∨ T n / w ≠ T (n - 1) / w then 1 else 0) = _
  by_cases z : n = 0
  · rw [if_pos (Or.inl z), if_pos (Or.inl (by omega))]
  · by_cases q : T n / w ≠ T (n - 1) / w
    · rw [if_pos (Or.inr q), if_pos (Or.inr q)]
    · rw [if_neg (by rintro (a | a); exact z a; exact q a), if_neg (by rintro (a | a); omega; exact q a)]
theorem ssN_I {T : Int → Int} {g i : Int} (h : 0 ≤ i) : ssN T g (i + 1).toNat = ssN T g i.toNat + (if i = 0 ∨ wr (T i - T (i - 1)) > g then 1 else 0) := by
  obtain ⟨n, rfl⟩ := Int.eq_ofNat_of_zero_le h
  rw [show ((n : Int) + 1).toNat = n + 1 from by omega, Int.toNat_natCast]
  show ssN T g n + (if n = 0 ∨ wr (T n - T (n - 1)) > g then 1 else 0) = _
  by_cases z : n = 0
  · rw [if_pos (Or.inl z), if_pos (Or.inl (by omega))]
  · by_cases q : wr (T n - T (n - 1)) > g
    · rw [if_pos (Or.inr q), if_pos (Or.inr q)]
    · rw [if_neg (by rintro (a | a); exact z a; exact q a), if_neg (by rintro (a | a); omega; exact q a)]
theorem flN_I {T : Int → Int} {w i : Int} (h : 0 ≤ i) : flN T w (i + 1).toNat = (let q := flN T w i.toNat; let c := if i ≠ 0 ∧ T i / w = T (i - 1) / w then q.1 + 1 else 1; (c, if c > q.2.1 then c else q.2.1, if c > q.2.1 then T i / w else q.2.2)) := by
  obtain ⟨n, rfl⟩ := Int.eq_ofNat_of_zero_le h
  rw [show ((n : Int) + 1).toNat = n + 1 from by omega, Int.toNat_natCast]
  have e : (if n ≠ 0 ∧ T n / w = T (n - 1) / w then (flN T w n).1 + 1 else 1) = (if (n : Int) ≠ 0 ∧ T n / w = T (n - 1) / w then (flN T w n).1 + 1 else 1) := by
    by_cases q : n ≠ 0 ∧ T n / w = T (n - 1) / w
    · rw [if_pos q, if_pos ⟨by omega, q.2⟩]
    · rw [if_neg q, if_neg (fun z => q ⟨by omega, z.2⟩)]
  show ((if n ≠ 0 ∧ T n / w = T (n - 1) / w then (flN T w n).1 + 1 else 1), _, _) = _
  simp only [e]
theorem loN_I {T : Int → Int} {g i : Int} (h : 0 ≤ i) : loN T g (i + 1).toNat = (let q := loN T g i.toNat; let c := if i = 0 ∨ wr (T i - T (i - 1)) > g then q.1 + 1 else q.1; let m := if i = 0 ∨ wr (T i - T (i - 1)) > g then 1 else q.2.1 + 1; (c, m, if m > q.2.2.1 then m else q.2.2.1, if m > q.2.2.1 then c - 1 else q.2.2.2)) := by
  obtain ⟨n, rfl⟩ := Int.eq_ofNat_of_zero_le h
  rw [show ((n : Int) + 1).toNat = n + 1 from by omega, Int.toNat_natCast]
  have e : (if n = 0 ∨ wr (T n - T (n - 1)) > g then (loN T g n).1 + 1 else (loN T g n).1) = (if (n : Int) = 0 ∨ wr (T n - T (n - 1)) > g then (loN T g n).1 + 1 else (loN T g n).1) := by
    by_cases q : n = 0 ∨ wr (T n - T (n - 1)) > g
    · rw [if_pos q, if_pos (by rcases q with q | q; exact Or.inl (by omega); exact Or.inr q)]
    · rw [if_neg q, if_neg (by rintro (z | z); exact q (Or.inl (by omega)); exact q (Or.inr z))]
  have e2 : (if n = 0 ∨ wr (T n - T (n - 1)) > g then 1 else (loN T g n).2.1 + 1) = (if (n : Int) = 0 ∨ wr (T n - T (n - 1)) > g then 1 else (loN T g n).2.1 + 1) := by
    by_cases q : n = 0 ∨ wr (T n - T (n - 1)) > g
    · rw [if_pos q, if_pos (by rcases q with q | q; exact Or.inl (by omega); exact Or.inr q)]
    · rw [if_neg q, if_neg (by rintro (z | z); exact q (Or.inl (by omega)); exact q (Or.inr z))]
  show ((if n = 0 ∨ wr (T n - T (n - 1)) > g then (loN T g n).1 + 1 else (loN T g n).1), (if n = 0 ∨ wr (T n - T (n - 1)) > g then 1 else (loN T g n).2.1 + 1), _, _) = _
  simp only [e, e2]
-- B: what is asked: bests, and rows of like ones gone over at once
def BestP (f : Int → Int) (n a b : Int) : Prop := (0 ≤ a ∧ a < n) ∧ b = f a ∧ (∀ i : Int, 0 ≤ i → i < a → f i < f a) ∧ ∀ i : Int, a ≤ i → i < n → f i ≤ f a
theorem BestP.one {f : Int → Int} {b : Int} (h : b = f 0) : BestP f 1 0 b := ⟨by omega, h, fun i a c => by omega, fun i a c => by have e : i = 0 := (by omega); subst e; exact Int.le_refl _⟩
theorem BestP.no {f : Int → Int} {n a b : Int} (p : BestP f n a b) (h : f n ≤ b) : BestP f (n + 1) a b := by
  obtain ⟨p1, p2, p3, p4⟩ := p
  refine ⟨by omega, p2, p3, fun i c d => ?_⟩
  by_cases e : i = n
  · subst e; omega
  · exact p4 i c (by omega)
theorem BestP.yes {f : Int → Int} {n a b : Int} (p : BestP f n a b) (h : b < f n) : BestP f (n + 1) n (f n) := by
  obtain ⟨p1, p2, p3, p4⟩ := p
  refine ⟨by omega, rfl, fun i c d => ?_, fun i c d => by have e : i = n := (by omega); subst e; exact Int.le_refl _⟩
  by_cases e : i < a
  · have := p3 i c e
    omega
  · have := p4 i (by omega) d
    omega
theorem BestP.done {f : Int → Int} {n a b N : Int} (p : BestP f n a b) (h : n = N + 1) : Best f N a := ⟨⟨p.1.1, by have := p.1.2; omega⟩, p.2.2.1, fun i c d => p.2.2.2 i c (by omega)⟩
/-- as the class sees it: nothing yet, or a best one -/
def BestQ (f : Int → Int) (n a b : Int) : Prop := (n = 0 ∧ a = 0 ∧ b = NO) ∨ BestP f n a b
theorem BestQ.no {f : Int → Int} {n a b : Int} (p : BestQ f n a b) (h : f n ≤ b) (hr : NO ≤ f n) : BestQ f (n + 1) a b := by
  rcases p with ⟨rfl, rfl, rfl⟩ | p
  · exact Or.inr (BestP.one (by omega))
  · exact Or.inr (p.no h)
theorem BestQ.yes {f : Int → Int} {n a b : Int} (p : BestQ f n a b) (h : b < f n) : BestQ f (n + 1) n (f n) := by
  rcases p with ⟨rfl, rfl, rfl⟩ | p
  · exact Or.inr (BestP.one rfl)
  · exact Or.inr (p.yes h)
theorem BestQ.done {f : Int → Int} {n a b N : Int} (p : BestQ f n a b) (h : n = N + 1) (hN : 0 ≤ N) : Best f N a := by
  rcases p with p | p
  · omega
  · exact p.done h
-- PANES
abbrev pnB (T : Int → Int) (w i : Int) : Prop := i = 0 ∨ T i / w ≠ T (i - 1) / w
def paneR (T : Int → Int) (w h i r : Int) : Prop := (1 ≤ r ∧ i + r ≤ h) ∧ (∀ j : Int, i ≤ j → j < i + r → T j / w = T i / w) ∧ (i + r < h → T (i + r) / w ≠ T i / w)
theorem paneR.next {T : Int → Int} {w h i r : Int} (p : paneR T w h i r) (q : i + r < h) : pnB T w (i + r) := Or.inr (by
  rw [p.2.1 (i + r - 1) (by have := p.1.1; omega) (by omega)]
  exact p.2.2 q)
theorem pn_run {T : Int → Int} {w h i : Int} (h0 : 0 ≤ i) (b : pnB T w i) {r : Int} (p : paneR T w h i r) : pnN T w (i + r).toNat = pnN T w i.toNat + 1 := by
  have key : ∀ c : Nat, (c : Int) + 1 ≤ r → pnN T w (i + (c + 1)).toNat = pnN T w i.toNat + 1 := fun c => by
    induction c with
    | zero =>
      intro _
      rw [show i + (((0 : Nat) : Int) + 1) = i + 1 from by omega, pnN_I h0, if_pos b]
    | succ c ih =>
      intro q
      rw [show i + (((c + 1 : Nat) : Int) + 1) = (i + (c + 1)) + 1 from by omega, pnN_I (by omega), ih (by omega)]
      have a1 := p.2.1 (i + (c + 1)) (by omega) (by omega)
      have a2 := p.2.1 (i + (c + 1) - 1) (by omega) (by omega)
      rw [if_neg (by rintro (z | z); omega; exact z (a1.trans a2.symm))]
      omega
  have := key (r - 1).toNat (by have := p.1.1; omega)
  rw [show i + (((r - 1).toNat : Int) + 1) = i + r from by have := p.1.1; omega] at this
  exact this
theorem fl_run {T : Int → Int} {w h i : Int} (h0 : 0 ≤ i) (b : pnB T w i) {r : Int} (p : paneR T w h i r) (hm : 0 ≤ (flN T w i.toNat).2.1) : flN T w (i + r).toNat = (r, if r > (flN T w i.toNat).2.1 then r else (flN T w i.toNat).2.1, if r > (flN T w i.toNat).2.1 then T i / w else (flN T w i.toNat).2.2) := by
  have key : ∀ c : Nat, (c : Int) + 1 ≤ r → flN T w (i + (c + 1)).toNat = ((c : Int) + 1, if (c : Int) + 1 > (flN T w i.toNat).2.1 then (c : Int) + 1 else (flN T w i.toNat).2.1, if (c : Int) + 1 > (flN T w i.toNat).2.1 then T i / w else (flN T w i.toNat).2.2) := fun c => by
    induction c with
    | zero =>
      intro _
      rw [show i + (((0 : Nat) : Int) + 1) = i + 1 from by omega, flN_I h0]
      have nb : ¬ (i ≠ 0 ∧ T i / w = T (i - 1) / w) := fun z => by rcases b with q | q; exact z.1 q; exact q z.2
      simp only [if_neg nb]
      rfl
    | succ c ih =>
      intro q
      rw [show i + (((c + 1 : Nat) : Int) + 1) = (i + (c + 1)) + 1 from by omega, flN_I (by omega), ih (by omega)]
      have a1 := p.2.1 (i + (c + 1)) (by omega) (by omega)
      have a2 := p.2.1 (i + (c + 1) - 1) (by omega) (by omega)
      have yb : i + (↑c + 1) ≠ 0 ∧ T (i + (c + 1)) / w = T (i + (c + 1) - 1) / w := ⟨by omega, a1.trans a2.symm⟩
      dsimp only
      simp only [if_pos yb]
      simp only [a1, show ((c + 1 : Nat) : Int) = (c : Int) + 1 from by omega]
      by_cases z : (c : Int) + 1 > (flN T w i.toNat).2.1
      · simp only [if_pos z, if_pos (show (c : Int) + 1 + 1 > (flN T w i.toNat).2.1 by omega), if_pos (show (c : Int) + 1 + 1 > (c : Int) + 1 by omega)]
      · simp only [if_neg z]
  have := key (r - 1).toNat (by have := p.1.1; omega)
  rw [show i + (((r - 1).toNat : Int) + 1) = i + r from by have := p.1.1; omega, show (((r - 1).toNat : Int) + 1) = r from by have := p.1.1; omega] at this
  exact this
theorem flN_b {T : Int → Int} {w : Int} : ∀ n : Nat, (0 ≤ (flN T w n).1 ∧ (flN T w n).1 ≤ n) ∧ 0 ≤ (flN T w n).2.1 ∧ (flN T w n).2.1 ≤ n
  | 0 => by
    have e : flN T w 0 = (0, 0, -1) := rfl
    rw [e]
    dsimp only
    omega
  | n + 1 => by
    have ih := flN_b (T := T) (w := w) n
    have e := flN_I (T := T) (w := w) (show (0 : Int) ≤ n by omega)
    rw [show ((n : Int) + 1).toNat = n + 1 from by omega, Int.toNat_natCast] at e
    rw [e]
    dsimp only
    (repeat' split) <;> omega
-- SESSIONS
abbrev ssB (T : Int → Int) (g i : Int) : Prop := i = 0 ∨ wr (T i - T (i - 1)) > g
def sesR (T : Int → Int) (g h i r : Int) : Prop := (1 ≤ r ∧ i + r ≤ h) ∧ (∀ j : Int, i < j → j < i + r → ¬ wr (T j - T (j - 1)) > g) ∧ (i + r < h → wr (T (i + r) - T (i + r - 1)) > g)
theorem sesR.next {T : Int → Int} {g h i r : Int} (p : sesR T g h i r) (q : i + r < h) : ssB T g (i + r) := Or.inr (p.2.2 q)
theorem ss_run {T : Int → Int} {g h i : Int} (h0 : 0 ≤ i) (b : ssB T g i) {r : Int} (p : sesR T g h i r) : ssN T g (i + r).toNat = ssN T g i.toNat + 1 := by
  have key : ∀ c : Nat, (c : Int) + 1 ≤ r → ssN T g (i + (c + 1)).toNat = ssN T g i.toNat + 1 := fun c => by
    induction c with
    | zero =>
      intro _
      rw [show i + (((0 : Nat) : Int) + 1) = i + 1 from by omega, ssN_I h0, if_pos b]
    | succ c ih =>
      intro q
      rw [show i + (((c + 1 : Nat) : Int) + 1) = (i + (c + 1)) + 1 from by omega, ssN_I (by omega), ih (by omega)]
      have a1 := p.2.1 (i + (c + 1)) (by omega) (by omega)
      rw [if_neg (by rintro (z | z); omega; exact a1 z)]
      omega
  have := key (r - 1).toNat (by have := p.1.1; omega)
  rw [show i + (((r - 1).toNat : Int) + 1) = i + r from by have := p.1.1; omega] at this
  exact this
theorem lo_run {T : Int → Int} {g h i : Int} (h0 : 0 ≤ i) (b : ssB T g i) {r : Int} (p : sesR T g h i r) (hm : 0 ≤ (loN T g i.toNat).2.2.1) : loN T g (i + r).toNat = ((loN T g i.toNat).1 + 1, r, if r > (loN T g i.toNat).2.2.1 then r else (loN T g i.toNat).2.2.1, if r > (loN T g i.toNat).2.2.1 then (loN T g i.toNat).1 else (loN T g i.toNat).2.2.2) := by
  have key : ∀ c : Nat, (c : Int) + 1 ≤ r → loN T g (i + (c + 1)).toNat = ((loN T g i.toNat).1 + 1, (c : Int) + 1, if (c : Int) + 1 > (loN T g i.toNat).2.2.1 then (c : Int) + 1 else (loN T g i.toNat).2.2.1, if (c : Int) + 1 > (loN T g i.toNat).2.2.1 then (loN T g i.toNat).1 else (loN T g i.toNat).2.2.2) := fun c => by
    induction c with
    | zero =>
      intro _
      rw [show i + (((0 : Nat) : Int) + 1) = i + 1 from by omega, loN_I h0]
      simp only [if_pos b, show (loN T g i.toNat).1 + 1 - 1 = (loN T g i.toNat).1 from by omega]
      rfl
    | succ c ih =>
      intro q
      rw [show i + (((c + 1 : Nat) : Int) + 1) = (i + (c + 1)) + 1 from by omega, loN_I (by omega), ih (by omega)]
      have a1 := p.2.1 (i + (c + 1)) (by omega) (by omega)
      have nb : ¬ (i + (↑c + 1) = 0 ∨ wr (T (i + (c + 1)) - T (i + (c + 1) - 1)) > g) := by rintro (z | z); omega; exact a1 z
      simp only [if_neg nb, show ((c + 1 : Nat) : Int) = (c : Int) + 1 from by omega, show (loN T g i.toNat).1 + 1 - 1 = (loN T g i.toNat).1 from by omega]
      by_cases z : (c : Int) + 1 > (loN T g i.toNat).2.2.1
      · simp only [if_pos z, if_pos (show (c : Int) + 1 + 1 > (loN T g i.toNat).2.2.1 by omega), if_pos (show (c : Int) + 1 + 1 > (c : Int) + 1 by omega)]
      · simp only [if_neg z]
  have := key (r - 1).toNat (by have := p.1.1; omega)
  rw [show i + (((r - 1).toNat : Int) + 1) = i + r from by have := p.1.1; omega, show (((r - 1).toNat : Int) + 1) = r from by have := p.1.1; omega] at this
  exact this
theorem loN_b {T : Int → Int} {g : Int} : ∀ n : Nat, (0 ≤ (loN T g n).1 ∧ (loN T g n).1 ≤ n) ∧ (0 ≤ (loN T g n).2.1 ∧ (loN T g n).2.1 ≤ n) ∧ 0 ≤ (loN T g n).2.2.1 ∧ (loN T g n).2.2.1 ≤ n
  | 0 => by
    have e : loN T g 0 = (0, 0, 0, -1) := rfl
    rw [e]
    dsimp only
    omega
  | n + 1 => by
    have ih := loN_b (T := T) (g := g) n
    have e := loN_I (T := T) (g := g) (show (0 : Int) ≤ n by omega)
    rw [show ((n : Int) + 1).toNat = n + 1 from by omega, Int.toNat_natCast] at e
    rw [e]
    dsimp only
    (repeat' split) <;> omega
/-- one SESSION gone over -/
theorem st_run {T : Int → Int} {g s h i : Int} (hs : 0 ≤ s) (h0 : 0 ≤ i) (b : ssB T g i) {r : Int} (p : sesR T g h i r) : (sst T g s (i + r).toNat).1 = (sst T g s i.toNat).1 + 1 ∧ ((sst T g s i.toNat).1 = s → (sst T g s (i + r).toNat).2 = (i, r)) ∧ ((sst T g s i.toNat).1 ≠ s → (sst T g s (i + r).toNat).2 = (sst T g s i.toNat).2) := by
  have key : ∀ c : Nat, (c : Int) + 1 ≤ r → (sst T g s (i + (c + 1)).toNat).1 = (sst T g s i.toNat).1 + 1 ∧ ((sst T g s i.toNat).1 = s → (sst T g s (i + (c + 1)).toNat).2.1 = i ∧ (sst T g s (i + (c + 1)).toNat).2.2 = c + 1) ∧ ((sst T g s i.toNat).1 ≠ s → (sst T g s (i + (c + 1)).toNat).2.1 = (sst T g s i.toNat).2.1 ∧ (sst T g s (i + (c + 1)).toNat).2.2 = (sst T g s i.toNat).2.2) := fun c => by
    induction c with
    | zero =>
      intro _
      have q := sst_y (s := s) h0 b
      have z := sst_b (T := T) (g := g) hs i.toNat
      rw [show i + (((0 : Nat) : Int) + 1) = i + 1 from by omega]
      omega
    | succ c ih =>
      intro q
      have ih := ih (by omega)
      have a1 := p.2.1 (i + (c + 1)) (by omega) (by omega)
      have st := sst_n (T := T) (g := g) (s := s) (i := i + (c + 1)) (by omega) (by rintro (z | z); omega; exact a1 z)
      rw [show i + (((c + 1 : Nat) : Int) + 1) = (i + (c + 1)) + 1 from by omega]
      omega
  have q := key (r - 1).toNat (by have := p.1.1; omega)
  rw [show i + (((r - 1).toNat : Int) + 1) = i + r from by have := p.1.1; omega, show (((r - 1).toNat : Int) + 1) = r from by have := p.1.1; omega] at q
  exact ⟨q.1, fun z => Prod.ext (q.2.1 z).1 (q.2.1 z).2, fun z => Prod.ext (q.2.2 z).1 (q.2.2 z).2⟩
theorem sst_past {T : Int → Int} {g s i : Int} (h0 : 0 ≤ i) (hp : (sst T g s i.toNat).1 - 1 > s) : ∀ k : Nat, (sst T g s (i + k).toNat).1 - 1 > s ∧ (sst T g s (i + k).toNat).2.1 = (sst T g s i.toNat).2.1 ∧ (sst T g s (i + k).toNat).2.2 = (sst T g s i.toNat).2.2
  | 0 => by
    rw [show i + ((0 : Nat) : Int) = i from by omega]
    exact ⟨hp, rfl, rfl⟩
  | k + 1 => by
    have ih := sst_past h0 hp k
    rw [show i + ((k + 1 : Nat) : Int) = i + k + 1 from by omega]
    by_cases c : i + k = 0 ∨ wr (T (i + k) - T (i + k - 1)) > g
    · have q := sst_y (s := s) (show 0 ≤ i + k by omega) c
      omega
    · have q := sst_n (s := s) (show 0 ≤ i + k by omega) c
      omega
/-- the SESSION asked for, gone over: nothing behind it changes it -/
theorem st_fin {T : Int → Int} {g s h i : Int} (hs : 0 ≤ s) (h0 : 0 ≤ i) (b : ssB T g i) (hn : (sst T g s i.toNat).1 = s) {r : Int} (p : sesR T g h i r) : (sst T g s h.toNat).2 = (i, r) := by
  have q := st_run hs h0 b p
  have q2 := q.2.1 hn
  by_cases z : i + r = h
  · rw [← z]; exact q2
  · have p1 := p.1
    have st := sst_y (T := T) (g := g) (s := s) (i := i + r) (by omega) (Or.inr (p.2.2 (by omega)))
    have e1 : (sst T g s (i + r).toNat).2.1 = i := by rw [q2]
    have e2 : (sst T g s (i + r).toNat).2.2 = r := by rw [q2]
    have z2 := sst_past (T := T) (g := g) (s := s) (i := i + r + 1) (by omega) (by omega) (h - (i + r + 1)).toNat
    rw [show i + r + 1 + (((h - (i + r + 1)).toNat : Nat) : Int) = h from by omega] at z2
    exact Prod.ext (by omega) (by omega)
-- B: what is asked of all together
def htN (V : Mm) : Nat → Int
  | 0 => 0
  | n + 1 => if V 7 n 1 = 1 then htN V n + V 7 n 6 else htN V n
def spN (V : Mm) : Nat → Int
  | 0 => 0
  | n + 1 => if V 7 n 1 = 1 then wr (spN V n + V 11 n 5) else spN V n
def wcN (V : Mm) : Nat → Int
  | 0 => 0
  | n + 1 => if V 12 n 0 ≠ -1 then wcN V n + 1 else wcN V n
def bxN (V : Mm) : Nat → Int
  | 0 => 0
  | n + 1 => if V 7 (n + 4) 1 = 1 then bxN V n + 1 else bxN V n
def rgN (V : Mm) : Nat → Int
  | 0 => 0
  | n + 1 => if V 12 n 0 ≠ -1 then wr (rgN V n + V 12 n 4) else rgN V n
def lnN (V : Mm) : Nat → Int
  | 0 => 0
  | n + 1 => if V 13 n 0 ≠ -1 then lnN V n + 1 else lnN V n
def abR (V : Mm) (w : Int) : Int := if w = 0 then cntO V else if w = 1 then htN V 4 else if w = 2 then spN V 4 else if w = 3 then wcN V 8 else if w = 4 then bxN V 3 else if w = 5 then rgN V 8 else if w = 6 then lnN V 4 else -1
theorem htN_I {V : Mm} {i : Int} (h : 0 ≤ i) : htN V (i + 1).toNat = (if V 7 i 1 = 1 then htN V i.toNat + V 7 i 6 else htN V i.toNat) := by
  obtain ⟨n, rfl⟩ := Int.eq_ofNat_of_zero_le h
  rw [show ((n : Int) + 1).toNat = n + 1 from by omega, Int.toNat_natCast]
  rfl
theorem spN_I {V : Mm} {i : Int} (h : 0 ≤ i) : spN V (i + 1).toNat = (if V 7 i 1 = 1 then wr (spN V i.toNat + V 11 i 5) else spN V i.toNat) := by
  obtain ⟨n, rfl⟩ := Int.eq_ofNat_of_zero_le h
  rw [show ((n : Int) + 1).toNat = n + 1 from by omega, Int.toNat_natCast]
  rfl
theorem wcN_I {V : Mm} {i : Int} (h : 0 ≤ i) : wcN V (i + 1).toNat = (if V 12 i 0 ≠ -1 then wcN V i.toNat + 1 else wcN V i.toNat) := by
  obtain ⟨n, rfl⟩ := Int.eq_ofNat_of_zero_le h
  rw [show ((n : Int) + 1).toNat = n + 1 from by omega, Int.toNat_natCast]
  rfl
theorem bxN_I {V : Mm} {i : Int} (h : 0 ≤ i) : bxN V (i + 1).toNat = (if V 7 (i + 4) 1 = 1 then bxN V i.toNat + 1 else bxN V i.toNat) := by
  obtain ⟨n, rfl⟩ := Int.eq_ofNat_of_zero_le h
  rw [show ((n : Int) + 1).toNat = n + 1 from by omega, Int.toNat_natCast]
  rfl
theorem rgN_I {V : Mm} {i : Int} (h : 0 ≤ i) : rgN V (i + 1).toNat = (if V 12 i 0 ≠ -1 then wr (rgN V i.toNat + V 12 i 4) else rgN V i.toNat) := by
  obtain ⟨n, rfl⟩ := Int.eq_ofNat_of_zero_le h
  rw [show ((n : Int) + 1).toNat = n + 1 from by omega, Int.toNat_natCast]
  rfl
theorem lnN_I {V : Mm} {i : Int} (h : 0 ≤ i) : lnN V (i + 1).toNat = (if V 13 i 0 ≠ -1 then lnN V i.toNat + 1 else lnN V i.toNat) := by
  obtain ⟨n, rfl⟩ := Int.eq_ofNat_of_zero_le h
  rw [show ((n : Int) + 1).toNat = n + 1 from by omega, Int.toNat_natCast]
  rfl
-- B: the class: what is asked with a fold
theorem GI.fo {σ ρ : Mm} (h : GI σ) (e : ∀ c : Nat, ¬ Fo c → ρ c = σ c) : GI ρ := by
  refine ⟨h.1.to fun c x y q => by rw [e c (by omega)], h.2.1.to fun c x y q => by rw [e c (by omega)], fun l a b => ?_⟩
  rw [e 7 (by decide)]
  exact h.2.2 l a b
theorem x_reach_S {eb : Bool} {d : Nat} {P : Option Vl → Mm → Prop} {σ : Mm} {l w b : Int}  (hI : InF σ) (hG : GI σ)  (k : ∀ (r : Int) (ρ : Mm), reA σ l w b r → (∀ (c : Nat) (x y : Int), ¬ Fo c → ρ c x y = σ c x y) → InF ρ → P (some (vI r)) ρ) : WT (true, true, eb) (d + 5) 77 [vR 2 0, vI l, vI w, vI b] σ P := by
  refine WT_in fun K hK => ?_
  have hK : StpY (true, true, eb) cX5_reach RX5 (some .int) (WT (true, true, eb) (d + 4)) P K := hK
  have hM := hK.1
  have hC := hK.1.1
  show K 0 [some (vR 2 0), some (vI l), some (vI w), some (vI b), none, none] [] σ
  refine z_ok hM (fun hok => ?_)
  refine r_rngz hC (fun g0 => ?_)
  have r_l : -2147483648 ≤ l ∧ l ≤ 2147483647 := inR_le (g0 (vI l) (by simp))
  have r_w : -2147483648 ≤ w ∧ w ≤ 2147483647 := inR_le (g0 (vI w) (by simp))
  have r_b : -2147483648 ≤ b ∧ b ≤ 2147483647 := inR_le (g0 (vI b) (by simp))
  have hcl := hG.2.1.2.2.2.2.2.2.2
  have hrow := hG.2.1.2.2.1
  refine r_aload_n hC dX5_reach_0 rfl ?_
  refine r_iload_n hC dX5_reach_1 rfl ?_
  refine r_iload_n hC dX5_reach_2 rfl ?_
  refine z_inv2 hM dX5_reach_3 vl_RX5_248 rfl rfl rfl (Nat.le_of_ble_eq_true rfl) (Nat.le_of_ble_eq_true rfl) ?_
  refine x_laneWith (fun hl_3 => ?_) (fun hl_3 => ?_)
  · have h6_3 := hG.1.h7 (l := l) (by omega) (by omega)
    have hN_3 := numF_rng (σ 7 l 2)
    have hO_3 := (hG.2.1.2.2.2.1 l (by omega) (by omega)).2
    refine r_astore hC dX5_reach_6 rfl ?_
    refine r_aload hC dX5_reach_8 rfl ?_
    refine r_ifnonnullR (tgt := 15) hC dX5_reach_10 rfl ?_
    refine r_aload_n hC dX5_reach_15 rfl ?_
    refine z_getR hM dX5_reach_16 fl_RX5_40 rfl rfl (vld_of (n := 1) rfl (by omega) (by omega)) ?_
    refine r_aload hC dX5_reach_19 rfl ?_
    refine z_getI (jz := 2) hM dX5_reach_21 fl_RX5_98 rfl rfl rfl (fun v1 h_v1 o_v1 t_v1 => ?_)
    have w_v1 := ((t_v1 (Or.inl (by first | exact trivial | exact tb7_ (by decide) | simp [Tb]))).trans (rfl)).symm
    clear t_v1
    subst w_v1
    have q_v1 : 0 ≤ (σ 7 l 2) ∧ (σ 7 l 2) ≤ 9 := o_v1.2.2 rfl
    refine z_inv1 hM dX5_reach_24 vl_RX5_251 rfl rfl rfl (Nat.le_of_ble_eq_true rfl) (Nat.le_of_ble_eq_true rfl) ?_
    refine x_begin (by omega) rfl rfl rfl rfl rfl rfl rfl rfl rfl rfl (fun ρ2 g_ρ2 z_ρ2 => ?_)
    have t_ρ2 : ∀ (c : Nat) (p q : Int), ¬ Fo c → ρ2 c p q = σ c p q := fun c p q hc => (g_ρ2 c p q (by omega)).trans ((fun _ _ _ _ => rfl) c p q hc)
    refine r_iconst hC dX5_reach_27 rfl ?_
    refine r_istore hC dX5_reach_28 rfl ?_
    have L30 : ∀ (n30 : Nat) (w3 : Int) (ρ4 : Mm), 0 ≤ w3 ∧ w3 ≤ 121 → ((w3) ≤ σ 7 l 6) → (∀ n : Int, 1 ≤ n → n ≤ (w3) → ¬ rchV σ l 0 n w b) → 121 - w3 < (n30 : Int) → (∀ (c : Nat) (p q : Int), ¬ Fo c → ρ4 c p q = σ c p q) → (FRc ρ4 (σ 7 l 2) (fun j => σ 9 l (0 + j)) ((w3).toNat)) → K 30 [some (vR 2 0), some (vI l), some (vI w), some (vI b), some (vR 7 l), some (vI w3)] [] ρ4 := by
      intro n30
      induction n30 with
      | zero => intro w3 ρ4 f_w3 i0_30 i1_30 hm  m0_30 m1_30; omega
      | succ n30 ih30 =>
        intro w3 ρ4 f_w3 i0_30 i1_30 hm30  m0_30 m1_30
        refine r_iload hC dX5_reach_30 rfl ?_
        refine r_aload hC dX5_reach_32 rfl ?_
        refine z_getI (jz := 6) hM dX5_reach_34 fl_RX5_154 rfl rfl rfl (fun v5 h_v5 o_v5 t_v5 => ?_)
        have w_v5 := ((t_v5 (Or.inl (by first | exact trivial | exact tb7_ (by decide) | simp [Tb]))).trans (m0_30 7 l 6 (by decide))).symm
        clear t_v5
        subst w_v5
        have q_v5 : 0 ≤ (σ 7 l 6) ∧ (σ 7 l 6) ≤ 121 := o_v5.1 rfl
        refine r_icmp_ge (tgt := 78) hC dX5_reach_37 rfl (fun h6 => ?_) (fun h6 => ?_)
        · refine r_iconst hC dX5_reach_78 rfl ?_
          refine y_iret hK rfl dX5_reach_79 ?_
          have hA : reA σ l w b (-1) := by
            exact ⟨fun _ => rfl, fun _ => Or.inl ⟨rfl, fun n n0 n1 => i1_30 n n0 (by omega)⟩⟩
          exact k _ _ hA (m0_30) (FRc.inF m1_30 (fun j h0 h1 => by rw [m0_30 15 0 j (by decide)]; exact hcl j h0 h1))
        · refine r_aload_n hC dX5_reach_40 rfl ?_
          refine z_getR hM dX5_reach_41 fl_RX5_40 rfl rfl (vld_of (n := 1) rfl (by omega) (by omega)) ?_
          refine r_aload hC dX5_reach_44 rfl ?_
          refine z_getR hM dX5_reach_46 fl_RX5_176 rfl rfl (vld_of (n := 7) rfl (by omega) (by omega)) ?_
          refine r_iload hC dX5_reach_49 rfl ?_
          refine z_iald hM dX5_reach_51 rfl (by omega) (by omega) (fun v7 h_v7 o_v7 t_v7 => ?_)
          have w_v7 := ((t_v7 (Or.inl (by first | exact trivial | exact tb7_ (by decide) | simp [Tb]))).trans (m0_30 9 l w3 (by decide))).symm
          clear t_v7
          subst w_v7
          have q_v7 : -1000 ≤ (σ 9 l w3) ∧ (σ 9 l w3) ≤ 1000 := o_v7
          refine z_inv1 hM dX5_reach_52 vl_RX5_253 rfl rfl rfl (Nat.le_of_ble_eq_true rfl) (Nat.le_of_ble_eq_true rfl) ?_
          refine x_append2 (u := (fun j => σ 9 l (0 + j))) (n := (w3).toNat) (show (σ 9 l w3) = σ 9 l (0 + (((w3).toNat : Nat) : Int)) from congrArg (σ 9 l) (by omega)) (by omega) (by omega) (by omega) (fun j h0 h1 => (hrow l (0 + j) (by omega) (by omega) (by omega) (by omega)).2) m1_30 (fun j h0 h1 => by rw [m0_30 15 0 j (by decide)]; exact hcl j h0 h1) (fun ρ8 g_ρ8 r_ρ8 => ?_)
          have t_ρ8 : ∀ (c : Nat) (p q : Int), ¬ Fo c → ρ8 c p q = σ c p q := fun c p q hc => (g_ρ8 c p q (by omega)).trans (m0_30 c p q hc)
          refine r_aload_n hC dX5_reach_55 rfl ?_
          refine z_getR hM dX5_reach_56 fl_RX5_40 rfl rfl (vld_of (n := 1) rfl (by omega) (by omega)) ?_
          refine r_iload_n hC dX5_reach_59 rfl ?_
          refine r_iload_n hC dX5_reach_60 rfl ?_
          refine z_inv2 hM dX5_reach_61 vl_RX5_256 rfl rfl rfl (Nat.le_of_ble_eq_true rfl) (Nat.le_of_ble_eq_true rfl) ?_
          refine x_reaches (o := (σ 7 l 2)) (u := (fun j => σ 9 l (0 + j))) (n := ((w3).toNat + 1)) (by omega) (by omega) r_ρ8 (fun hr_61 => ?_) (fun hr_61 => ?_)
          · rw [show ρ8 16 0 = σ 16 0 from funext fun y => t_ρ8 16 0 y (by decide), show ρ8 15 0 = σ 15 0 from funext fun y => t_ρ8 15 0 y (by decide)] at hr_61
            refine r_if_eq (tgt := 72) hC dX5_reach_64 rfl (fun h9 => by omega) (fun h9 => ?_)
            refine r_iload hC dX5_reach_67 rfl ?_
            refine r_iconst hC dX5_reach_69 rfl ?_
            refine r_iaddE hC ((w3 + 1)) dX5_reach_70 (by omega) (by unfold inR; omega) ?_
            refine y_iret hK rfl dX5_reach_71 ?_
            have hA : reA σ l w b (w3 + 1) := by
              refine ⟨fun q => absurd ⟨by unfold opV; omega, by omega, by omega⟩ q, fun _ => Or.inr ⟨by omega, ?_, fun n n0 n1 => i1_30 n n0 (by omega)⟩⟩
              have q := hr_61
              rw [show (w3).toNat + 1 = ((w3 + 1) - 0).toNat from by omega] at q
              exact q
            exact k _ _ hA (t_ρ8) (FRc.inF r_ρ8 (fun j h0 h1 => by rw [t_ρ8 15 0 j (by decide)]; exact hcl j h0 h1))
          · rw [show ρ8 16 0 = σ 16 0 from funext fun y => t_ρ8 16 0 y (by decide), show ρ8 15 0 = σ 15 0 from funext fun y => t_ρ8 15 0 y (by decide)] at hr_61
            refine r_if_eq (tgt := 72) hC dX5_reach_64 rfl (fun h10 => ?_) (fun h10 => by omega)
            refine r_iincE hC ((w3 + 1)) dX5_reach_72 rfl rfl (by omega) (by unfold inR; omega) ?_
            refine r_goto (tgt := 30) hC dX5_reach_75 rfl ?_
            exact ih30 ((w3 + 1)) ρ8 (by omega) (by omega) (by intro n n0 n1; first | omega | (rcases (by omega : n ≤ w3 ∨ n = w3 + 1) with z | z; exact i1_30 n n0 z; subst z; have q := hr_61; rw [show (w3).toNat + 1 = ((w3 + 1) - 0).toNat from by omega] at q; exact q)) (by omega)  (t_ρ8) (by rw [show ((((w3 + 1) : Int)).toNat : Nat) = ((w3).toNat + 1) from by omega]; exact r_ρ8)
    exact L30 123 (0) ρ2 (by omega) (by omega) (by intro n n0 n1; first | omega | (rcases (by omega : n ≤ w3 ∨ n = w3 + 1) with z | z; exact i1_30 n n0 z; subst z; have q := hr_61; rw [show (w3).toNat + 1 = ((w3 + 1) - 0).toNat from by omega] at q; exact q)) (by omega)  (t_ρ2) (by rw [show (((0 : Int)).toNat : Nat) = 0 from by omega]; exact z_ρ2 (fun j => σ 9 l (0 + j)))
  · refine r_astoreN hC dX5_reach_6 rfl ?_
    refine r_aloadN hC dX5_reach_8 rfl ?_
    refine r_ifnonnullN hC dX5_reach_10 ?_
    refine r_iconst hC dX5_reach_13 rfl ?_
    refine y_iret hK rfl dX5_reach_14 ?_
    have hA : reA σ l w b (-1) := by
      exact ⟨fun _ => rfl, fun q => by unfold lwC opV at q; omega⟩
    exact k _ _ hA (fun _ _ _ _ => rfl) hI
theorem x_reach {eb : Bool} {d : Nat} {P : Option Vl → Mm → Prop} {σ : Mm} {l w b : Int} (hG : GI σ) (k : ∀ r : Int, reA σ l w b r → P (some (vI r)) σ) : WT (true, false, eb) (d + 5) 77 [vR 2 0, vI l, vI w, vI b] σ P := WT_fold fun ρ e hI => x_reach_S hI (hG.fo e) (fun r ρ2 hA gq hI2 => ⟨hI2, σ, k r (by
    have hc : reA ρ l w b r = reA σ l w b r := by (delta reA Fst rchV ptV lwC opV; simp only [e 7 (by decide), e 8 (by decide), e 9 (by decide), e 15 (by decide), e 16 (by decide)])
    rw [← hc]
    exact hA), fun c x y hc => (gq c x y hc).trans (by rw [e c hc])⟩)
theorem x_turned_S {eb : Bool} {d : Nat} {P : Option Vl → Mm → Prop} {σ : Mm} {l w : Int}  (hI : InF σ) (hG : GI σ)  (k : ∀ ρ : Mm, (∀ (c : Nat) (x y : Int), ¬ Fo c → ρ c x y = σ c x y) → InF ρ → P (some (vI (tuR σ l w))) ρ) : WT (true, true, eb) (d + 5) 83 [vR 2 0, vI l, vI w] σ P := by
  refine WT_in fun K hK => ?_
  have hK : StpY (true, true, eb) cX5_turned RX5 (some .int) (WT (true, true, eb) (d + 4)) P K := hK
  have hM := hK.1
  have hC := hK.1.1
  show K 0 [some (vR 2 0), some (vI l), some (vI w), none, none] [] σ
  refine z_ok hM (fun hok => ?_)
  refine r_rngz hC (fun g0 => ?_)
  have r_l : -2147483648 ≤ l ∧ l ≤ 2147483647 := inR_le (g0 (vI l) (by simp))
  have r_w : -2147483648 ≤ w ∧ w ≤ 2147483647 := inR_le (g0 (vI w) (by simp))
  have hcl := hG.2.1.2.2.2.2.2.2.2
  have hrow := hG.2.1.2.2.1
  refine r_aload_n hC dX5_turned_0 rfl ?_
  refine r_iload_n hC dX5_turned_1 rfl ?_
  refine r_iload_n hC dX5_turned_2 rfl ?_
  refine z_inv2 hM dX5_turned_3 vl_RX5_248 rfl rfl rfl (Nat.le_of_ble_eq_true rfl) (Nat.le_of_ble_eq_true rfl) ?_
  refine x_laneWith (fun hl_3 => ?_) (fun hl_3 => ?_)
  · have h6_3 := hG.1.h7 (l := l) (by omega) (by omega)
    have hN_3 := numF_rng (σ 7 l 2)
    have hO_3 := (hG.2.1.2.2.2.1 l (by omega) (by omega)).2
    refine r_astore_n hC dX5_turned_6 rfl ?_
    refine r_aload_n hC dX5_turned_7 rfl ?_
    refine r_ifnonnullR (tgt := 14) hC dX5_turned_8 rfl ?_
    refine r_aload_n hC dX5_turned_14 rfl ?_
    refine z_getR hM dX5_turned_15 fl_RX5_40 rfl rfl (vld_of (n := 1) rfl (by omega) (by omega)) ?_
    refine r_aload_n hC dX5_turned_18 rfl ?_
    refine z_getI (jz := 2) hM dX5_turned_19 fl_RX5_98 rfl rfl rfl (fun v1 h_v1 o_v1 t_v1 => ?_)
    have w_v1 := ((t_v1 (Or.inl (by first | exact trivial | exact tb7_ (by decide) | simp [Tb]))).trans (rfl)).symm
    clear t_v1
    subst w_v1
    have q_v1 : 0 ≤ (σ 7 l 2) ∧ (σ 7 l 2) ≤ 9 := o_v1.2.2 rfl
    refine z_inv1 hM dX5_turned_22 vl_RX5_251 rfl rfl rfl (Nat.le_of_ble_eq_true rfl) (Nat.le_of_ble_eq_true rfl) ?_
    refine x_begin (by omega) rfl rfl rfl rfl rfl rfl rfl rfl rfl rfl (fun ρ2 g_ρ2 z_ρ2 => ?_)
    have t_ρ2 : ∀ (c : Nat) (p q : Int), ¬ Fo c → ρ2 c p q = σ c p q := fun c p q hc => (g_ρ2 c p q (by omega)).trans ((fun _ _ _ _ => rfl) c p q hc)
    refine r_aload_n hC dX5_turned_25 rfl ?_
    refine z_getI (jz := 6) hM dX5_turned_26 fl_RX5_154 rfl rfl rfl (fun v3 h_v3 o_v3 t_v3 => ?_)
    have w_v3 := ((t_v3 (Or.inl (by first | exact trivial | exact tb7_ (by decide) | simp [Tb]))).trans (t_ρ2 7 l 6 (by decide))).symm
    clear t_v3
    subst w_v3
    have q_v3 : 0 ≤ (σ 7 l 6) ∧ (σ 7 l 6) ≤ 121 := o_v3.1 rfl
    refine r_iconst hC dX5_turned_29 rfl ?_
    refine r_isubE hC (((σ 7 l 6) - 1)) dX5_turned_30 (by omega) (by unfold inR; omega) ?_
    refine r_istore hC dX5_turned_31 rfl ?_
    have L33 : ∀ (n33 : Nat) (w4 : Int) (ρ5 : Mm), -1 ≤ w4 ∧ w4 ≤ 120 → ((w4) ≤ σ 7 l 6 - 1) → w4 + 1 < (n33 : Int) → (∀ (c : Nat) (p q : Int), ¬ Fo c → ρ5 c p q = σ c p q) → (FRc ρ5 (σ 7 l 2) (tuU σ l) ((σ 7 l 6 - 1 - w4).toNat)) → K 33 [some (vR 2 0), some (vI l), some (vI w), some (vR 7 l), some (vI w4)] [] ρ5 := by
      intro n33
      induction n33 with
      | zero => intro w4 ρ5 f_w4 i0_33 hm  m0_33 m1_33; omega
      | succ n33 ih33 =>
        intro w4 ρ5 f_w4 i0_33 hm33  m0_33 m1_33
        refine r_iload hC dX5_turned_33 rfl ?_
        refine r_if_lt (tgt := 58) hC dX5_turned_35 rfl (fun h6 => ?_) (fun h6 => ?_)
        · refine r_aload_n hC dX5_turned_58 rfl ?_
          refine z_getR hM dX5_turned_59 fl_RX5_40 rfl rfl (vld_of (n := 1) rfl (by omega) (by omega)) ?_
          refine r_iload_n hC dX5_turned_62 rfl ?_
          refine z_inv1 hM dX5_turned_63 vl_RX5_273 rfl rfl rfl (Nat.le_of_ble_eq_true rfl) (Nat.le_of_ble_eq_true rfl) ?_
          refine x_number (n := (σ 7 l 6 - 1 - w4).toNat) (by omega) m1_33.1 m1_33.2.1 (by omega) m1_33 ?_
          rw [show ρ5 16 0 = σ 16 0 from funext fun y => m0_33 16 0 y (by decide), show ρ5 15 0 = σ 15 0 from funext fun y => m0_33 15 0 y (by decide)]
          refine y_iret hK rfl dX5_turned_66 ?_
          have hR : tuR σ l w = (cm (σ 16 0) (σ 15 0) (σ 7 l 2) (tuU σ l) (σ 7 l 6 - 1 - w4).toNat w) := by
            unfold tuR
            rw [if_pos (by unfold lwC opV; omega), show (σ 7 l 6).toNat = (σ 7 l 6 - 1 - w4).toNat from by omega]
          rw [hR] at k
          exact k _ (m0_33) (FRc.inF m1_33 (fun j h0 h1 => by rw [m0_33 15 0 j (by decide)]; exact hcl j h0 h1))
        · refine r_aload_n hC dX5_turned_38 rfl ?_
          refine z_getR hM dX5_turned_39 fl_RX5_40 rfl rfl (vld_of (n := 1) rfl (by omega) (by omega)) ?_
          refine r_aload_n hC dX5_turned_42 rfl ?_
          refine z_getR hM dX5_turned_43 fl_RX5_176 rfl rfl (vld_of (n := 7) rfl (by omega) (by omega)) ?_
          refine r_iload hC dX5_turned_46 rfl ?_
          refine z_iald hM dX5_turned_48 rfl (by omega) (by omega) (fun v7 h_v7 o_v7 t_v7 => ?_)
          have w_v7 := ((t_v7 (Or.inl (by first | exact trivial | exact tb7_ (by decide) | simp [Tb]))).trans (m0_33 9 l w4 (by decide))).symm
          clear t_v7
          subst w_v7
          have q_v7 : -1000 ≤ (σ 9 l w4) ∧ (σ 9 l w4) ≤ 1000 := o_v7
          refine z_inv1 hM dX5_turned_49 vl_RX5_253 rfl rfl rfl (Nat.le_of_ble_eq_true rfl) (Nat.le_of_ble_eq_true rfl) ?_
          refine x_append2 (u := (tuU σ l)) (n := (σ 7 l 6 - 1 - w4).toNat) (show (σ 9 l w4) = σ 9 l (σ 7 l 6 - 1 - (((σ 7 l 6 - 1 - w4).toNat : Nat) : Int)) from congrArg (σ 9 l) (by omega)) (by omega) (by omega) (by omega) (fun j h0 h1 => (hrow l (σ 7 l 6 - 1 - j) (by omega) (by omega) (by omega) (by omega)).2) m1_33 (fun j h0 h1 => by rw [m0_33 15 0 j (by decide)]; exact hcl j h0 h1) (fun ρ8 g_ρ8 r_ρ8 => ?_)
          have t_ρ8 : ∀ (c : Nat) (p q : Int), ¬ Fo c → ρ8 c p q = σ c p q := fun c p q hc => (g_ρ8 c p q (by omega)).trans (m0_33 c p q hc)
          refine r_iincE hC ((w4 - 1)) dX5_turned_52 rfl rfl (by omega) (by unfold inR; omega) ?_
          refine r_goto (tgt := 33) hC dX5_turned_55 rfl ?_
          exact ih33 ((w4 - 1)) ρ8 (by omega) (by omega) (by omega)  (t_ρ8) (by rw [show (((σ 7 l 6 - 1 - (w4 - 1) : Int)).toNat : Nat) = ((σ 7 l 6 - 1 - w4).toNat + 1) from by omega]; exact r_ρ8)
    exact L33 123 (((σ 7 l 6) - 1)) ρ2 (by omega) (by omega) (by omega)  (t_ρ2) (by rw [show (((σ 7 l 6 - 1 - ((σ 7 l 6) - 1) : Int)).toNat : Nat) = 0 from by omega]; exact z_ρ2 (tuU σ l))
  · refine r_astoreN_n hC dX5_turned_6 rfl ?_
    refine r_aloadN_n hC dX5_turned_7 rfl ?_
    refine r_ifnonnullN hC dX5_turned_8 ?_
    refine r_ldc hC dX5_turned_11 co_RX5_175 rfl ?_
    refine y_iret hK rfl dX5_turned_13 ?_
    have hR : tuR σ l w = (-2147483648) := by
      exact if_neg (by unfold lwC opV; omega)
    rw [hR] at k
    exact k _ (fun _ _ _ _ => rfl) hI
theorem x_turned {eb : Bool} {d : Nat} {P : Option Vl → Mm → Prop} {σ : Mm} {l w : Int} (hG : GI σ) (k : P (some (vI (tuR σ l w))) σ) : WT (true, false, eb) (d + 5) 83 [vR 2 0, vI l, vI w] σ P := WT_fold fun ρ e hI => x_turned_S hI (hG.fo e) (fun ρ2 gq hI2 => ⟨hI2, σ, by
    have hc : tuR ρ l w = tuR σ l w := by (delta tuR tuU lwC opV; simp only [e 7 (by decide), e 8 (by decide), e 9 (by decide), e 15 (by decide), e 16 (by decide)])
    rw [hc]
    exact k, fun c x y hc => (gq c x y hc).trans (by rw [e c hc])⟩)
theorem x_reachBack_S {eb : Bool} {d : Nat} {P : Option Vl → Mm → Prop} {σ : Mm} {l w b : Int}  (hI : InF σ) (hG : GI σ)  (k : ∀ (r : Int) (ρ : Mm), rbA σ l w b r → (∀ (c : Nat) (x y : Int), ¬ Fo c → ρ c x y = σ c x y) → InF ρ → P (some (vI r)) ρ) : WT (true, true, eb) (d + 5) 78 [vR 2 0, vI l, vI w, vI b] σ P := by
  refine WT_in fun K hK => ?_
  have hK : StpY (true, true, eb) cX5_reachBack RX5 (some .int) (WT (true, true, eb) (d + 4)) P K := hK
  have hM := hK.1
  have hC := hK.1.1
  show K 0 [some (vR 2 0), some (vI l), some (vI w), some (vI b), none, none] [] σ
  refine z_ok hM (fun hok => ?_)
  refine r_rngz hC (fun g0 => ?_)
  have r_l : -2147483648 ≤ l ∧ l ≤ 2147483647 := inR_le (g0 (vI l) (by simp))
  have r_w : -2147483648 ≤ w ∧ w ≤ 2147483647 := inR_le (g0 (vI w) (by simp))
  have r_b : -2147483648 ≤ b ∧ b ≤ 2147483647 := inR_le (g0 (vI b) (by simp))
  have hcl := hG.2.1.2.2.2.2.2.2.2
  have hrow := hG.2.1.2.2.1
  refine r_aload_n hC dX5_reachBack_0 rfl ?_
  refine r_iload_n hC dX5_reachBack_1 rfl ?_
  refine r_iload_n hC dX5_reachBack_2 rfl ?_
  refine z_inv2 hM dX5_reachBack_3 vl_RX5_248 rfl rfl rfl (Nat.le_of_ble_eq_true rfl) (Nat.le_of_ble_eq_true rfl) ?_
  refine x_laneWith (fun hl_3 => ?_) (fun hl_3 => ?_)
  · have h6_3 := hG.1.h7 (l := l) (by omega) (by omega)
    have hN_3 := numF_rng (σ 7 l 2)
    have hO_3 := (hG.2.1.2.2.2.1 l (by omega) (by omega)).2
    refine r_astore hC dX5_reachBack_6 rfl ?_
    refine r_aload hC dX5_reachBack_8 rfl ?_
    refine r_ifnonnullR (tgt := 15) hC dX5_reachBack_10 rfl ?_
    refine r_iconst hC dX5_reachBack_15 rfl ?_
    refine r_istore hC dX5_reachBack_16 rfl ?_
    have L18 : ∀ (n18 : Nat) (w1 : Int) (ρ2 : Mm), 1 ≤ w1 ∧ w1 ≤ 122 → (∀ n : Int, 1 ≤ n → n < (w1) → ¬ rchV σ l (σ 7 l 6 - n) (σ 7 l 6) w b) → 122 - w1 < (n18 : Int) → (∀ (c : Nat) (p q : Int), ¬ Fo c → ρ2 c p q = σ c p q) → (InF ρ2) → K 18 [some (vR 2 0), some (vI l), some (vI w), some (vI b), some (vR 7 l), some (vI w1)] [] ρ2 := by
      intro n18
      induction n18 with
      | zero => intro w1 ρ2 f_w1 i0_18 hm  m0_18 m1_18; omega
      | succ n18 ih18 =>
        intro w1 ρ2 f_w1 i0_18 hm18  m0_18 m1_18
        refine r_iload hC dX5_reachBack_18 rfl ?_
        refine r_aload hC dX5_reachBack_20 rfl ?_
        refine z_getI (jz := 6) hM dX5_reachBack_22 fl_RX5_154 rfl rfl rfl (fun v3 h_v3 o_v3 t_v3 => ?_)
        have w_v3 := ((t_v3 (Or.inl (by first | exact trivial | exact tb7_ (by decide) | simp [Tb]))).trans (m0_18 7 l 6 (by decide))).symm
        clear t_v3
        subst w_v3
        have q_v3 : 0 ≤ (σ 7 l 6) ∧ (σ 7 l 6) ≤ 121 := o_v3.1 rfl
        refine r_icmp_gt (tgt := 68) hC dX5_reachBack_25 rfl (fun h4 => ?_) (fun h4 => ?_)
        · refine r_iconst hC dX5_reachBack_68 rfl ?_
          refine y_iret hK rfl dX5_reachBack_69 ?_
          have hA : rbA σ l w b (-1) := by
            exact ⟨fun _ => rfl, fun _ => Or.inl ⟨rfl, fun n n0 n1 => i0_18 n n0 (by omega)⟩⟩
          exact k _ _ hA (m0_18) m1_18
        · refine r_aload_n hC dX5_reachBack_28 rfl ?_
          refine r_aload hC dX5_reachBack_29 rfl ?_
          refine r_aload hC dX5_reachBack_31 rfl ?_
          refine z_getI (jz := 6) hM dX5_reachBack_33 fl_RX5_154 rfl rfl rfl (fun v5 h_v5 o_v5 t_v5 => ?_)
          have w_v5 := ((t_v5 (Or.inl (by first | exact trivial | exact tb7_ (by decide) | simp [Tb]))).trans (m0_18 7 l 6 (by decide))).symm
          clear t_v5
          subst w_v5
          have q_v5 : 0 ≤ (σ 7 l 6) ∧ (σ 7 l 6) ≤ 121 := o_v5.1 rfl
          refine r_iload hC dX5_reachBack_36 rfl ?_
          refine r_isubE hC (((σ 7 l 6) - w1)) dX5_reachBack_38 (by omega) (by unfold inR; omega) ?_
          refine r_aload hC dX5_reachBack_39 rfl ?_
          refine z_getI (jz := 6) hM dX5_reachBack_41 fl_RX5_154 rfl rfl rfl (fun v6 h_v6 o_v6 t_v6 => ?_)
          have w_v6 := ((t_v6 (Or.inl (by first | exact trivial | exact tb7_ (by decide) | simp [Tb]))).trans (m0_18 7 l 6 (by decide))).symm
          clear t_v6
          subst w_v6
          have q_v6 : 0 ≤ (σ 7 l 6) ∧ (σ 7 l 6) ≤ 121 := o_v6.1 rfl
          refine z_inv3 hM dX5_reachBack_44 vl_RX5_259 rfl rfl rfl (Nat.le_of_ble_eq_true rfl) (Nat.le_of_ble_eq_true rfl) ?_
          refine x_foldPart (i := l) (f := ((σ 7 l 6) - w1)) (z := (σ 7 l 6)) (by omega) (by omega) (by omega) (fun ρ7 g_ρ7 r_ρ7 => ?_)
          have t_ρ7 : ∀ (c : Nat) (p q : Int), ¬ Fo c → ρ7 c p q = σ c p q := fun c p q hc => (g_ρ7 c p q (by omega)).trans (m0_18 c p q hc)
          rw [show ρ2 7 l 2 = σ 7 l 2 from m0_18 7 l 2 (by decide), show ρ2 9 l = σ 9 l from funext fun y => m0_18 9 l y (by decide)] at r_ρ7
          refine r_aload_n hC dX5_reachBack_47 rfl ?_
          refine z_getR hM dX5_reachBack_48 fl_RX5_40 rfl rfl (vld_of (n := 1) rfl (by omega) (by omega)) ?_
          refine r_iload_n hC dX5_reachBack_51 rfl ?_
          refine r_iload_n hC dX5_reachBack_52 rfl ?_
          refine z_inv2 hM dX5_reachBack_53 vl_RX5_256 rfl rfl rfl (Nat.le_of_ble_eq_true rfl) (Nat.le_of_ble_eq_true rfl) ?_
          refine x_reaches (o := (σ 7 l 2)) (u := (fun j => σ 9 l (((σ 7 l 6) - w1) + j))) (n := ((σ 7 l 6) - ((σ 7 l 6) - w1)).toNat) (by omega) (by omega) r_ρ7 (fun hr_53 => ?_) (fun hr_53 => ?_)
          · rw [show ρ7 16 0 = σ 16 0 from funext fun y => t_ρ7 16 0 y (by decide), show ρ7 15 0 = σ 15 0 from funext fun y => t_ρ7 15 0 y (by decide)] at hr_53
            refine r_if_eq (tgt := 62) hC dX5_reachBack_56 rfl (fun h8 => by omega) (fun h8 => ?_)
            refine r_iload hC dX5_reachBack_59 rfl ?_
            refine y_iret hK rfl dX5_reachBack_61 ?_
            have hA : rbA σ l w b w1 := by
              exact ⟨fun q => absurd ⟨by unfold opV; omega, by omega, by omega⟩ q, fun _ => Or.inr ⟨by omega, hr_53, fun n n0 n1 => i0_18 n n0 (by omega)⟩⟩
            exact k _ _ hA (t_ρ7) (FRc.inF r_ρ7 (fun j h0 h1 => by rw [t_ρ7 15 0 j (by decide)]; exact hcl j h0 h1))
          · rw [show ρ7 16 0 = σ 16 0 from funext fun y => t_ρ7 16 0 y (by decide), show ρ7 15 0 = σ 15 0 from funext fun y => t_ρ7 15 0 y (by decide)] at hr_53
            refine r_if_eq (tgt := 62) hC dX5_reachBack_56 rfl (fun h9 => ?_) (fun h9 => by omega)
            refine r_iincE hC ((w1 + 1)) dX5_reachBack_62 rfl rfl (by omega) (by unfold inR; omega) ?_
            refine r_goto (tgt := 18) hC dX5_reachBack_65 rfl ?_
            exact ih18 ((w1 + 1)) ρ7 (by omega) (by intro n n0 n1; first | omega | (rcases (by omega : n < w1 ∨ n = w1) with z | z; exact i0_18 n n0 z; subst z; exact hr_53)) (by omega)  (t_ρ7) ((FRc.inF r_ρ7 (fun j h0 h1 => by rw [t_ρ7 15 0 j (by decide)]; exact hcl j h0 h1)))
    exact L18 124 (1) σ (by omega) (by intro n n0 n1; first | omega | (rcases (by omega : n < w1 ∨ n = w1) with z | z; exact i0_18 n n0 z; subst z; exact hr_53)) (by omega)  ((fun _ _ _ _ => rfl)) (hI)
  · refine r_astoreN hC dX5_reachBack_6 rfl ?_
    refine r_aloadN hC dX5_reachBack_8 rfl ?_
    refine r_ifnonnullN hC dX5_reachBack_10 ?_
    refine r_iconst hC dX5_reachBack_13 rfl ?_
    refine y_iret hK rfl dX5_reachBack_14 ?_
    have hA : rbA σ l w b (-1) := by
      exact ⟨fun _ => rfl, fun q => by unfold lwC opV at q; omega⟩
    exact k _ _ hA (fun _ _ _ _ => rfl) hI
theorem x_reachBack {eb : Bool} {d : Nat} {P : Option Vl → Mm → Prop} {σ : Mm} {l w b : Int} (hG : GI σ) (k : ∀ r : Int, rbA σ l w b r → P (some (vI r)) σ) : WT (true, false, eb) (d + 5) 78 [vR 2 0, vI l, vI w, vI b] σ P := WT_fold fun ρ e hI => x_reachBack_S hI (hG.fo e) (fun r ρ2 hA gq hI2 => ⟨hI2, σ, k r (by
    have hc : rbA ρ l w b r = rbA σ l w b r := by (delta rbA Fst rchV ptV lwC opV; simp only [e 7 (by decide), e 8 (by decide), e 9 (by decide), e 15 (by decide), e 16 (by decide)])
    rw [← hc]
    exact hA), fun c x y hc => (gq c x y hc).trans (by rw [e c hc])⟩)
theorem FRc.cg {ρ : Mm} {o : Int} {u v : Int → Int} {n : Nat} (h : FRc ρ o u n) (e : ∀ j : Int, 0 ≤ j → j < (n : Int) → v j = u j) : FRc ρ o v n := ⟨h.1, h.2.1, fun q => by rw [stp_c e]; exact h.2.2.1 q, fun k a b => by rw [cmN_c e]; exact h.2.2.2 k a b⟩
theorem x_joined_S {eb : Bool} {d : Nat} {P : Option Vl → Mm → Prop} {σ : Mm} {l o w : Int}  (hI : InF σ) (hG : GI σ)  (k : ∀ ρ : Mm, (∀ (c : Nat) (x y : Int), ¬ Fo c → ρ c x y = σ c x y) → InF ρ → P (some (vI (jnR σ l o w))) ρ) : WT (true, true, eb) (d + 5) 86 [vR 2 0, vI l, vI o, vI w] σ P := by
  refine WT_in fun K hK => ?_
  have hK : StpY (true, true, eb) cX5_joined RX5 (some .int) (WT (true, true, eb) (d + 4)) P K := hK
  have hM := hK.1
  have hC := hK.1.1
  show K 0 [some (vR 2 0), some (vI l), some (vI o), some (vI w), none, none, none] [] σ
  refine z_ok hM (fun hok => ?_)
  refine r_rngz hC (fun g0 => ?_)
  have r_l : -2147483648 ≤ l ∧ l ≤ 2147483647 := inR_le (g0 (vI l) (by simp))
  have r_o : -2147483648 ≤ o ∧ o ≤ 2147483647 := inR_le (g0 (vI o) (by simp))
  have r_w : -2147483648 ≤ w ∧ w ≤ 2147483647 := inR_le (g0 (vI w) (by simp))
  have hcl := hG.2.1.2.2.2.2.2.2.2
  have hrow := hG.2.1.2.2.1
  refine r_aload_n hC dX5_joined_0 rfl ?_
  refine r_iload_n hC dX5_joined_1 rfl ?_
  refine r_iload_n hC dX5_joined_2 rfl ?_
  refine z_inv2 hM dX5_joined_3 vl_RX5_248 rfl rfl rfl (Nat.le_of_ble_eq_true rfl) (Nat.le_of_ble_eq_true rfl) ?_
  refine x_laneWith (fun hl_3 => ?_) (fun hl_3 => ?_)
  · have h6_3 := hG.1.h7 (l := l) (by omega) (by omega)
    have hN_3 := numF_rng (σ 7 l 2)
    have hO_3 := (hG.2.1.2.2.2.1 l (by omega) (by omega)).2
    refine r_astore hC dX5_joined_6 rfl ?_
    refine r_aload_n hC dX5_joined_8 rfl ?_
    refine r_iload_n hC dX5_joined_9 rfl ?_
    refine z_inv1 hM dX5_joined_10 vl_RX5_123 rfl rfl rfl (Nat.le_of_ble_eq_true rfl) (Nat.le_of_ble_eq_true rfl) ?_
    refine x_openLane (fun hl_10 => ?_) (fun hl_10 => ?_)
    · have h6_10 := hG.1.h7 (l := o) (by omega) (by omega)
      have hN_10 := numF_rng (σ 7 o 2)
      have hO_10 := (hG.2.1.2.2.2.1 o (by omega) (by omega)).2
      refine r_astore hC dX5_joined_13 rfl ?_
      refine r_aload hC dX5_joined_15 rfl ?_
      refine r_ifnullR hC dX5_joined_17 ?_
      refine r_aload hC dX5_joined_20 rfl ?_
      refine r_ifnullR hC dX5_joined_22 ?_
      refine r_aload hC dX5_joined_25 rfl ?_
      refine z_getI (jz := 2) hM dX5_joined_27 fl_RX5_98 rfl rfl rfl (fun v1 h_v1 o_v1 t_v1 => ?_)
      have w_v1 := ((t_v1 (Or.inl (by first | exact trivial | exact tb7_ (by decide) | simp [Tb]))).trans (rfl)).symm
      clear t_v1
      subst w_v1
      have q_v1 : 0 ≤ (σ 7 l 2) ∧ (σ 7 l 2) ≤ 9 := o_v1.2.2 rfl
      refine r_aload hC dX5_joined_30 rfl ?_
      refine z_getI (jz := 2) hM dX5_joined_32 fl_RX5_98 rfl rfl rfl (fun v2 h_v2 o_v2 t_v2 => ?_)
      have w_v2 := ((t_v2 (Or.inl (by first | exact trivial | exact tb7_ (by decide) | simp [Tb]))).trans (rfl)).symm
      clear t_v2
      subst w_v2
      have q_v2 : 0 ≤ (σ 7 o 2) ∧ (σ 7 o 2) ≤ 9 := o_v2.2.2 rfl
      refine r_icmp_eq (tgt := 41) hC dX5_joined_35 rfl (fun h3 => ?_) (fun h3 => ?_)
      · refine r_aload_n hC dX5_joined_41 rfl ?_
        refine r_aload hC dX5_joined_42 rfl ?_
        refine r_iconst hC dX5_joined_44 rfl ?_
        refine r_aload hC dX5_joined_45 rfl ?_
        refine z_getI (jz := 6) hM dX5_joined_47 fl_RX5_154 rfl rfl rfl (fun v4 h_v4 o_v4 t_v4 => ?_)
        have w_v4 := ((t_v4 (Or.inl (by first | exact trivial | exact tb7_ (by decide) | simp [Tb]))).trans (rfl)).symm
        clear t_v4
        subst w_v4
        have q_v4 : 0 ≤ (σ 7 l 6) ∧ (σ 7 l 6) ≤ 121 := o_v4.1 rfl
        refine z_inv3 hM dX5_joined_50 vl_RX5_259 rfl rfl rfl (Nat.le_of_ble_eq_true rfl) (Nat.le_of_ble_eq_true rfl) ?_
        refine x_foldPart (i := l) (f := 0) (z := (σ 7 l 6)) (by omega) (by omega) (by omega) (fun ρ5 g_ρ5 r_ρ5 => ?_)
        have t_ρ5 : ∀ (c : Nat) (p q : Int), ¬ Fo c → ρ5 c p q = σ c p q := fun c p q hc => (g_ρ5 c p q (by omega)).trans ((fun _ _ _ _ => rfl) c p q hc)
        refine r_iconst hC dX5_joined_53 rfl ?_
        refine r_istore hC dX5_joined_54 rfl ?_
        have L56 : ∀ (n56 : Nat) (w6 : Int) (ρ7 : Mm), 0 ≤ w6 ∧ w6 ≤ 121 → ((w6) ≤ σ 7 o 6) → 121 - w6 < (n56 : Int) → (∀ (c : Nat) (p q : Int), ¬ Fo c → ρ7 c p q = σ c p q) → (FRc ρ7 (σ 7 l 2) (jnU σ l o) ((σ 7 l 6 + w6).toNat)) → K 56 [some (vR 2 0), some (vI l), some (vI o), some (vI w), some (vR 7 l), some (vR 7 o), some (vI w6)] [] ρ7 := by
          intro n56
          induction n56 with
          | zero => intro w6 ρ7 f_w6 i0_56 hm  m0_56 m1_56; omega
          | succ n56 ih56 =>
            intro w6 ρ7 f_w6 i0_56 hm56  m0_56 m1_56
            refine r_iload hC dX5_joined_56 rfl ?_
            refine r_aload hC dX5_joined_58 rfl ?_
            refine z_getI (jz := 6) hM dX5_joined_60 fl_RX5_154 rfl rfl rfl (fun v8 h_v8 o_v8 t_v8 => ?_)
            have w_v8 := ((t_v8 (Or.inl (by first | exact trivial | exact tb7_ (by decide) | simp [Tb]))).trans (m0_56 7 o 6 (by decide))).symm
            clear t_v8
            subst w_v8
            have q_v8 : 0 ≤ (σ 7 o 6) ∧ (σ 7 o 6) ≤ 121 := o_v8.1 rfl
            refine r_icmp_ge (tgt := 87) hC dX5_joined_63 rfl (fun h9 => ?_) (fun h9 => ?_)
            · refine r_aload_n hC dX5_joined_87 rfl ?_
              refine z_getR hM dX5_joined_88 fl_RX5_40 rfl rfl (vld_of (n := 1) rfl (by omega) (by omega)) ?_
              refine r_iload_n hC dX5_joined_91 rfl ?_
              refine z_inv1 hM dX5_joined_92 vl_RX5_273 rfl rfl rfl (Nat.le_of_ble_eq_true rfl) (Nat.le_of_ble_eq_true rfl) ?_
              refine x_number (n := (σ 7 l 6 + w6).toNat) (by omega) m1_56.1 m1_56.2.1 (by omega) m1_56 ?_
              rw [show ρ7 16 0 = σ 16 0 from funext fun y => m0_56 16 0 y (by decide), show ρ7 15 0 = σ 15 0 from funext fun y => m0_56 15 0 y (by decide)]
              refine y_iret hK rfl dX5_joined_95 ?_
              have hR : jnR σ l o w = (cm (σ 16 0) (σ 15 0) (σ 7 l 2) (jnU σ l o) (σ 7 l 6 + w6).toNat w) := by
                unfold jnR
                rw [if_pos (by unfold lkC2 lwC opV; omega), show (σ 7 l 6 + σ 7 o 6).toNat = (σ 7 l 6 + w6).toNat from by omega]
              rw [hR] at k
              exact k _ (m0_56) (FRc.inF m1_56 (fun j h0 h1 => by rw [m0_56 15 0 j (by decide)]; exact hcl j h0 h1))
            · refine r_aload_n hC dX5_joined_66 rfl ?_
              refine z_getR hM dX5_joined_67 fl_RX5_40 rfl rfl (vld_of (n := 1) rfl (by omega) (by omega)) ?_
              refine r_aload hC dX5_joined_70 rfl ?_
              refine z_getR hM dX5_joined_72 fl_RX5_176 rfl rfl (vld_of (n := 7) rfl (by omega) (by omega)) ?_
              refine r_iload hC dX5_joined_75 rfl ?_
              refine z_iald hM dX5_joined_77 rfl (by omega) (by omega) (fun v10 h_v10 o_v10 t_v10 => ?_)
              have w_v10 := ((t_v10 (Or.inl (by first | exact trivial | exact tb7_ (by decide) | simp [Tb]))).trans (m0_56 9 o w6 (by decide))).symm
              clear t_v10
              subst w_v10
              have q_v10 : -1000 ≤ (σ 9 o w6) ∧ (σ 9 o w6) ≤ 1000 := o_v10
              refine z_inv1 hM dX5_joined_78 vl_RX5_253 rfl rfl rfl (Nat.le_of_ble_eq_true rfl) (Nat.le_of_ble_eq_true rfl) ?_
              refine x_append2 (u := (jnU σ l o)) (n := (σ 7 l 6 + w6).toNat) (by show (σ 9 o w6) = jnU σ l o (((σ 7 l 6 + w6).toNat : Nat) : Int); unfold jnU; rw [if_neg (by omega)]; exact congrArg (σ 9 o) (by omega)) (by omega) (by omega) (by omega) (fun j h0 h1 => by unfold jnU; split; exact (hrow l j (by omega) (by omega) (by omega) (by omega)).2; exact (hrow o (j - σ 7 l 6) (by omega) (by omega) (by omega) (by omega)).2) m1_56 (fun j h0 h1 => by rw [m0_56 15 0 j (by decide)]; exact hcl j h0 h1) (fun ρ11 g_ρ11 r_ρ11 => ?_)
              have t_ρ11 : ∀ (c : Nat) (p q : Int), ¬ Fo c → ρ11 c p q = σ c p q := fun c p q hc => (g_ρ11 c p q (by omega)).trans (m0_56 c p q hc)
              refine r_iincE hC ((w6 + 1)) dX5_joined_81 rfl rfl (by omega) (by unfold inR; omega) ?_
              refine r_goto (tgt := 56) hC dX5_joined_84 rfl ?_
              exact ih56 ((w6 + 1)) ρ11 (by omega) (by omega) (by omega)  (t_ρ11) (by rw [show (((σ 7 l 6 + (w6 + 1) : Int)).toNat : Nat) = ((σ 7 l 6 + w6).toNat + 1) from by omega]; exact r_ρ11)
        exact L56 123 (0) ρ5 (by omega) (by omega) (by omega)  (t_ρ5) (by rw [show (σ 7 l 6 + 0).toNat = (σ 7 l 6 - 0).toNat from by omega]; exact r_ρ5.cg (fun j a b => by show jnU σ l o j = σ 9 l (0 + j); unfold jnU; rw [if_pos (by omega), Int.zero_add]))
      · refine r_ldc hC dX5_joined_38 co_RX5_175 rfl ?_
        refine y_iret hK rfl dX5_joined_40 ?_
        have hR : jnR σ l o w = (-2147483648) := by
          exact if_neg (by unfold lkC2 lwC opV; omega)
        rw [hR] at k
        exact k _ (fun _ _ _ _ => rfl) hI
    · refine r_astoreN hC dX5_joined_13 rfl ?_
      refine r_aload hC dX5_joined_15 rfl ?_
      refine r_ifnullR hC dX5_joined_17 ?_
      refine r_aloadN hC dX5_joined_20 rfl ?_
      refine r_ifnullN (tgt := 38) hC dX5_joined_22 rfl ?_
      refine r_ldc hC dX5_joined_38 co_RX5_175 rfl ?_
      refine y_iret hK rfl dX5_joined_40 ?_
      have hR : jnR σ l o w = (-2147483648) := by
        exact if_neg (by unfold lkC2 lwC opV; omega)
      rw [hR] at k
      exact k _ (fun _ _ _ _ => rfl) hI
  · refine r_astoreN hC dX5_joined_6 rfl ?_
    refine r_aload_n hC dX5_joined_8 rfl ?_
    refine r_iload_n hC dX5_joined_9 rfl ?_
    refine z_inv1 hM dX5_joined_10 vl_RX5_123 rfl rfl rfl (Nat.le_of_ble_eq_true rfl) (Nat.le_of_ble_eq_true rfl) ?_
    refine x_openLane (fun hl_10 => ?_) (fun hl_10 => ?_)
    · have h6_10 := hG.1.h7 (l := o) (by omega) (by omega)
      have hN_10 := numF_rng (σ 7 o 2)
      have hO_10 := (hG.2.1.2.2.2.1 o (by omega) (by omega)).2
      refine r_astore hC dX5_joined_13 rfl ?_
      refine r_aloadN hC dX5_joined_15 rfl ?_
      refine r_ifnullN (tgt := 38) hC dX5_joined_17 rfl ?_
      refine r_ldc hC dX5_joined_38 co_RX5_175 rfl ?_
      refine y_iret hK rfl dX5_joined_40 ?_
      have hR : jnR σ l o w = (-2147483648) := by
        exact if_neg (by unfold lkC2 lwC opV; omega)
      rw [hR] at k
      exact k _ (fun _ _ _ _ => rfl) hI
    · refine r_astoreN hC dX5_joined_13 rfl ?_
      refine r_aloadN hC dX5_joined_15 rfl ?_
      refine r_ifnullN (tgt := 38) hC dX5_joined_17 rfl ?_
      refine r_ldc hC dX5_joined_38 co_RX5_175 rfl ?_
      refine y_iret hK rfl dX5_joined_40 ?_
      have hR : jnR σ l o w = (-2147483648) := by
        exact if_neg (by unfold lkC2 lwC opV; omega)
      rw [hR] at k
      exact k _ (fun _ _ _ _ => rfl) hI
theorem x_joined {eb : Bool} {d : Nat} {P : Option Vl → Mm → Prop} {σ : Mm} {l o w : Int} (hG : GI σ) (k : P (some (vI (jnR σ l o w))) σ) : WT (true, false, eb) (d + 5) 86 [vR 2 0, vI l, vI o, vI w] σ P := WT_fold fun ρ e hI => x_joined_S hI (hG.fo e) (fun ρ2 gq hI2 => ⟨hI2, σ, by
    have hc : jnR ρ l o w = jnR σ l o w := by (delta jnR jnU lkC2 lwC opV; simp only [e 7 (by decide), e 8 (by decide), e 9 (by decide), e 15 (by decide), e 16 (by decide)])
    rw [hc]
    exact k, fun c x y hc => (gq c x y hc).trans (by rw [e c hc])⟩)
theorem x_comesToWithout_S {eb : Bool} {d : Nat} {P : Option Vl → Mm → Prop} {σ : Mm} {l x w : Int} (b_l : 0 ≤ l ∧ l ≤ 3) (b_x : 0 ≤ x ∧ x ≤ 119) (hI : InF σ) (hG : GI σ) (hx : x < σ 7 l 6)  (k : ∀ ρ : Mm, (∀ (c : Nat) (x y : Int), ¬ Fo c → ρ c x y = σ c x y) → InF ρ → P (some (vI (woV σ l x w))) ρ) : WT (true, true, eb) (d + 5) 133 [vR 2 0, vR 7 l, vI x, vI w] σ P := by
  refine WT_in fun K hK => ?_
  have hK : StpY (true, true, eb) cX5_comesToWithout RX5 (some .int) (WT (true, true, eb) (d + 4)) P K := hK
  have hM := hK.1
  have hC := hK.1.1
  show K 0 [some (vR 2 0), some (vR 7 l), some (vI x), some (vI w), none] [] σ
  refine z_ok hM (fun hok => ?_)
  refine r_rngz hC (fun g0 => ?_)
  have r_w : -2147483648 ≤ w ∧ w ≤ 2147483647 := inR_le (g0 (vI w) (by simp))
  have hcl := hG.2.1.2.2.2.2.2.2.2
  have hrow := hG.2.1.2.2.1
  have h6_0 := hG.1.h7 (l := l) (by omega) (by omega)
  have hO_0 := (hG.2.1.2.2.2.1 l (by omega) (by omega)).2
  refine r_aload_n hC dX5_comesToWithout_0 rfl ?_
  refine r_aload_n hC dX5_comesToWithout_1 rfl ?_
  refine r_iconst hC dX5_comesToWithout_2 rfl ?_
  refine r_iload_n hC dX5_comesToWithout_3 rfl ?_
  refine z_inv3 hM dX5_comesToWithout_4 vl_RX5_259 rfl rfl rfl (Nat.le_of_ble_eq_true rfl) (Nat.le_of_ble_eq_true rfl) ?_
  refine x_foldPart (i := l) (f := 0) (z := x) (by omega) (by omega) (by omega) (fun ρ1 g_ρ1 r_ρ1 => ?_)
  have t_ρ1 : ∀ (c : Nat) (p q : Int), ¬ Fo c → ρ1 c p q = σ c p q := fun c p q hc => (g_ρ1 c p q (by omega)).trans ((fun _ _ _ _ => rfl) c p q hc)
  refine r_iload_n hC dX5_comesToWithout_7 rfl ?_
  refine r_iconst hC dX5_comesToWithout_8 rfl ?_
  refine r_iaddE hC ((x + 1)) dX5_comesToWithout_9 (by omega) (by unfold inR; omega) ?_
  refine r_istore hC dX5_comesToWithout_10 rfl ?_
  have L12 : ∀ (n12 : Nat) (w2 : Int) (ρ3 : Mm), 1 ≤ w2 ∧ w2 ≤ 121 → ((w2) ≤ σ 7 l 6) → (x + 1 ≤ (w2)) → 121 - w2 < (n12 : Int) → (∀ (c : Nat) (p q : Int), ¬ Fo c → ρ3 c p q = σ c p q) → (FRc ρ3 (σ 7 l 2) (woU σ l x) ((w2 - 1).toNat)) → K 12 [some (vR 2 0), some (vR 7 l), some (vI x), some (vI w), some (vI w2)] [] ρ3 := by
    intro n12
    induction n12 with
    | zero => intro w2 ρ3 f_w2 i0_12 i1_12 hm  m0_12 m1_12; omega
    | succ n12 ih12 =>
      intro w2 ρ3 f_w2 i0_12 i1_12 hm12  m0_12 m1_12
      refine r_iload hC dX5_comesToWithout_12 rfl ?_
      refine r_aload_n hC dX5_comesToWithout_14 rfl ?_
      refine z_getI (jz := 6) hM dX5_comesToWithout_15 fl_RX5_154 rfl rfl rfl (fun v4 h_v4 o_v4 t_v4 => ?_)
      have w_v4 := ((t_v4 (Or.inl (by first | exact trivial | exact tb7_ (by decide) | simp [Tb]))).trans (m0_12 7 l 6 (by decide))).symm
      clear t_v4
      subst w_v4
      have q_v4 : 0 ≤ (σ 7 l 6) ∧ (σ 7 l 6) ≤ 121 := o_v4.1 rfl
      refine r_icmp_ge (tgt := 41) hC dX5_comesToWithout_18 rfl (fun h5 => ?_) (fun h5 => ?_)
      · refine r_aload_n hC dX5_comesToWithout_41 rfl ?_
        refine z_getR hM dX5_comesToWithout_42 fl_RX5_40 rfl rfl (vld_of (n := 1) rfl (by omega) (by omega)) ?_
        refine r_iload_n hC dX5_comesToWithout_45 rfl ?_
        refine z_inv1 hM dX5_comesToWithout_46 vl_RX5_273 rfl rfl rfl (Nat.le_of_ble_eq_true rfl) (Nat.le_of_ble_eq_true rfl) ?_
        refine x_number (n := (w2 - 1).toNat) (by omega) m1_12.1 m1_12.2.1 (by omega) m1_12 ?_
        rw [show ρ3 16 0 = σ 16 0 from funext fun y => m0_12 16 0 y (by decide), show ρ3 15 0 = σ 15 0 from funext fun y => m0_12 15 0 y (by decide)]
        refine y_iret hK rfl dX5_comesToWithout_49 ?_
        have hR : woV σ l x w = (cm (σ 16 0) (σ 15 0) (σ 7 l 2) (woU σ l x) (w2 - 1).toNat w) := by
          unfold woV
          rw [show (σ 7 l 6 - 1).toNat = (w2 - 1).toNat from by omega]
        rw [hR] at k
        exact k _ (m0_12) (FRc.inF m1_12 (fun j h0 h1 => by rw [m0_12 15 0 j (by decide)]; exact hcl j h0 h1))
      · refine r_aload_n hC dX5_comesToWithout_21 rfl ?_
        refine z_getR hM dX5_comesToWithout_22 fl_RX5_40 rfl rfl (vld_of (n := 1) rfl (by omega) (by omega)) ?_
        refine r_aload_n hC dX5_comesToWithout_25 rfl ?_
        refine z_getR hM dX5_comesToWithout_26 fl_RX5_176 rfl rfl (vld_of (n := 7) rfl (by omega) (by omega)) ?_
        refine r_iload hC dX5_comesToWithout_29 rfl ?_
        refine z_iald hM dX5_comesToWithout_31 rfl (by omega) (by omega) (fun v6 h_v6 o_v6 t_v6 => ?_)
        have w_v6 := ((t_v6 (Or.inl (by first | exact trivial | exact tb7_ (by decide) | simp [Tb]))).trans (m0_12 9 l w2 (by decide))).symm
        clear t_v6
        subst w_v6
        have q_v6 : -1000 ≤ (σ 9 l w2) ∧ (σ 9 l w2) ≤ 1000 := o_v6
        refine z_inv1 hM dX5_comesToWithout_32 vl_RX5_253 rfl rfl rfl (Nat.le_of_ble_eq_true rfl) (Nat.le_of_ble_eq_true rfl) ?_
        refine x_append2 (u := (woU σ l x)) (n := (w2 - 1).toNat) (by show (σ 9 l w2) = woU σ l x (((w2 - 1).toNat : Nat) : Int); unfold woU; rw [if_neg (by omega)]; exact congrArg (σ 9 l) (by omega)) (by omega) (by omega) (by omega) (fun j h0 h1 => by unfold woU; split; exact (hrow l j (by omega) (by omega) (by omega) (by omega)).2; exact (hrow l (j + 1) (by omega) (by omega) (by omega) (by omega)).2) m1_12 (fun j h0 h1 => by rw [m0_12 15 0 j (by decide)]; exact hcl j h0 h1) (fun ρ7 g_ρ7 r_ρ7 => ?_)
        have t_ρ7 : ∀ (c : Nat) (p q : Int), ¬ Fo c → ρ7 c p q = σ c p q := fun c p q hc => (g_ρ7 c p q (by omega)).trans (m0_12 c p q hc)
        refine r_iincE hC ((w2 + 1)) dX5_comesToWithout_35 rfl rfl (by omega) (by unfold inR; omega) ?_
        refine r_goto (tgt := 12) hC dX5_comesToWithout_38 rfl ?_
        exact ih12 ((w2 + 1)) ρ7 (by omega) (by omega) (by omega) (by omega)  (t_ρ7) (by rw [show ((((w2 + 1) - 1 : Int)).toNat : Nat) = ((w2 - 1).toNat + 1) from by omega]; exact r_ρ7)
  exact L12 123 ((x + 1)) ρ1 (by omega) (by omega) (by omega) (by omega)  (t_ρ1) (by rw [show (x + 1 - 1).toNat = (x - 0).toNat from by omega]; exact r_ρ1.cg (fun j a b => by show woU σ l x j = σ 9 l (0 + j); unfold woU; rw [if_pos (by omega), Int.zero_add]))
theorem x_comesToWithout {eb : Bool} {d : Nat} {P : Option Vl → Mm → Prop} {σ : Mm} {x w l : Int} (b_l : 0 ≤ l ∧ l ≤ 3) (b_x : 0 ≤ x ∧ x ≤ 119) (hx : x < σ 7 l 6) (hG : GI σ) (k : P (some (vI (woV σ l x w))) σ) : WT (true, false, eb) (d + 5) 133 [vR 2 0, vR 7 l, vI x, vI w] σ P := WT_fold fun ρ e hI => x_comesToWithout_S b_l b_x hI (hG.fo e) (by rw [e 7 (by decide)]; exact hx) (fun ρ2 gq hI2 => ⟨hI2, σ, by
    have hc : woV ρ l x w = woV σ l x w := by (delta woV woU; simp only [e 7 (by decide), e 8 (by decide), e 9 (by decide), e 15 (by decide), e 16 (by decide)])
    rw [hc]
    exact k, fun c x y hc => (gq c x y hc).trans (by rw [e c hc])⟩)
-- B: the class: what is asked with a fold, II
theorem x_woven_S {eb : Bool} {d : Nat} {P : Option Vl → Mm → Prop} {σ : Mm} {l o w : Int}  (hI : InF σ) (hG : GI σ)  (k : ∀ ρ : Mm, (∀ (c : Nat) (x y : Int), ¬ Fo c → ρ c x y = σ c x y) → InF ρ → P (some (vI (wvR σ l o w))) ρ) : WT (true, true, eb) (d + 5) 87 [vR 2 0, vI l, vI o, vI w] σ P := by
  refine WT_in fun K hK => ?_
  have hK : StpY (true, true, eb) cX5_woven RX5 (some .int) (WT (true, true, eb) (d + 4)) P K := hK
  have hM := hK.1
  have hC := hK.1.1
  show K 0 [some (vR 2 0), some (vI l), some (vI o), some (vI w), none, none, none, none, none, none] [] σ
  refine z_ok hM (fun hok => ?_)
  refine r_rngz hC (fun g0 => ?_)
  have r_l : -2147483648 ≤ l ∧ l ≤ 2147483647 := inR_le (g0 (vI l) (by simp))
  have r_o : -2147483648 ≤ o ∧ o ≤ 2147483647 := inR_le (g0 (vI o) (by simp))
  have r_w : -2147483648 ≤ w ∧ w ≤ 2147483647 := inR_le (g0 (vI w) (by simp))
  have hcl := hG.2.1.2.2.2.2.2.2.2
  have hrow := hG.2.1.2.2.1
  refine r_aload_n hC dX5_woven_0 rfl ?_
  refine r_iload_n hC dX5_woven_1 rfl ?_
  refine r_iload_n hC dX5_woven_2 rfl ?_
  refine z_inv2 hM dX5_woven_3 vl_RX5_248 rfl rfl rfl (Nat.le_of_ble_eq_true rfl) (Nat.le_of_ble_eq_true rfl) ?_
  refine x_laneWith (fun hl_3 => ?_) (fun hl_3 => ?_)
  · have h6_3 := hG.1.h7 (l := l) (by omega) (by omega)
    have hN_3 := numF_rng (σ 7 l 2)
    have hO_3 := (hG.2.1.2.2.2.1 l (by omega) (by omega)).2
    refine r_astore hC dX5_woven_6 rfl ?_
    refine r_aload_n hC dX5_woven_8 rfl ?_
    refine r_iload_n hC dX5_woven_9 rfl ?_
    refine z_inv1 hM dX5_woven_10 vl_RX5_123 rfl rfl rfl (Nat.le_of_ble_eq_true rfl) (Nat.le_of_ble_eq_true rfl) ?_
    refine x_openLane (fun hl_10 => ?_) (fun hl_10 => ?_)
    · have h6_10 := hG.1.h7 (l := o) (by omega) (by omega)
      have hN_10 := numF_rng (σ 7 o 2)
      have hO_10 := (hG.2.1.2.2.2.1 o (by omega) (by omega)).2
      refine r_astore hC dX5_woven_13 rfl ?_
      refine r_aload hC dX5_woven_15 rfl ?_
      refine r_ifnullR hC dX5_woven_17 ?_
      refine r_aload hC dX5_woven_20 rfl ?_
      refine r_ifnullR hC dX5_woven_22 ?_
      refine r_aload hC dX5_woven_25 rfl ?_
      refine z_getI (jz := 2) hM dX5_woven_27 fl_RX5_98 rfl rfl rfl (fun v1 h_v1 o_v1 t_v1 => ?_)
      have w_v1 := ((t_v1 (Or.inl (by first | exact trivial | exact tb7_ (by decide) | simp [Tb]))).trans (rfl)).symm
      clear t_v1
      subst w_v1
      have q_v1 : 0 ≤ (σ 7 l 2) ∧ (σ 7 l 2) ≤ 9 := o_v1.2.2 rfl
      refine r_aload hC dX5_woven_30 rfl ?_
      refine z_getI (jz := 2) hM dX5_woven_32 fl_RX5_98 rfl rfl rfl (fun v2 h_v2 o_v2 t_v2 => ?_)
      have w_v2 := ((t_v2 (Or.inl (by first | exact trivial | exact tb7_ (by decide) | simp [Tb]))).trans (rfl)).symm
      clear t_v2
      subst w_v2
      have q_v2 : 0 ≤ (σ 7 o 2) ∧ (σ 7 o 2) ≤ 9 := o_v2.2.2 rfl
      refine r_icmp_eq (tgt := 41) hC dX5_woven_35 rfl (fun h3 => ?_) (fun h3 => ?_)
      · refine r_aload_n hC dX5_woven_41 rfl ?_
        refine z_getR hM dX5_woven_42 fl_RX5_40 rfl rfl (vld_of (n := 1) rfl (by omega) (by omega)) ?_
        refine r_aload hC dX5_woven_45 rfl ?_
        refine z_getI (jz := 2) hM dX5_woven_47 fl_RX5_98 rfl rfl rfl (fun v4 h_v4 o_v4 t_v4 => ?_)
        have w_v4 := ((t_v4 (Or.inl (by first | exact trivial | exact tb7_ (by decide) | simp [Tb]))).trans (rfl)).symm
        clear t_v4
        subst w_v4
        have q_v4 : 0 ≤ (σ 7 l 2) ∧ (σ 7 l 2) ≤ 9 := o_v4.2.2 rfl
        refine z_inv1 hM dX5_woven_50 vl_RX5_251 rfl rfl rfl (Nat.le_of_ble_eq_true rfl) (Nat.le_of_ble_eq_true rfl) ?_
        refine x_begin (by omega) rfl rfl rfl rfl rfl rfl rfl rfl rfl rfl (fun ρ5 g_ρ5 z_ρ5 => ?_)
        have t_ρ5 : ∀ (c : Nat) (p q : Int), ¬ Fo c → ρ5 c p q = σ c p q := fun c p q hc => (g_ρ5 c p q (by omega)).trans ((fun _ _ _ _ => rfl) c p q hc)
        refine r_iconst hC dX5_woven_53 rfl ?_
        refine r_istore hC dX5_woven_54 rfl ?_
        refine r_iconst hC dX5_woven_56 rfl ?_
        refine r_istore hC dX5_woven_57 rfl ?_
        refine r_aload hC dX5_woven_59 rfl ?_
        refine z_getI (jz := 6) hM dX5_woven_61 fl_RX5_154 rfl rfl rfl (fun v6 h_v6 o_v6 t_v6 => ?_)
        have w_v6 := ((t_v6 (Or.inl (by first | exact trivial | exact tb7_ (by decide) | simp [Tb]))).trans (t_ρ5 7 l 6 (by decide))).symm
        clear t_v6
        subst w_v6
        have q_v6 : 0 ≤ (σ 7 l 6) ∧ (σ 7 l 6) ≤ 121 := o_v6.1 rfl
        refine r_aload hC dX5_woven_64 rfl ?_
        refine z_getI (jz := 6) hM dX5_woven_66 fl_RX5_154 rfl rfl rfl (fun v7 h_v7 o_v7 t_v7 => ?_)
        have w_v7 := ((t_v7 (Or.inl (by first | exact trivial | exact tb7_ (by decide) | simp [Tb]))).trans (t_ρ5 7 o 6 (by decide))).symm
        clear t_v7
        subst w_v7
        have q_v7 : 0 ≤ (σ 7 o 6) ∧ (σ 7 o 6) ≤ 121 := o_v7.1 rfl
        refine r_iaddE hC (((σ 7 l 6) + (σ 7 o 6))) dX5_woven_69 (by omega) (by unfold inR; omega) ?_
        refine r_istore hC dX5_woven_70 rfl ?_
        have L72 : ∀ (n72 : Nat) (w8 w9 w10 : Int) (ρ11 : Mm), 0 ≤ w8 ∧ w8 ≤ 121 → 0 ≤ w9 ∧ w9 ≤ 242 → 0 ≤ w10 ∧ w10 ≤ 121 → ((w8) = wvI σ l o ((w8) + (w10)).toNat) → ((w9) = σ 7 l 6 + σ 7 o 6 - (w8) - (w10)) → ((w8) ≤ σ 7 l 6) → ((w10) ≤ σ 7 o 6) → w9 < (n72 : Int) → (∀ (c : Nat) (p q : Int), ¬ Fo c → ρ11 c p q = σ c p q) → (FRc ρ11 (σ 7 l 2) (wvU σ l o) ((w8 + w10).toNat)) → K 72 [some (vR 2 0), some (vI l), some (vI o), some (vI w), some (vR 7 l), some (vR 7 o), some (vI w8), some (vI w10), some (vI w9), none] [] ρ11 := by
          intro n72
          induction n72 with
          | zero => intro w8 w9 w10 ρ11 f_w8 f_w9 f_w10 i0_72 i1_72 i2_72 i3_72 hm  m0_72 m1_72; omega
          | succ n72 ih72 =>
            intro w8 w9 w10 ρ11 f_w8 f_w9 f_w10 i0_72 i1_72 i2_72 i3_72 hm72  m0_72 m1_72
            refine r_iload hC dX5_woven_72 rfl ?_
            refine r_if_le (tgt := 190) hC dX5_woven_74 rfl (fun h12 => ?_) (fun h12 => ?_)
            · refine r_aload_n hC dX5_woven_190 rfl ?_
              refine z_getR hM dX5_woven_191 fl_RX5_40 rfl rfl (vld_of (n := 1) rfl (by omega) (by omega)) ?_
              refine r_iload_n hC dX5_woven_194 rfl ?_
              refine z_inv1 hM dX5_woven_195 vl_RX5_273 rfl rfl rfl (Nat.le_of_ble_eq_true rfl) (Nat.le_of_ble_eq_true rfl) ?_
              refine x_number (n := (w8 + w10).toNat) (by omega) m1_72.1 m1_72.2.1 (by omega) m1_72 ?_
              rw [show ρ11 16 0 = σ 16 0 from funext fun y => m0_72 16 0 y (by decide), show ρ11 15 0 = σ 15 0 from funext fun y => m0_72 15 0 y (by decide)]
              refine y_iret hK rfl dX5_woven_198 ?_
              have hR : wvR σ l o w = (cm (σ 16 0) (σ 15 0) (σ 7 l 2) (wvU σ l o) (w8 + w10).toNat w) := by
                unfold wvR
                rw [if_pos (by unfold lkC2 lwC opV; omega), show (σ 7 l 6 + σ 7 o 6).toNat = (w8 + w10).toNat from by omega]
              rw [hR] at k
              exact k _ (m0_72) (FRc.inF m1_72 (fun j h0 h1 => by rw [m0_72 15 0 j (by decide)]; exact hcl j h0 h1))
            · refine r_iload hC dX5_woven_77 rfl ?_
              refine r_aload hC dX5_woven_79 rfl ?_
              refine z_getI (jz := 6) hM dX5_woven_81 fl_RX5_154 rfl rfl rfl (fun v13 h_v13 o_v13 t_v13 => ?_)
              have w_v13 := ((t_v13 (Or.inl (by first | exact trivial | exact tb7_ (by decide) | simp [Tb]))).trans (m0_72 7 o 6 (by decide))).symm
              clear t_v13
              subst w_v13
              have q_v13 : 0 ≤ (σ 7 o 6) ∧ (σ 7 o 6) ≤ 121 := o_v13.1 rfl
              refine r_icmp_ge (tgt := 116) hC dX5_woven_84 rfl (fun h14 => ?_) (fun h14 => ?_)
              · refine r_iconst hC dX5_woven_116 rfl ?_
                refine r_goto (tgt := 121) hC dX5_woven_117 rfl ?_
                refine r_istore hC dX5_woven_121 rfl ?_
                refine r_aload_n hC dX5_woven_123 rfl ?_
                refine z_getR hM dX5_woven_124 fl_RX5_40 rfl rfl (vld_of (n := 1) rfl (by omega) (by omega)) ?_
                refine r_iload hC dX5_woven_127 rfl ?_
                refine r_if_eq (tgt := 143) hC dX5_woven_129 rfl (fun h15 => by omega) (fun h15 => ?_)
                refine r_aload hC dX5_woven_132 rfl ?_
                refine z_getR hM dX5_woven_134 fl_RX5_176 rfl rfl (vld_of (n := 7) rfl (by omega) (by omega)) ?_
                refine r_iload hC dX5_woven_137 rfl ?_
                refine z_iald hM dX5_woven_139 rfl (by omega) (by omega) (fun v16 h_v16 o_v16 t_v16 => ?_)
                have w_v16 := ((t_v16 (Or.inl (by first | exact trivial | exact tb7_ (by decide) | simp [Tb]))).trans (m0_72 9 l w8 (by decide))).symm
                clear t_v16
                subst w_v16
                have q_v16 : -1000 ≤ (σ 9 l w8) ∧ (σ 9 l w8) ≤ 1000 := o_v16
                refine r_goto (tgt := 151) hC dX5_woven_140 rfl ?_
                refine z_inv1 hM dX5_woven_151 vl_RX5_253 rfl rfl rfl (Nat.le_of_ble_eq_true rfl) (Nat.le_of_ble_eq_true rfl) ?_
                refine x_append2 (u := (wvU σ l o)) (n := (w8 + w10).toNat) (wvU_y (i := w8) (k := w10) (by omega) (i0_72.trans (congrArg (wvI σ l o) (by omega))) (by unfold wvC; omega)) (by omega) (by omega) (by omega) (fun j h0 h1 => wvU_b h6_3 h6_10 (fun y a b => (hrow l y (by omega) (by omega) a b).2) (fun y a b => (hrow o y (by omega) (by omega) a b).2) h0 (by omega)) m1_72 (fun j h0 h1 => by rw [m0_72 15 0 j (by decide)]; exact hcl j h0 h1) (fun ρ17 g_ρ17 r_ρ17 => ?_)
                have t_ρ17 : ∀ (c : Nat) (p q : Int), ¬ Fo c → ρ17 c p q = σ c p q := fun c p q hc => (g_ρ17 c p q (by omega)).trans (m0_72 c p q hc)
                refine r_iload hC dX5_woven_154 rfl ?_
                refine r_iload hC dX5_woven_156 rfl ?_
                refine r_if_eq (tgt := 165) hC dX5_woven_158 rfl (fun h18 => by omega) (fun h18 => ?_)
                refine r_iconst hC dX5_woven_161 rfl ?_
                refine r_goto (tgt := 166) hC dX5_woven_162 rfl ?_
                refine r_iaddE hC ((w8 + 1)) dX5_woven_166 (by omega) (by unfold inR; omega) ?_
                refine r_istore hC dX5_woven_167 rfl ?_
                refine r_iload hC dX5_woven_169 rfl ?_
                refine r_iload hC dX5_woven_171 rfl ?_
                refine r_if_eq (tgt := 180) hC dX5_woven_173 rfl (fun h19 => by omega) (fun h19 => ?_)
                refine r_iconst hC dX5_woven_176 rfl ?_
                refine r_goto (tgt := 181) hC dX5_woven_177 rfl ?_
                refine r_iaddE hC (w10) dX5_woven_181 (by omega) (by unfold inR; omega) ?_
                refine r_istore hC dX5_woven_182 rfl ?_
                show K _ [_, _, _, _, _, _, _, _, _, _] _ _
                refine r_iincE hC ((w9 - 1)) dX5_woven_184 rfl rfl (by omega) (by unfold inR; omega) ?_
                refine r_goto (tgt := 72) hC dX5_woven_187 rfl ?_
                refine r_forget hC (ls2 := [some (vR 2 0), some (vI l), some (vI o), some (vI w), some (vR 7 l), some (vR 7 o), some (vI (w8 + 1)), some (vI w10), some (vI (w9 - 1)), none]) (lsub_some (lsub_some (lsub_some (lsub_some (lsub_some (lsub_some (lsub_some (lsub_some (lsub_some (lsub_none lsub_nil)))))))))) ?_
                exact ih72 ((w8 + 1)) ((w9 - 1)) (w10) ρ17 (by omega) (by omega) (by omega) (by first | rfl | exact wvI_y (by omega) i0_72 (by unfold wvC; omega) | exact wvI_n (by omega) i0_72 (by unfold wvC; omega)) (by omega) (by omega) (by omega) (by omega)  (t_ρ17) (by rw [show ((((w8 + 1) + w10 : Int)).toNat : Nat) = ((w8 + w10).toNat + 1) from by omega]; exact r_ρ17)
              · refine r_iload hC dX5_woven_87 rfl ?_
                refine r_aload hC dX5_woven_89 rfl ?_
                refine z_getI (jz := 6) hM dX5_woven_91 fl_RX5_154 rfl rfl rfl (fun v20 h_v20 o_v20 t_v20 => ?_)
                have w_v20 := ((t_v20 (Or.inl (by first | exact trivial | exact tb7_ (by decide) | simp [Tb]))).trans (m0_72 7 l 6 (by decide))).symm
                clear t_v20
                subst w_v20
                have q_v20 : 0 ≤ (σ 7 l 6) ∧ (σ 7 l 6) ≤ 121 := o_v20.1 rfl
                refine r_icmp_ge (tgt := 120) hC dX5_woven_94 rfl (fun h21 => ?_) (fun h21 => ?_)
                · refine r_iconst hC dX5_woven_120 rfl ?_
                  refine r_istore hC dX5_woven_121 rfl ?_
                  refine r_aload_n hC dX5_woven_123 rfl ?_
                  refine z_getR hM dX5_woven_124 fl_RX5_40 rfl rfl (vld_of (n := 1) rfl (by omega) (by omega)) ?_
                  refine r_iload hC dX5_woven_127 rfl ?_
                  refine r_if_eq (tgt := 143) hC dX5_woven_129 rfl (fun h22 => ?_) (fun h22 => by omega)
                  refine r_aload hC dX5_woven_143 rfl ?_
                  refine z_getR hM dX5_woven_145 fl_RX5_176 rfl rfl (vld_of (n := 7) rfl (by omega) (by omega)) ?_
                  refine r_iload hC dX5_woven_148 rfl ?_
                  refine z_iald hM dX5_woven_150 rfl (by omega) (by omega) (fun v23 h_v23 o_v23 t_v23 => ?_)
                  have w_v23 := ((t_v23 (Or.inl (by first | exact trivial | exact tb7_ (by decide) | simp [Tb]))).trans (m0_72 9 o w10 (by decide))).symm
                  clear t_v23
                  subst w_v23
                  have q_v23 : -1000 ≤ (σ 9 o w10) ∧ (σ 9 o w10) ≤ 1000 := o_v23
                  refine z_inv1 hM dX5_woven_151 vl_RX5_253 rfl rfl rfl (Nat.le_of_ble_eq_true rfl) (Nat.le_of_ble_eq_true rfl) ?_
                  refine x_append2 (u := (wvU σ l o)) (n := (w8 + w10).toNat) (wvU_n (i := w8) (k := w10) (by omega) (i0_72.trans (congrArg (wvI σ l o) (by omega))) (by unfold wvC; omega)) (by omega) (by omega) (by omega) (fun j h0 h1 => wvU_b h6_3 h6_10 (fun y a b => (hrow l y (by omega) (by omega) a b).2) (fun y a b => (hrow o y (by omega) (by omega) a b).2) h0 (by omega)) m1_72 (fun j h0 h1 => by rw [m0_72 15 0 j (by decide)]; exact hcl j h0 h1) (fun ρ24 g_ρ24 r_ρ24 => ?_)
                  have t_ρ24 : ∀ (c : Nat) (p q : Int), ¬ Fo c → ρ24 c p q = σ c p q := fun c p q hc => (g_ρ24 c p q (by omega)).trans (m0_72 c p q hc)
                  refine r_iload hC dX5_woven_154 rfl ?_
                  refine r_iload hC dX5_woven_156 rfl ?_
                  refine r_if_eq (tgt := 165) hC dX5_woven_158 rfl (fun h25 => ?_) (fun h25 => by omega)
                  refine r_iconst hC dX5_woven_165 rfl ?_
                  refine r_iaddE hC (w8) dX5_woven_166 (by omega) (by unfold inR; omega) ?_
                  refine r_istore hC dX5_woven_167 rfl ?_
                  refine r_iload hC dX5_woven_169 rfl ?_
                  refine r_iload hC dX5_woven_171 rfl ?_
                  refine r_if_eq (tgt := 180) hC dX5_woven_173 rfl (fun h26 => ?_) (fun h26 => by omega)
                  refine r_iconst hC dX5_woven_180 rfl ?_
                  refine r_iaddE hC ((w10 + 1)) dX5_woven_181 (by omega) (by unfold inR; omega) ?_
                  refine r_istore hC dX5_woven_182 rfl ?_
                  show K _ [_, _, _, _, _, _, _, _, _, _] _ _
                  refine r_iincE hC ((w9 - 1)) dX5_woven_184 rfl rfl (by omega) (by unfold inR; omega) ?_
                  refine r_goto (tgt := 72) hC dX5_woven_187 rfl ?_
                  refine r_forget hC (ls2 := [some (vR 2 0), some (vI l), some (vI o), some (vI w), some (vR 7 l), some (vR 7 o), some (vI w8), some (vI (w10 + 1)), some (vI (w9 - 1)), none]) (lsub_some (lsub_some (lsub_some (lsub_some (lsub_some (lsub_some (lsub_some (lsub_some (lsub_some (lsub_none lsub_nil)))))))))) ?_
                  exact ih72 (w8) ((w9 - 1)) ((w10 + 1)) ρ24 (by omega) (by omega) (by omega) (by first | rfl | exact wvI_y (by omega) i0_72 (by unfold wvC; omega) | exact wvI_n (by omega) i0_72 (by unfold wvC; omega)) (by omega) (by omega) (by omega) (by omega)  (t_ρ24) (by rw [show (((w8 + (w10 + 1) : Int)).toNat : Nat) = ((w8 + w10).toNat + 1) from by omega]; exact r_ρ24)
                · refine r_aload hC dX5_woven_97 rfl ?_
                  refine z_getR hM dX5_woven_99 fl_RX5_198 rfl rfl (vld_of (n := 7) rfl (by omega) (by omega)) ?_
                  refine r_iload hC dX5_woven_102 rfl ?_
                  refine z_iald hM dX5_woven_104 rfl (by omega) (by omega) (fun v27 h_v27 o_v27 t_v27 => ?_)
                  have w_v27 := ((t_v27 (Or.inl (by first | exact trivial | exact tb7_ (by decide) | simp [Tb]))).trans (m0_72 8 l w8 (by decide))).symm
                  clear t_v27
                  subst w_v27
                  refine r_aload hC dX5_woven_105 rfl ?_
                  refine z_getR hM dX5_woven_107 fl_RX5_198 rfl rfl (vld_of (n := 7) rfl (by omega) (by omega)) ?_
                  refine r_iload hC dX5_woven_110 rfl ?_
                  refine z_iald hM dX5_woven_112 rfl (by omega) (by omega) (fun v28 h_v28 o_v28 t_v28 => ?_)
                  have w_v28 := ((t_v28 (Or.inl (by first | exact trivial | exact tb7_ (by decide) | simp [Tb]))).trans (m0_72 8 o w10 (by decide))).symm
                  clear t_v28
                  subst w_v28
                  refine r_icmp_gt (tgt := 120) hC dX5_woven_113 rfl (fun h29 => ?_) (fun h29 => ?_)
                  · refine r_iconst hC dX5_woven_120 rfl ?_
                    refine r_istore hC dX5_woven_121 rfl ?_
                    refine r_aload_n hC dX5_woven_123 rfl ?_
                    refine z_getR hM dX5_woven_124 fl_RX5_40 rfl rfl (vld_of (n := 1) rfl (by omega) (by omega)) ?_
                    refine r_iload hC dX5_woven_127 rfl ?_
                    refine r_if_eq (tgt := 143) hC dX5_woven_129 rfl (fun h30 => ?_) (fun h30 => by omega)
                    refine r_aload hC dX5_woven_143 rfl ?_
                    refine z_getR hM dX5_woven_145 fl_RX5_176 rfl rfl (vld_of (n := 7) rfl (by omega) (by omega)) ?_
                    refine r_iload hC dX5_woven_148 rfl ?_
                    refine z_iald hM dX5_woven_150 rfl (by omega) (by omega) (fun v31 h_v31 o_v31 t_v31 => ?_)
                    have w_v31 := ((t_v31 (Or.inl (by first | exact trivial | exact tb7_ (by decide) | simp [Tb]))).trans (m0_72 9 o w10 (by decide))).symm
                    clear t_v31
                    subst w_v31
                    have q_v31 : -1000 ≤ (σ 9 o w10) ∧ (σ 9 o w10) ≤ 1000 := o_v31
                    refine z_inv1 hM dX5_woven_151 vl_RX5_253 rfl rfl rfl (Nat.le_of_ble_eq_true rfl) (Nat.le_of_ble_eq_true rfl) ?_
                    refine x_append2 (u := (wvU σ l o)) (n := (w8 + w10).toNat) (wvU_n (i := w8) (k := w10) (by omega) (i0_72.trans (congrArg (wvI σ l o) (by omega))) (by unfold wvC; omega)) (by omega) (by omega) (by omega) (fun j h0 h1 => wvU_b h6_3 h6_10 (fun y a b => (hrow l y (by omega) (by omega) a b).2) (fun y a b => (hrow o y (by omega) (by omega) a b).2) h0 (by omega)) m1_72 (fun j h0 h1 => by rw [m0_72 15 0 j (by decide)]; exact hcl j h0 h1) (fun ρ32 g_ρ32 r_ρ32 => ?_)
                    have t_ρ32 : ∀ (c : Nat) (p q : Int), ¬ Fo c → ρ32 c p q = σ c p q := fun c p q hc => (g_ρ32 c p q (by omega)).trans (m0_72 c p q hc)
                    refine r_iload hC dX5_woven_154 rfl ?_
                    refine r_iload hC dX5_woven_156 rfl ?_
                    refine r_if_eq (tgt := 165) hC dX5_woven_158 rfl (fun h33 => ?_) (fun h33 => by omega)
                    refine r_iconst hC dX5_woven_165 rfl ?_
                    refine r_iaddE hC (w8) dX5_woven_166 (by omega) (by unfold inR; omega) ?_
                    refine r_istore hC dX5_woven_167 rfl ?_
                    refine r_iload hC dX5_woven_169 rfl ?_
                    refine r_iload hC dX5_woven_171 rfl ?_
                    refine r_if_eq (tgt := 180) hC dX5_woven_173 rfl (fun h34 => ?_) (fun h34 => by omega)
                    refine r_iconst hC dX5_woven_180 rfl ?_
                    refine r_iaddE hC ((w10 + 1)) dX5_woven_181 (by omega) (by unfold inR; omega) ?_
                    refine r_istore hC dX5_woven_182 rfl ?_
                    show K _ [_, _, _, _, _, _, _, _, _, _] _ _
                    refine r_iincE hC ((w9 - 1)) dX5_woven_184 rfl rfl (by omega) (by unfold inR; omega) ?_
                    refine r_goto (tgt := 72) hC dX5_woven_187 rfl ?_
                    refine r_forget hC (ls2 := [some (vR 2 0), some (vI l), some (vI o), some (vI w), some (vR 7 l), some (vR 7 o), some (vI w8), some (vI (w10 + 1)), some (vI (w9 - 1)), none]) (lsub_some (lsub_some (lsub_some (lsub_some (lsub_some (lsub_some (lsub_some (lsub_some (lsub_some (lsub_none lsub_nil)))))))))) ?_
                    exact ih72 (w8) ((w9 - 1)) ((w10 + 1)) ρ32 (by omega) (by omega) (by omega) (by first | rfl | exact wvI_y (by omega) i0_72 (by unfold wvC; omega) | exact wvI_n (by omega) i0_72 (by unfold wvC; omega)) (by omega) (by omega) (by omega) (by omega)  (t_ρ32) (by rw [show (((w8 + (w10 + 1) : Int)).toNat : Nat) = ((w8 + w10).toNat + 1) from by omega]; exact r_ρ32)
                  · refine r_iconst hC dX5_woven_116 rfl ?_
                    refine r_goto (tgt := 121) hC dX5_woven_117 rfl ?_
                    refine r_istore hC dX5_woven_121 rfl ?_
                    refine r_aload_n hC dX5_woven_123 rfl ?_
                    refine z_getR hM dX5_woven_124 fl_RX5_40 rfl rfl (vld_of (n := 1) rfl (by omega) (by omega)) ?_
                    refine r_iload hC dX5_woven_127 rfl ?_
                    refine r_if_eq (tgt := 143) hC dX5_woven_129 rfl (fun h35 => by omega) (fun h35 => ?_)
                    refine r_aload hC dX5_woven_132 rfl ?_
                    refine z_getR hM dX5_woven_134 fl_RX5_176 rfl rfl (vld_of (n := 7) rfl (by omega) (by omega)) ?_
                    refine r_iload hC dX5_woven_137 rfl ?_
                    refine z_iald hM dX5_woven_139 rfl (by omega) (by omega) (fun v36 h_v36 o_v36 t_v36 => ?_)
                    have w_v36 := ((t_v36 (Or.inl (by first | exact trivial | exact tb7_ (by decide) | simp [Tb]))).trans (m0_72 9 l w8 (by decide))).symm
                    clear t_v36
                    subst w_v36
                    have q_v36 : -1000 ≤ (σ 9 l w8) ∧ (σ 9 l w8) ≤ 1000 := o_v36
                    refine r_goto (tgt := 151) hC dX5_woven_140 rfl ?_
                    refine z_inv1 hM dX5_woven_151 vl_RX5_253 rfl rfl rfl (Nat.le_of_ble_eq_true rfl) (Nat.le_of_ble_eq_true rfl) ?_
                    refine x_append2 (u := (wvU σ l o)) (n := (w8 + w10).toNat) (wvU_y (i := w8) (k := w10) (by omega) (i0_72.trans (congrArg (wvI σ l o) (by omega))) (by unfold wvC; omega)) (by omega) (by omega) (by omega) (fun j h0 h1 => wvU_b h6_3 h6_10 (fun y a b => (hrow l y (by omega) (by omega) a b).2) (fun y a b => (hrow o y (by omega) (by omega) a b).2) h0 (by omega)) m1_72 (fun j h0 h1 => by rw [m0_72 15 0 j (by decide)]; exact hcl j h0 h1) (fun ρ37 g_ρ37 r_ρ37 => ?_)
                    have t_ρ37 : ∀ (c : Nat) (p q : Int), ¬ Fo c → ρ37 c p q = σ c p q := fun c p q hc => (g_ρ37 c p q (by omega)).trans (m0_72 c p q hc)
                    refine r_iload hC dX5_woven_154 rfl ?_
                    refine r_iload hC dX5_woven_156 rfl ?_
                    refine r_if_eq (tgt := 165) hC dX5_woven_158 rfl (fun h38 => by omega) (fun h38 => ?_)
                    refine r_iconst hC dX5_woven_161 rfl ?_
                    refine r_goto (tgt := 166) hC dX5_woven_162 rfl ?_
                    refine r_iaddE hC ((w8 + 1)) dX5_woven_166 (by omega) (by unfold inR; omega) ?_
                    refine r_istore hC dX5_woven_167 rfl ?_
                    refine r_iload hC dX5_woven_169 rfl ?_
                    refine r_iload hC dX5_woven_171 rfl ?_
                    refine r_if_eq (tgt := 180) hC dX5_woven_173 rfl (fun h39 => by omega) (fun h39 => ?_)
                    refine r_iconst hC dX5_woven_176 rfl ?_
                    refine r_goto (tgt := 181) hC dX5_woven_177 rfl ?_
                    refine r_iaddE hC (w10) dX5_woven_181 (by omega) (by unfold inR; omega) ?_
                    refine r_istore hC dX5_woven_182 rfl ?_
                    show K _ [_, _, _, _, _, _, _, _, _, _] _ _
                    refine r_iincE hC ((w9 - 1)) dX5_woven_184 rfl rfl (by omega) (by unfold inR; omega) ?_
                    refine r_goto (tgt := 72) hC dX5_woven_187 rfl ?_
                    refine r_forget hC (ls2 := [some (vR 2 0), some (vI l), some (vI o), some (vI w), some (vR 7 l), some (vR 7 o), some (vI (w8 + 1)), some (vI w10), some (vI (w9 - 1)), none]) (lsub_some (lsub_some (lsub_some (lsub_some (lsub_some (lsub_some (lsub_some (lsub_some (lsub_some (lsub_none lsub_nil)))))))))) ?_
                    exact ih72 ((w8 + 1)) ((w9 - 1)) (w10) ρ37 (by omega) (by omega) (by omega) (by first | rfl | exact wvI_y (by omega) i0_72 (by unfold wvC; omega) | exact wvI_n (by omega) i0_72 (by unfold wvC; omega)) (by omega) (by omega) (by omega) (by omega)  (t_ρ37) (by rw [show ((((w8 + 1) + w10 : Int)).toNat : Nat) = ((w8 + w10).toNat + 1) from by omega]; exact r_ρ37)
        exact L72 244 (0) (((σ 7 l 6) + (σ 7 o 6))) (0) ρ5 (by omega) (by omega) (by omega) (by first | rfl | exact wvI_y (by omega) i0_72 (by unfold wvC; omega) | exact wvI_n (by omega) i0_72 (by unfold wvC; omega)) (by omega) (by omega) (by omega) (by omega)  (t_ρ5) (by rw [show (((0 + 0 : Int)).toNat : Nat) = 0 from by omega]; exact z_ρ5 (wvU σ l o))
      · refine r_ldc hC dX5_woven_38 co_RX5_175 rfl ?_
        refine y_iret hK rfl dX5_woven_40 ?_
        have hR : wvR σ l o w = (-2147483648) := by
          exact if_neg (by unfold lkC2 lwC opV; omega)
        rw [hR] at k
        exact k _ (fun _ _ _ _ => rfl) hI
    · refine r_astoreN hC dX5_woven_13 rfl ?_
      refine r_aload hC dX5_woven_15 rfl ?_
      refine r_ifnullR hC dX5_woven_17 ?_
      refine r_aloadN hC dX5_woven_20 rfl ?_
      refine r_ifnullN (tgt := 38) hC dX5_woven_22 rfl ?_
      refine r_ldc hC dX5_woven_38 co_RX5_175 rfl ?_
      refine y_iret hK rfl dX5_woven_40 ?_
      have hR : wvR σ l o w = (-2147483648) := by
        exact if_neg (by unfold lkC2 lwC opV; omega)
      rw [hR] at k
      exact k _ (fun _ _ _ _ => rfl) hI
  · refine r_astoreN hC dX5_woven_6 rfl ?_
    refine r_aload_n hC dX5_woven_8 rfl ?_
    refine r_iload_n hC dX5_woven_9 rfl ?_
    refine z_inv1 hM dX5_woven_10 vl_RX5_123 rfl rfl rfl (Nat.le_of_ble_eq_true rfl) (Nat.le_of_ble_eq_true rfl) ?_
    refine x_openLane (fun hl_10 => ?_) (fun hl_10 => ?_)
    · have h6_10 := hG.1.h7 (l := o) (by omega) (by omega)
      have hN_10 := numF_rng (σ 7 o 2)
      have hO_10 := (hG.2.1.2.2.2.1 o (by omega) (by omega)).2
      refine r_astore hC dX5_woven_13 rfl ?_
      refine r_aloadN hC dX5_woven_15 rfl ?_
      refine r_ifnullN (tgt := 38) hC dX5_woven_17 rfl ?_
      refine r_ldc hC dX5_woven_38 co_RX5_175 rfl ?_
      refine y_iret hK rfl dX5_woven_40 ?_
      have hR : wvR σ l o w = (-2147483648) := by
        exact if_neg (by unfold lkC2 lwC opV; omega)
      rw [hR] at k
      exact k _ (fun _ _ _ _ => rfl) hI
    · refine r_astoreN hC dX5_woven_13 rfl ?_
      refine r_aloadN hC dX5_woven_15 rfl ?_
      refine r_ifnullN (tgt := 38) hC dX5_woven_17 rfl ?_
      refine r_ldc hC dX5_woven_38 co_RX5_175 rfl ?_
      refine y_iret hK rfl dX5_woven_40 ?_
      have hR : wvR σ l o w = (-2147483648) := by
        exact if_neg (by unfold lkC2 lwC opV; omega)
      rw [hR] at k
      exact k _ (fun _ _ _ _ => rfl) hI
theorem x_woven {eb : Bool} {d : Nat} {P : Option Vl → Mm → Prop} {σ : Mm} {l o w : Int} (hG : GI σ) (k : P (some (vI (wvR σ l o w))) σ) : WT (true, false, eb) (d + 5) 87 [vR 2 0, vI l, vI o, vI w] σ P := WT_fold fun ρ e hI => x_woven_S hI (hG.fo e) (fun ρ2 gq hI2 => ⟨hI2, σ, by
    have hc : wvR ρ l o w = wvR σ l o w := by (delta wvR wvU wvI lkC2 lwC opV; simp only [e 7 (by decide), e 8 (by decide), e 9 (by decide), e 15 (by decide), e 16 (by decide)])
    rw [hc]
    exact k, fun c x y hc => (gq c x y hc).trans (by rw [e c hc])⟩)
theorem x_session_S {eb : Bool} {d : Nat} {P : Option Vl → Mm → Prop} {σ : Mm} {l g s w : Int}  (hI : InF σ) (hG : GI σ)  (k : ∀ ρ : Mm, (∀ (c : Nat) (x y : Int), ¬ Fo c → ρ c x y = σ c x y) → InF ρ → P (some (vI (seR σ l g s w))) ρ) : WT (true, true, eb) (d + 5) 92 [vR 2 0, vI l, vI g, vI s, vI w] σ P := by
  refine WT_in fun K hK => ?_
  have hK : StpY (true, true, eb) cX5_session RX5 (some .int) (WT (true, true, eb) (d + 4)) P K := hK
  have hM := hK.1
  have hC := hK.1.1
  show K 0 [some (vR 2 0), some (vI l), some (vI g), some (vI s), some (vI w), none, none, none] [] σ
  refine z_ok hM (fun hok => ?_)
  refine r_rngz hC (fun g0 => ?_)
  have r_l : -2147483648 ≤ l ∧ l ≤ 2147483647 := inR_le (g0 (vI l) (by simp))
  have r_g : -2147483648 ≤ g ∧ g ≤ 2147483647 := inR_le (g0 (vI g) (by simp))
  have r_s : -2147483648 ≤ s ∧ s ≤ 2147483647 := inR_le (g0 (vI s) (by simp))
  have r_w : -2147483648 ≤ w ∧ w ≤ 2147483647 := inR_le (g0 (vI w) (by simp))
  have hcl := hG.2.1.2.2.2.2.2.2.2
  have hrow := hG.2.1.2.2.1
  refine r_aload_n hC dX5_session_0 rfl ?_
  refine r_iload_n hC dX5_session_1 rfl ?_
  refine r_iload hC dX5_session_2 rfl ?_
  refine z_inv2 hM dX5_session_4 vl_RX5_248 rfl rfl rfl (Nat.le_of_ble_eq_true rfl) (Nat.le_of_ble_eq_true rfl) ?_
  refine x_laneWith (fun hl_4 => ?_) (fun hl_4 => ?_)
  · have h6_4 := hG.1.h7 (l := l) (by omega) (by omega)
    have hN_4 := numF_rng (σ 7 l 2)
    have hO_4 := (hG.2.1.2.2.2.1 l (by omega) (by omega)).2
    refine r_astore hC dX5_session_7 rfl ?_
    refine r_aload hC dX5_session_9 rfl ?_
    refine r_ifnullR hC dX5_session_11 ?_
    refine r_iload_n hC dX5_session_14 rfl ?_
    refine z_ins1 hM dX5_session_15 tl_RX5_285 rfl (Nat.le_of_ble_eq_true rfl) (Nat.le_of_ble_eq_true rfl) ?_
    refine s_isGap (fun h2 => ?_) (fun h2 => ?_)
    · refine r_if_eq (tgt := 25) hC dX5_session_18 rfl (fun h3 => by omega) (fun h3 => ?_)
      refine r_iload_n hC dX5_session_21 rfl ?_
      refine r_if_ge (tgt := 28) hC dX5_session_22 rfl (fun h4 => ?_) (fun h4 => ?_)
      · refine r_aload_n hC dX5_session_28 rfl ?_
        refine z_getR hM dX5_session_29 fl_RX5_40 rfl rfl (vld_of (n := 1) rfl (by omega) (by omega)) ?_
        refine r_aload hC dX5_session_32 rfl ?_
        refine z_getI (jz := 2) hM dX5_session_34 fl_RX5_98 rfl rfl rfl (fun v5 h_v5 o_v5 t_v5 => ?_)
        have w_v5 := ((t_v5 (Or.inl (by first | exact trivial | exact tb7_ (by decide) | simp [Tb]))).trans (rfl)).symm
        clear t_v5
        subst w_v5
        have q_v5 : 0 ≤ (σ 7 l 2) ∧ (σ 7 l 2) ≤ 9 := o_v5.2.2 rfl
        refine z_inv1 hM dX5_session_37 vl_RX5_251 rfl rfl rfl (Nat.le_of_ble_eq_true rfl) (Nat.le_of_ble_eq_true rfl) ?_
        refine x_begin (by omega) rfl rfl rfl rfl rfl rfl rfl rfl rfl rfl (fun ρ6 g_ρ6 z_ρ6 => ?_)
        have t_ρ6 : ∀ (c : Nat) (p q : Int), ¬ Fo c → ρ6 c p q = σ c p q := fun c p q hc => (g_ρ6 c p q (by omega)).trans ((fun _ _ _ _ => rfl) c p q hc)
        refine r_iconst hC dX5_session_40 rfl ?_
        refine r_istore hC dX5_session_41 rfl ?_
        refine r_iconst hC dX5_session_43 rfl ?_
        refine r_istore hC dX5_session_44 rfl ?_
        have L46 : ∀ (n46 : Nat) (w7 w8 : Int) (ρ9 : Mm), -1 ≤ w7 ∧ w7 ≤ 121 → 0 ≤ w8 ∧ w8 ≤ 121 → ((w7) = (sst (σ 8 l) g s ((w8)).toNat).1 - 1) → ((w8) ≤ σ 7 l 6) → 121 - w8 < (n46 : Int) → (∀ (c : Nat) (p q : Int), ¬ Fo c → ρ9 c p q = σ c p q) → (FRc ρ9 (σ 7 l 2) (fun j => σ 9 l ((sst (σ 8 l) g s (w8).toNat).2.1 + j)) ((sst (σ 8 l) g s (w8).toNat).2.2.toNat)) → K 46 [some (vR 2 0), some (vI l), some (vI g), some (vI s), some (vI w), some (vR 7 l), some (vI w7), some (vI w8)] [] ρ9 := by
          intro n46
          induction n46 with
          | zero => intro w7 w8 ρ9 f_w7 f_w8 i0_46 i1_46 hm  m0_46 m1_46; omega
          | succ n46 ih46 =>
            intro w7 w8 ρ9 f_w7 f_w8 i0_46 i1_46 hm46  m0_46 m1_46
            refine r_iload hC dX5_session_46 rfl ?_
            refine r_aload hC dX5_session_48 rfl ?_
            refine z_getI (jz := 6) hM dX5_session_50 fl_RX5_154 rfl rfl rfl (fun v10 h_v10 o_v10 t_v10 => ?_)
            have w_v10 := ((t_v10 (Or.inl (by first | exact trivial | exact tb7_ (by decide) | simp [Tb]))).trans (m0_46 7 l 6 (by decide))).symm
            clear t_v10
            subst w_v10
            have q_v10 : 0 ≤ (σ 7 l 6) ∧ (σ 7 l 6) ≤ 121 := o_v10.1 rfl
            refine r_icmp_ge (tgt := 104) hC dX5_session_53 rfl (fun h11 => ?_) (fun h11 => ?_)
            · refine r_aload_n hC dX5_session_104 rfl ?_
              refine z_getR hM dX5_session_105 fl_RX5_40 rfl rfl (vld_of (n := 1) rfl (by omega) (by omega)) ?_
              refine r_iload hC dX5_session_108 rfl ?_
              have sb := sst_b (T := σ 8 l) (g := g) (s := s) (by omega) (w8).toNat
              refine z_inv1 hM dX5_session_110 vl_RX5_273 rfl rfl rfl (Nat.le_of_ble_eq_true rfl) (Nat.le_of_ble_eq_true rfl) ?_
              refine x_number (n := (sst (σ 8 l) g s (w8).toNat).2.2.toNat) (by omega) m1_46.1 m1_46.2.1 (by omega) m1_46 ?_
              rw [show ρ9 16 0 = σ 16 0 from funext fun y => m0_46 16 0 y (by decide), show ρ9 15 0 = σ 15 0 from funext fun y => m0_46 15 0 y (by decide)]
              refine y_iret hK rfl dX5_session_113 ?_
              have hR : seR σ l g s w = (cm (σ 16 0) (σ 15 0) (σ 7 l 2) (fun j => σ 9 l ((sst (σ 8 l) g s (w8).toNat).2.1 + j)) (sst (σ 8 l) g s (w8).toNat).2.2.toNat w) := by
                unfold seR sstV
                rw [if_pos (by unfold seC lwC opV; omega), show (σ 7 l 6).toNat = (w8).toNat from by omega]
              rw [hR] at k
              exact k _ (m0_46) (FRc.inF m1_46 (fun j h0 h1 => by rw [m0_46 15 0 j (by decide)]; exact hcl j h0 h1))
            · refine r_iload hC dX5_session_56 rfl ?_
              refine r_aload hC dX5_session_58 rfl ?_
              refine r_iload hC dX5_session_60 rfl ?_
              refine r_iload_n hC dX5_session_62 rfl ?_
              refine z_inv2 hM dX5_session_63 vl_RX5_221 rfl rfl rfl (Nat.le_of_ble_eq_true rfl) (Nat.le_of_ble_eq_true rfl) ?_
              refine x_startsSession (by omega) (by omega) (fun hs_63 => ?_) (fun hs_63 => ?_)
              · rw [show ρ9 8 l = σ 8 l from funext fun y => m0_46 8 l y (by decide)] at hs_63
                have sb := sst_b (T := σ 8 l) (g := g) (s := s) (by omega) (w8).toNat
                obtain ⟨s1, s2, s3, s4, s5⟩ := sst_y (s := s) (by omega) hs_63
                refine r_if_eq (tgt := 73) hC dX5_session_66 rfl (fun h12 => by omega) (fun h12 => ?_)
                refine r_iconst hC dX5_session_69 rfl ?_
                refine r_goto (tgt := 74) hC dX5_session_70 rfl ?_
                refine r_iaddE hC ((w7 + 1)) dX5_session_74 (by omega) (by unfold inR; omega) ?_
                refine r_istore hC dX5_session_75 rfl ?_
                refine r_iload hC dX5_session_77 rfl ?_
                refine r_iload_n hC dX5_session_79 rfl ?_
                refine r_icmp_ne (tgt := 98) hC dX5_session_80 rfl (fun h13 => ?_) (fun h13 => ?_)
                · refine r_iincE hC ((w8 + 1)) dX5_session_98 rfl rfl (by omega) (by unfold inR; omega) ?_
                  refine r_goto (tgt := 46) hC dX5_session_101 rfl ?_
                  exact ih46 ((w7 + 1)) ((w8 + 1)) ρ9 (by omega) (by omega) (by first | rfl | omega) (by omega) (by omega)  (m0_46) (by rw [show (sst (σ 8 l) g s ((w8 + 1)).toNat).2.2.toNat = (sst (σ 8 l) g s (w8).toNat).2.2.toNat from by rw [s5 (by omega)], show (sst (σ 8 l) g s ((w8 + 1)).toNat).2.1 = (sst (σ 8 l) g s (w8).toNat).2.1 from s3 (by omega)]; exact m1_46)
                · refine r_aload_n hC dX5_session_83 rfl ?_
                  refine z_getR hM dX5_session_84 fl_RX5_40 rfl rfl (vld_of (n := 1) rfl (by omega) (by omega)) ?_
                  refine r_aload hC dX5_session_87 rfl ?_
                  refine z_getR hM dX5_session_89 fl_RX5_176 rfl rfl (vld_of (n := 7) rfl (by omega) (by omega)) ?_
                  refine r_iload hC dX5_session_92 rfl ?_
                  refine z_iald hM dX5_session_94 rfl (by omega) (by omega) (fun v14 h_v14 o_v14 t_v14 => ?_)
                  have w_v14 := ((t_v14 (Or.inl (by first | exact trivial | exact tb7_ (by decide) | simp [Tb]))).trans (m0_46 9 l w8 (by decide))).symm
                  clear t_v14
                  subst w_v14
                  have q_v14 : -1000 ≤ (σ 9 l w8) ∧ (σ 9 l w8) ≤ 1000 := o_v14
                  have fq : FRc ρ9 (σ 7 l 2) (fun j => σ 9 l ((sst (σ 8 l) g s ((w8 + 1)).toNat).2.1 + j)) ((sst (σ 8 l) g s (w8).toNat).2.2.toNat) := FRc.cg m1_46 (fun j a b => congrArg (fun z => σ 9 l (z + j)) (s3 (by omega)))
                  refine z_inv1 hM dX5_session_95 vl_RX5_253 rfl rfl rfl (Nat.le_of_ble_eq_true rfl) (Nat.le_of_ble_eq_true rfl) ?_
                  refine x_append2 (u := (fun j => σ 9 l ((sst (σ 8 l) g s ((w8 + 1)).toNat).2.1 + j))) (n := (sst (σ 8 l) g s (w8).toNat).2.2.toNat) (show (σ 9 l w8) = σ 9 l ((sst (σ 8 l) g s ((w8 + 1)).toNat).2.1 + (((sst (σ 8 l) g s (w8).toNat).2.2.toNat : Nat) : Int)) from congrArg (σ 9 l) (by omega)) (by omega) (by omega) (by omega) (fun j h0 h1 => (hrow l ((sst (σ 8 l) g s ((w8 + 1)).toNat).2.1 + j) (by omega) (by omega) (by omega) (by omega)).2) fq (fun j h0 h1 => by rw [m0_46 15 0 j (by decide)]; exact hcl j h0 h1) (fun ρ15 g_ρ15 r_ρ15 => ?_)
                  have t_ρ15 : ∀ (c : Nat) (p q : Int), ¬ Fo c → ρ15 c p q = σ c p q := fun c p q hc => (g_ρ15 c p q (by omega)).trans (m0_46 c p q hc)
                  refine r_iincE hC ((w8 + 1)) dX5_session_98 rfl rfl (by omega) (by unfold inR; omega) ?_
                  refine r_goto (tgt := 46) hC dX5_session_101 rfl ?_
                  exact ih46 ((w7 + 1)) ((w8 + 1)) ρ15 (by omega) (by omega) (by first | rfl | omega) (by omega) (by omega)  (t_ρ15) (by rw [show (sst (σ 8 l) g s ((w8 + 1)).toNat).2.2.toNat = ((sst (σ 8 l) g s (w8).toNat).2.2.toNat + 1) from by omega]; exact r_ρ15)
              · rw [show ρ9 8 l = σ 8 l from funext fun y => m0_46 8 l y (by decide)] at hs_63
                have sb := sst_b (T := σ 8 l) (g := g) (s := s) (by omega) (w8).toNat
                obtain ⟨s1, s2, s3, s4, s5⟩ := sst_n (s := s) (by omega) hs_63
                refine r_if_eq (tgt := 73) hC dX5_session_66 rfl (fun h16 => ?_) (fun h16 => by omega)
                refine r_iconst hC dX5_session_73 rfl ?_
                refine r_iaddE hC (w7) dX5_session_74 (by omega) (by unfold inR; omega) ?_
                refine r_istore hC dX5_session_75 rfl ?_
                refine r_iload hC dX5_session_77 rfl ?_
                refine r_iload_n hC dX5_session_79 rfl ?_
                refine r_icmp_ne (tgt := 98) hC dX5_session_80 rfl (fun h17 => ?_) (fun h17 => ?_)
                · refine r_iincE hC ((w8 + 1)) dX5_session_98 rfl rfl (by omega) (by unfold inR; omega) ?_
                  refine r_goto (tgt := 46) hC dX5_session_101 rfl ?_
                  exact ih46 (w7) ((w8 + 1)) ρ9 (by omega) (by omega) (by first | rfl | omega) (by omega) (by omega)  (m0_46) (by rw [show (sst (σ 8 l) g s ((w8 + 1)).toNat).2.2.toNat = (sst (σ 8 l) g s (w8).toNat).2.2.toNat from by rw [s5 (by omega)], show (sst (σ 8 l) g s ((w8 + 1)).toNat).2.1 = (sst (σ 8 l) g s (w8).toNat).2.1 from s3 (by omega)]; exact m1_46)
                · refine r_aload_n hC dX5_session_83 rfl ?_
                  refine z_getR hM dX5_session_84 fl_RX5_40 rfl rfl (vld_of (n := 1) rfl (by omega) (by omega)) ?_
                  refine r_aload hC dX5_session_87 rfl ?_
                  refine z_getR hM dX5_session_89 fl_RX5_176 rfl rfl (vld_of (n := 7) rfl (by omega) (by omega)) ?_
                  refine r_iload hC dX5_session_92 rfl ?_
                  refine z_iald hM dX5_session_94 rfl (by omega) (by omega) (fun v18 h_v18 o_v18 t_v18 => ?_)
                  have w_v18 := ((t_v18 (Or.inl (by first | exact trivial | exact tb7_ (by decide) | simp [Tb]))).trans (m0_46 9 l w8 (by decide))).symm
                  clear t_v18
                  subst w_v18
                  have q_v18 : -1000 ≤ (σ 9 l w8) ∧ (σ 9 l w8) ≤ 1000 := o_v18
                  have fq : FRc ρ9 (σ 7 l 2) (fun j => σ 9 l ((sst (σ 8 l) g s ((w8 + 1)).toNat).2.1 + j)) ((sst (σ 8 l) g s (w8).toNat).2.2.toNat) := FRc.cg m1_46 (fun j a b => congrArg (fun z => σ 9 l (z + j)) (s3 (by omega)))
                  refine z_inv1 hM dX5_session_95 vl_RX5_253 rfl rfl rfl (Nat.le_of_ble_eq_true rfl) (Nat.le_of_ble_eq_true rfl) ?_
                  refine x_append2 (u := (fun j => σ 9 l ((sst (σ 8 l) g s ((w8 + 1)).toNat).2.1 + j))) (n := (sst (σ 8 l) g s (w8).toNat).2.2.toNat) (show (σ 9 l w8) = σ 9 l ((sst (σ 8 l) g s ((w8 + 1)).toNat).2.1 + (((sst (σ 8 l) g s (w8).toNat).2.2.toNat : Nat) : Int)) from congrArg (σ 9 l) (by omega)) (by omega) (by omega) (by omega) (fun j h0 h1 => (hrow l ((sst (σ 8 l) g s ((w8 + 1)).toNat).2.1 + j) (by omega) (by omega) (by omega) (by omega)).2) fq (fun j h0 h1 => by rw [m0_46 15 0 j (by decide)]; exact hcl j h0 h1) (fun ρ19 g_ρ19 r_ρ19 => ?_)
                  have t_ρ19 : ∀ (c : Nat) (p q : Int), ¬ Fo c → ρ19 c p q = σ c p q := fun c p q hc => (g_ρ19 c p q (by omega)).trans (m0_46 c p q hc)
                  refine r_iincE hC ((w8 + 1)) dX5_session_98 rfl rfl (by omega) (by unfold inR; omega) ?_
                  refine r_goto (tgt := 46) hC dX5_session_101 rfl ?_
                  exact ih46 (w7) ((w8 + 1)) ρ19 (by omega) (by omega) (by first | rfl | omega) (by omega) (by omega)  (t_ρ19) (by rw [show (sst (σ 8 l) g s ((w8 + 1)).toNat).2.2.toNat = ((sst (σ 8 l) g s (w8).toNat).2.2.toNat + 1) from by omega]; exact r_ρ19)
        exact L46 123 ((-1)) (0) ρ6 (by omega) (by omega) (by first | rfl | omega) (by omega) (by omega)  (t_ρ6) (z_ρ6 _)
      · refine r_ldc hC dX5_session_25 co_RX5_175 rfl ?_
        refine y_iret hK rfl dX5_session_27 ?_
        have hR : seR σ l g s w = (-2147483648) := by
          exact if_neg (by unfold seC lwC opV; omega)
        rw [hR] at k
        exact k _ (fun _ _ _ _ => rfl) hI
    · refine r_if_eq (tgt := 25) hC dX5_session_18 rfl (fun h20 => ?_) (fun h20 => by omega)
      refine r_ldc hC dX5_session_25 co_RX5_175 rfl ?_
      refine y_iret hK rfl dX5_session_27 ?_
      have hR : seR σ l g s w = (-2147483648) := by
        exact if_neg (by unfold seC lwC opV; omega)
      rw [hR] at k
      exact k _ (fun _ _ _ _ => rfl) hI
  · refine r_astoreN hC dX5_session_7 rfl ?_
    refine r_aloadN hC dX5_session_9 rfl ?_
    refine r_ifnullN (tgt := 25) hC dX5_session_11 rfl ?_
    refine r_ldc hC dX5_session_25 co_RX5_175 rfl ?_
    refine y_iret hK rfl dX5_session_27 ?_
    have hR : seR σ l g s w = (-2147483648) := by
      exact if_neg (by unfold seC lwC opV; omega)
    rw [hR] at k
    exact k _ (fun _ _ _ _ => rfl) hI
theorem x_session {eb : Bool} {d : Nat} {P : Option Vl → Mm → Prop} {σ : Mm} {l g s w : Int} (hG : GI σ) (k : P (some (vI (seR σ l g s w))) σ) : WT (true, false, eb) (d + 5) 92 [vR 2 0, vI l, vI g, vI s, vI w] σ P := WT_fold fun ρ e hI => x_session_S hI (hG.fo e) (fun ρ2 gq hI2 => ⟨hI2, σ, by
    have hc : seR ρ l g s w = seR σ l g s w := by (delta seR sstV seC lwC opV; simp only [e 7 (by decide), e 8 (by decide), e 9 (by decide), e 15 (by decide), e 16 (by decide)])
    rw [hc]
    exact k, fun c x y hc => (gq c x y hc).trans (by rw [e c hc])⟩)
theorem x_noteNumbers {eb : Bool} {o : Int} {u : Int → Int} {n : Nat} {d : Nat} {P : Option Vl → Mm → Prop} {σ : Mm}  (hF : FRc σ o u n)  (k : ∀ ρ : Mm, Gx (fun c x y => c = 18 ∨ (c = 14 ∧ y = 4)) σ ρ → NT ρ o u n → P none ρ) : WT (true, true, eb) (d + 1) 12 [vR 14 0] σ P := by
  refine WT_in fun K hK => ?_
  have hK : StpY (true, true, eb) cX1_noteNumbers RX1 (none) (WT (true, true, eb) (d + 0)) P K := hK
  have hM := hK.1
  have hC := hK.1.1
  show K 0 [some (vR 14 0)] [] σ
  refine z_ok hM (fun hok => ?_)
  refine r_aload_n hC dX1_noteNumbers_0 rfl ?_
  refine z_getR hM dX1_noteNumbers_1 fl_RX1_24 rfl rfl (vld_of (n := 1) rfl (by omega) (by omega)) ?_
  refine r_iconst hC dX1_noteNumbers_4 rfl ?_
  refine r_aload_n hC dX1_noteNumbers_5 rfl ?_
  refine z_getR hM dX1_noteNumbers_6 fl_RX1_27 rfl rfl (vld_of (n := 1) rfl (by omega) (by omega)) ?_
  refine r_iconst hC dX1_noteNumbers_9 rfl ?_
  refine r_bipush hC dX1_noteNumbers_10 rfl ?_
  refine z_copyT hM dX1_noteNumbers_12 ac_RX1_48 rfl rfl (by omega) (by omega) (by omega) (by omega) (by omega) (Nat.le_of_ble_eq_true rfl) (fun _ => ⟨by simp [DL], by simp [DF]⟩) (fun _ _ _ h => by simp [Okv] at *; try exact h) (fun x _ _ _ => (tk17 rfl rfl)) ?_
  refine r_aload_n hC dX1_noteNumbers_15 rfl ?_
  refine r_aload_n hC dX1_noteNumbers_16 rfl ?_
  refine z_getI (jz := 6) hM dX1_noteNumbers_17 fl_RX1_34 rfl rfl rfl (fun v1 h_v1 o_v1 t_v1 => ?_)
  have w_v1 := ((t_v1 (Or.inr (Or.inr (Or.inl ⟨rfl, by simp [DF, DX]⟩)))).trans ((cpy_ne (by omega)).trans (rfl))).symm
  clear t_v1
  subst w_v1
  refine z_putIT (jz := 4) hM dX1_noteNumbers_20 fw_RX1_54 rfl rfl rfl ⟨Or.inr (by first | exact id | exact dl7_ (by decide) | simp [DL]), Or.inl rfl⟩ (by first | trivial | (simp only [Okv]; omega) | (simp [Okv]; try omega)) ?_
  refine y_vret hK rfl dX1_noteNumbers_23 ?_
  refine k _ (fun c x y hc => ?_) ⟨(mu_self _ _ _ _ _).trans hF.2.1, fun k a b => ?_⟩
  · rw [mu_ne (by omega), cpy_ne (by omega)]
  · have b7 := numF_rng o
    rw [mu_ne (by omega), cpy_in (by omega), show (0 : Int) + (k - 0) = k from by omega, show mu (cpy σ 17 0 0 18 0 0 7) 14 0 4 (σ 14 0 6) 16 0 = σ 16 0 from funext fun y => (mu_ne (by omega)).trans (cpy_ne (by omega)), show mu (cpy σ 17 0 0 18 0 0 7) 14 0 4 (σ 14 0 6) 15 0 = σ 15 0 from funext fun y => (mu_ne (by omega)).trans (cpy_ne (by omega))]
    exact hF.2.2.2 k a b
theorem x_isAsNoted {eb : Bool} {u v : Int → Int} {n m : Nat} {d : Nat} {P : Option Vl → Mm → Prop} {σ : Mm} {o : Int} (b_o : 0 ≤ o ∧ o ≤ 9) (qg0 : σ 14 0 5 = o) (qg1 : σ 14 0 6 = (m : Int)) (qg2 : σ 14 0 4 = (n : Int)) (hF : FRc σ o v m) (hT : NT σ o u n)  (k1 : alk σ o u v n m → P (some (vI 1)) σ) (k0 : ¬ alk σ o u v n m → P (some (vI 0)) σ) : WT (true, true, eb) (d + 1) 13 [vR 14 0] σ P := by
  refine WT_in fun K hK => ?_
  have hK : StpY (true, true, eb) cX1_isAsNoted RX1 (some .boolean) (WT (true, true, eb) (d + 0)) P K := hK
  have hM := hK.1
  have hC := hK.1.1
  show K 0 [some (vR 14 0), none] [] σ
  refine r_aload_n hC dX1_isAsNoted_0 rfl ?_
  refine z_getI (jz := 6) hM dX1_isAsNoted_1 fl_RX1_34 rfl rfl rfl (fun v1 h_v1 o_v1 t_v1 => ?_)
  have e_v1 : (m : Int) = v1 := ((t_v1 ((by simp [Tk, Tb, DL, DF, DX]))).trans qg1).symm
  clear t_v1
  subst e_v1
  refine r_if_eq (tgt := 14) hC dX1_isAsNoted_4 rfl (fun h2 => ?_) (fun h2 => ?_)
  · refine r_aload_n hC dX1_isAsNoted_14 rfl ?_
    refine z_getI (jz := 6) hM dX1_isAsNoted_15 fl_RX1_34 rfl rfl rfl (fun v3 h_v3 o_v3 t_v3 => ?_)
    have e_v3 : (m : Int) = v3 := ((t_v3 ((by simp [Tk, Tb, DL, DF, DX]))).trans qg1).symm
    clear t_v3
    subst e_v3
    refine r_aload_n hC dX1_isAsNoted_18 rfl ?_
    refine z_getI (jz := 4) hM dX1_isAsNoted_19 fl_RX1_54 rfl rfl rfl (fun v4 h_v4 o_v4 t_v4 => ?_)
    have e_v4 : (n : Int) = v4 := ((t_v4 ((by simp [Tk, Tb, DL, DF, DX]))).trans qg2).symm
    clear t_v4
    subst e_v4
    refine r_icmp_ne (tgt := 29) hC dX1_isAsNoted_22 rfl (fun h5 => ?_) (fun h5 => ?_)
    · refine r_iconst hC dX1_isAsNoted_29 rfl ?_
      refine y_zret hK rfl dX1_isAsNoted_30 (by omega) ?_
      exact k0 (by unfold alk; rw [if_pos (by omega)]; omega)
    · refine r_iconst hC dX1_isAsNoted_25 rfl ?_
      refine r_goto (tgt := 30) hC dX1_isAsNoted_26 rfl ?_
      refine y_zret hK rfl dX1_isAsNoted_30 (by omega) ?_
      exact k1 (by unfold alk; rw [if_pos (by omega)]; omega)
  · refine r_aload_n hC dX1_isAsNoted_7 rfl ?_
    refine z_getI (jz := 4) hM dX1_isAsNoted_8 fl_RX1_54 rfl rfl rfl (fun v6 h_v6 o_v6 t_v6 => ?_)
    have e_v6 : (n : Int) = v6 := ((t_v6 ((by simp [Tk, Tb, DL, DF, DX]))).trans qg2).symm
    clear t_v6
    subst e_v6
    refine r_if_ne (tgt := 31) hC dX1_isAsNoted_11 rfl (fun h7 => ?_) (fun h7 => ?_)
    · refine r_iconst hC dX1_isAsNoted_31 rfl ?_
      refine r_istore_n hC dX1_isAsNoted_32 rfl ?_
      have L33 : ∀ (n33 : Nat) (w8 : Int), 0 ≤ w8 ∧ w8 ≤ 7 → (∀ k : Int, 0 ≤ k → k < (w8) → cmN (σ 16 0) (σ 15 0) o v m k = cmN (σ 16 0) (σ 15 0) o u n k) → 7 - w8 < (n33 : Int) → K 33 [some (vR 14 0), some (vI w8)] [] σ := by
        intro n33
        induction n33 with
        | zero => intro w8  f_w8 i0_33 hm  ; omega
        | succ n33 ih33 =>
          intro w8  f_w8 i0_33 hm33  
          refine r_iload_n hC dX1_isAsNoted_33 rfl ?_
          refine z_nums hM dX1_isAsNoted_34 sl_RX1_41 ?_
          refine r_aload_n hC dX1_isAsNoted_37 rfl ?_
          refine z_getI (jz := 5) hM dX1_isAsNoted_38 fl_RX1_30 rfl rfl rfl (fun v9 h_v9 o_v9 t_v9 => ?_)
          have e_v9 : o = v9 := ((t_v9 ((by simp [Tk, Tb, DL, DF, DX]))).trans qg0).symm
          clear t_v9
          subst e_v9
          refine z_nald hM dX1_isAsNoted_41 (by omega) (by omega) ?_
          have q_v10 := numF_rng o
          refine r_icmp_ge (tgt := 68) hC dX1_isAsNoted_42 rfl (fun h11 => ?_) (fun h11 => ?_)
          · refine r_iconst hC dX1_isAsNoted_68 rfl ?_
            refine y_zret hK rfl dX1_isAsNoted_69 (by omega) ?_
            refine k1 ?_
            unfold alk
            rw [if_neg (by omega)]
            exact fun k a b => i0_33 k a (by omega)
          · refine r_aload_n hC dX1_isAsNoted_45 rfl ?_
            refine z_getR hM dX1_isAsNoted_46 fl_RX1_24 rfl rfl (vld_of (n := 1) rfl (by omega) (by omega)) ?_
            refine r_iload_n hC dX1_isAsNoted_49 rfl ?_
            refine z_iald hM dX1_isAsNoted_50 rfl (by omega) (by omega) (fun v12 h_v12 o_v12 t_v12 => ?_)
            have w_v12 := (t_v12 (tk17 rfl rfl)).symm
            clear t_v12
            subst w_v12
            refine r_aload_n hC dX1_isAsNoted_51 rfl ?_
            refine z_getR hM dX1_isAsNoted_52 fl_RX1_27 rfl rfl (vld_of (n := 1) rfl (by omega) (by omega)) ?_
            refine r_iload_n hC dX1_isAsNoted_55 rfl ?_
            refine z_iald hM dX1_isAsNoted_56 rfl (by omega) (by omega) (fun v13 h_v13 o_v13 t_v13 => ?_)
            have w_v13 := (t_v13 (Or.inr (Or.inr (Or.inl ⟨rfl, Or.inr rfl⟩)))).symm
            clear t_v13
            subst w_v13
            have e17 := hF.2.2.2 w8 (by omega) (by omega)
            have e18 := hT.2 w8 (by omega) (by omega)
            refine r_icmp_eq (tgt := 62) hC dX1_isAsNoted_57 rfl (fun h14 => ?_) (fun h14 => ?_)
            · refine r_iincE hC ((w8 + 1)) dX1_isAsNoted_62 rfl rfl (by omega) (by unfold inR; omega) ?_
              refine r_goto (tgt := 33) hC dX1_isAsNoted_65 rfl ?_
              exact ih33 ((w8 + 1))  (by omega) (by intro k a b; first | omega | (rcases (by omega : k < w8 ∨ k = w8) with z | z; exact i0_33 k a z; subst z; omega)) (by omega)  
            · refine r_iconst hC dX1_isAsNoted_60 rfl ?_
              refine y_zret hK rfl dX1_isAsNoted_61 (by omega) ?_
              refine k0 ?_
              unfold alk
              rw [if_neg (by omega)]
              intro q
              have := q w8 (by omega) (by omega)
              omega
      exact L33 9 (0)  (by omega) (by intro k a b; first | omega | (rcases (by omega : k < w8 ∨ k = w8) with z | z; exact i0_33 k a z; subst z; omega)) (by omega)  
    · refine r_aload_n hC dX1_isAsNoted_14 rfl ?_
      refine z_getI (jz := 6) hM dX1_isAsNoted_15 fl_RX1_34 rfl rfl rfl (fun v15 h_v15 o_v15 t_v15 => ?_)
      have e_v15 : (m : Int) = v15 := ((t_v15 ((by simp [Tk, Tb, DL, DF, DX]))).trans qg1).symm
      clear t_v15
      subst e_v15
      refine r_aload_n hC dX1_isAsNoted_18 rfl ?_
      refine z_getI (jz := 4) hM dX1_isAsNoted_19 fl_RX1_54 rfl rfl rfl (fun v16 h_v16 o_v16 t_v16 => ?_)
      have e_v16 : (n : Int) = v16 := ((t_v16 ((by simp [Tk, Tb, DL, DF, DX]))).trans qg2).symm
      clear t_v16
      subst e_v16
      refine r_icmp_ne (tgt := 29) hC dX1_isAsNoted_22 rfl (fun h17 => ?_) (fun h17 => by omega)
      refine r_iconst hC dX1_isAsNoted_29 rfl ?_
      refine y_zret hK rfl dX1_isAsNoted_30 (by omega) ?_
      exact k0 (by unfold alk; rw [if_pos (by omega)]; omega)
theorem alk_c {V W : Mm} {o : Int} {u v : Int → Int} {n m : Nat} (h16 : W 16 0 = V 16 0) (h15 : W 15 0 = V 15 0) : alk W o u v n m = alk V o u v n m := by
  unfold alk
  rw [h16, h15]
theorem alk_t {V : Mm} {o : Int} {u v u2 v2 : Int → Int} {n m n2 m2 : Nat} (hn : n2 = n) (hm : m2 = m) (hu : ∀ j : Int, 0 ≤ j → j < n → u j = u2 j) (hv : ∀ j : Int, 0 ≤ j → j < m → v j = v2 j) : alk V o u v n m = alk V o u2 v2 n2 m2 := by
  subst hn hm
  unfold alk
  simp only [cmN_c hu, cmN_c hv]
theorem x_same_S {eb : Bool} {d : Nat} {P : Option Vl → Mm → Prop} {σ : Mm} {l o : Int}  (hI : InF σ) (hG : GI σ)  (k : ∀ (r : Int) (ρ : Mm), saA σ l o r → (∀ (c : Nat) (x y : Int), ¬ Fo c → ρ c x y = σ c x y) → InF ρ → P (some (vI r)) ρ) : WT (true, true, eb) (d + 5) 88 [vR 2 0, vI l, vI o] σ P := by
  refine WT_in fun K hK => ?_
  have hK : StpY (true, true, eb) cX5_same RX5 (some .int) (WT (true, true, eb) (d + 4)) P K := hK
  have hM := hK.1
  have hC := hK.1.1
  show K 0 [some (vR 2 0), some (vI l), some (vI o), none, none] [] σ
  refine z_ok hM (fun hok => ?_)
  refine r_rngz hC (fun g0 => ?_)
  have r_l : -2147483648 ≤ l ∧ l ≤ 2147483647 := inR_le (g0 (vI l) (by simp))
  have r_o : -2147483648 ≤ o ∧ o ≤ 2147483647 := inR_le (g0 (vI o) (by simp))
  have hcl := hG.2.1.2.2.2.2.2.2.2
  have hrow := hG.2.1.2.2.1
  refine r_aload_n hC dX5_same_0 rfl ?_
  refine r_iload_n hC dX5_same_1 rfl ?_
  refine z_inv1 hM dX5_same_2 vl_RX5_123 rfl rfl rfl (Nat.le_of_ble_eq_true rfl) (Nat.le_of_ble_eq_true rfl) ?_
  refine x_openLane (fun hl_2 => ?_) (fun hl_2 => ?_)
  · have h6_2 := hG.1.h7 (l := l) (by omega) (by omega)
    have hN_2 := numF_rng (σ 7 l 2)
    have hO_2 := (hG.2.1.2.2.2.1 l (by omega) (by omega)).2
    refine r_astore_n hC dX5_same_5 rfl ?_
    refine r_aload_n hC dX5_same_6 rfl ?_
    refine r_iload_n hC dX5_same_7 rfl ?_
    refine z_inv1 hM dX5_same_8 vl_RX5_123 rfl rfl rfl (Nat.le_of_ble_eq_true rfl) (Nat.le_of_ble_eq_true rfl) ?_
    refine x_openLane (fun hl_8 => ?_) (fun hl_8 => ?_)
    · have h6_8 := hG.1.h7 (l := o) (by omega) (by omega)
      have hN_8 := numF_rng (σ 7 o 2)
      have hO_8 := (hG.2.1.2.2.2.1 o (by omega) (by omega)).2
      refine r_astore hC dX5_same_11 rfl ?_
      refine r_aload_n hC dX5_same_13 rfl ?_
      refine r_ifnullR hC dX5_same_14 ?_
      refine r_aload hC dX5_same_17 rfl ?_
      refine r_ifnullR hC dX5_same_19 ?_
      refine r_aload_n hC dX5_same_22 rfl ?_
      refine z_getI (jz := 2) hM dX5_same_23 fl_RX5_98 rfl rfl rfl (fun v1 h_v1 o_v1 t_v1 => ?_)
      have w_v1 := ((t_v1 (Or.inl (by first | exact trivial | exact tb7_ (by decide) | simp [Tb]))).trans (rfl)).symm
      clear t_v1
      subst w_v1
      have q_v1 : 0 ≤ (σ 7 l 2) ∧ (σ 7 l 2) ≤ 9 := o_v1.2.2 rfl
      refine r_aload hC dX5_same_26 rfl ?_
      refine z_getI (jz := 2) hM dX5_same_28 fl_RX5_98 rfl rfl rfl (fun v2 h_v2 o_v2 t_v2 => ?_)
      have w_v2 := ((t_v2 (Or.inl (by first | exact trivial | exact tb7_ (by decide) | simp [Tb]))).trans (rfl)).symm
      clear t_v2
      subst w_v2
      have q_v2 : 0 ≤ (σ 7 o 2) ∧ (σ 7 o 2) ≤ 9 := o_v2.2.2 rfl
      refine r_icmp_eq (tgt := 36) hC dX5_same_31 rfl (fun h3 => ?_) (fun h3 => ?_)
      · refine r_aload_n hC dX5_same_36 rfl ?_
        refine r_aload_n hC dX5_same_37 rfl ?_
        refine r_iconst hC dX5_same_38 rfl ?_
        refine r_aload_n hC dX5_same_39 rfl ?_
        refine z_getI (jz := 6) hM dX5_same_40 fl_RX5_154 rfl rfl rfl (fun v4 h_v4 o_v4 t_v4 => ?_)
        have w_v4 := ((t_v4 (Or.inl (by first | exact trivial | exact tb7_ (by decide) | simp [Tb]))).trans (rfl)).symm
        clear t_v4
        subst w_v4
        have q_v4 : 0 ≤ (σ 7 l 6) ∧ (σ 7 l 6) ≤ 121 := o_v4.1 rfl
        refine z_inv3 hM dX5_same_43 vl_RX5_259 rfl rfl rfl (Nat.le_of_ble_eq_true rfl) (Nat.le_of_ble_eq_true rfl) ?_
        refine x_foldPart (i := l) (f := 0) (z := (σ 7 l 6)) (by omega) (by omega) (by omega) (fun ρ5 g_ρ5 r_ρ5 => ?_)
        have t_ρ5 : ∀ (c : Nat) (p q : Int), ¬ Fo c → ρ5 c p q = σ c p q := fun c p q hc => (g_ρ5 c p q (by omega)).trans ((fun _ _ _ _ => rfl) c p q hc)
        refine r_aload_n hC dX5_same_46 rfl ?_
        refine z_getR hM dX5_same_47 fl_RX5_40 rfl rfl (vld_of (n := 1) rfl (by omega) (by omega)) ?_
        refine z_inv0 hM dX5_same_50 vl_RX5_275 rfl rfl rfl (Nat.le_of_ble_eq_true rfl) (Nat.le_of_ble_eq_true rfl) ?_
        refine x_noteNumbers (o := (σ 7 l 2)) (u := (fun j => σ 9 l (0 + j))) (n := ((σ 7 l 6) - 0).toNat) r_ρ5 (fun ρ6 g_ρ6 n_ρ6 => ?_)
        have t_ρ6 : ∀ (c : Nat) (p q : Int), ¬ Fo c → ρ6 c p q = σ c p q := fun c p q hc => (g_ρ6 c p q (by omega)).trans (t_ρ5 c p q hc)
        have r_ρ6 : FRc ρ6 (σ 7 l 2) (fun j => σ 9 l (0 + j)) (((σ 7 l 6) - 0).toNat) := FRc.ext r_ρ5 (fun j hj => g_ρ6 14 0 j (by omega)) (fun j => g_ρ6 17 0 j (by omega)) (funext fun y => g_ρ6 16 0 y (by omega)) (funext fun y => g_ρ6 15 0 y (by omega))
        refine r_aload_n hC dX5_same_53 rfl ?_
        refine r_aload hC dX5_same_54 rfl ?_
        refine r_iconst hC dX5_same_56 rfl ?_
        refine r_aload hC dX5_same_57 rfl ?_
        refine z_getI (jz := 6) hM dX5_same_59 fl_RX5_154 rfl rfl rfl (fun v7 h_v7 o_v7 t_v7 => ?_)
        have w_v7 := ((t_v7 (Or.inl (by first | exact trivial | exact tb7_ (by decide) | simp [Tb]))).trans (t_ρ6 7 o 6 (by decide))).symm
        clear t_v7
        subst w_v7
        have q_v7 : 0 ≤ (σ 7 o 6) ∧ (σ 7 o 6) ≤ 121 := o_v7.1 rfl
        refine z_inv3 hM dX5_same_62 vl_RX5_259 rfl rfl rfl (Nat.le_of_ble_eq_true rfl) (Nat.le_of_ble_eq_true rfl) ?_
        refine x_foldPart (i := o) (f := 0) (z := (σ 7 o 6)) (by omega) (by omega) (by omega) (fun ρ8 g_ρ8 r_ρ8 => ?_)
        have t_ρ8 : ∀ (c : Nat) (p q : Int), ¬ Fo c → ρ8 c p q = σ c p q := fun c p q hc => (g_ρ8 c p q (by omega)).trans (t_ρ6 c p q hc)
        have n_ρ8 := NT.e n_ρ6 (g_ρ8 14 0 4 (by omega)) (fun y => g_ρ8 18 0 y (by omega)) (funext fun y => g_ρ8 16 0 y (by omega)) (funext fun y => g_ρ8 15 0 y (by omega))
        rw [show ρ6 7 o 2 = σ 7 o 2 from t_ρ6 7 o 2 (by decide), show ρ6 9 o = σ 9 o from funext fun y => t_ρ6 9 o y (by decide)] at r_ρ8
        refine r_aload_n hC dX5_same_65 rfl ?_
        refine z_getR hM dX5_same_66 fl_RX5_40 rfl rfl (vld_of (n := 1) rfl (by omega) (by omega)) ?_
        refine z_inv0 hM dX5_same_69 vl_RX5_278 rfl rfl rfl (Nat.le_of_ble_eq_true rfl) (Nat.le_of_ble_eq_true rfl) ?_
        have hF_ := r_ρ8
        rw [show (σ 7 o 2) = (σ 7 l 2) from by omega] at hF_
        refine x_isAsNoted (o := (σ 7 l 2)) (u := (fun j => σ 9 l (0 + j))) (v := (fun j => σ 9 o (0 + j))) (n := ((σ 7 l 6) - 0).toNat) (m := ((σ 7 o 6) - 0).toNat) (by omega) hF_.1 hF_.2.1 n_ρ8.1 hF_ n_ρ8 (fun hn_69 => ?_) (fun hn_69 => ?_)
        · rw [alk_c (V := σ) (funext fun y => t_ρ8 16 0 y (by decide)) (funext fun y => t_ρ8 15 0 y (by decide))] at hn_69
          refine r_if_eq (tgt := 79) hC dX5_same_72 rfl (fun h9 => by omega) (fun h9 => ?_)
          refine r_iconst hC dX5_same_75 rfl ?_
          refine r_goto (tgt := 80) hC dX5_same_76 rfl ?_
          refine y_iret hK rfl dX5_same_80 ?_
          have hA : saA σ l o 1 := by
            have q := hn_69
            rw [alk_t (u2 := σ 9 l) (v2 := σ 9 o) (n2 := (σ 7 l 6).toNat) (m2 := (σ 7 o 6).toNat) (by omega) (by omega) (fun j a b => by rw [Int.zero_add]) (fun j a b => by rw [Int.zero_add])] at q
            exact ⟨fun z => absurd (by unfold saC opV; omega) z, fun _ => ⟨fun _ => rfl, fun z => absurd q z⟩⟩
          exact k _ _ hA (t_ρ8) (FRc.inF r_ρ8 (fun j h0 h1 => by rw [t_ρ8 15 0 j (by decide)]; exact hcl j h0 h1))
        · rw [alk_c (V := σ) (funext fun y => t_ρ8 16 0 y (by decide)) (funext fun y => t_ρ8 15 0 y (by decide))] at hn_69
          refine r_if_eq (tgt := 79) hC dX5_same_72 rfl (fun h10 => ?_) (fun h10 => by omega)
          refine r_iconst hC dX5_same_79 rfl ?_
          refine y_iret hK rfl dX5_same_80 ?_
          have hA : saA σ l o 0 := by
            have q := hn_69
            rw [alk_t (u2 := σ 9 l) (v2 := σ 9 o) (n2 := (σ 7 l 6).toNat) (m2 := (σ 7 o 6).toNat) (by omega) (by omega) (fun j a b => by rw [Int.zero_add]) (fun j a b => by rw [Int.zero_add])] at q
            exact ⟨fun z => absurd (by unfold saC opV; omega) z, fun _ => ⟨fun z => absurd z q, fun _ => rfl⟩⟩
          exact k _ _ hA (t_ρ8) (FRc.inF r_ρ8 (fun j h0 h1 => by rw [t_ρ8 15 0 j (by decide)]; exact hcl j h0 h1))
      · refine r_iconst hC dX5_same_34 rfl ?_
        refine y_iret hK rfl dX5_same_35 ?_
        have hA : saA σ l o (-1) := by
          exact ⟨fun _ => rfl, fun q => by unfold saC opV at q; omega⟩
        exact k _ _ hA (fun _ _ _ _ => rfl) hI
    · refine r_astoreN hC dX5_same_11 rfl ?_
      refine r_aload_n hC dX5_same_13 rfl ?_
      refine r_ifnullR hC dX5_same_14 ?_
      refine r_aloadN hC dX5_same_17 rfl ?_
      refine r_ifnullN (tgt := 34) hC dX5_same_19 rfl ?_
      refine r_iconst hC dX5_same_34 rfl ?_
      refine y_iret hK rfl dX5_same_35 ?_
      have hA : saA σ l o (-1) := by
        exact ⟨fun _ => rfl, fun q => by unfold saC opV at q; omega⟩
      exact k _ _ hA (fun _ _ _ _ => rfl) hI
  · refine r_astoreN_n hC dX5_same_5 rfl ?_
    refine r_aload_n hC dX5_same_6 rfl ?_
    refine r_iload_n hC dX5_same_7 rfl ?_
    refine z_inv1 hM dX5_same_8 vl_RX5_123 rfl rfl rfl (Nat.le_of_ble_eq_true rfl) (Nat.le_of_ble_eq_true rfl) ?_
    refine x_openLane (fun hl_8 => ?_) (fun hl_8 => ?_)
    · have h6_8 := hG.1.h7 (l := o) (by omega) (by omega)
      have hN_8 := numF_rng (σ 7 o 2)
      have hO_8 := (hG.2.1.2.2.2.1 o (by omega) (by omega)).2
      refine r_astore hC dX5_same_11 rfl ?_
      refine r_aloadN_n hC dX5_same_13 rfl ?_
      refine r_ifnullN (tgt := 34) hC dX5_same_14 rfl ?_
      refine r_iconst hC dX5_same_34 rfl ?_
      refine y_iret hK rfl dX5_same_35 ?_
      have hA : saA σ l o (-1) := by
        exact ⟨fun _ => rfl, fun q => by unfold saC opV at q; omega⟩
      exact k _ _ hA (fun _ _ _ _ => rfl) hI
    · refine r_astoreN hC dX5_same_11 rfl ?_
      refine r_aloadN_n hC dX5_same_13 rfl ?_
      refine r_ifnullN (tgt := 34) hC dX5_same_14 rfl ?_
      refine r_iconst hC dX5_same_34 rfl ?_
      refine y_iret hK rfl dX5_same_35 ?_
      have hA : saA σ l o (-1) := by
        exact ⟨fun _ => rfl, fun q => by unfold saC opV at q; omega⟩
      exact k _ _ hA (fun _ _ _ _ => rfl) hI
theorem x_same {eb : Bool} {d : Nat} {P : Option Vl → Mm → Prop} {σ : Mm} {l o : Int} (hG : GI σ) (k : ∀ r : Int, saA σ l o r → P (some (vI r)) σ) : WT (true, false, eb) (d + 5) 88 [vR 2 0, vI l, vI o] σ P := WT_fold fun ρ e hI => x_same_S hI (hG.fo e) (fun r ρ2 hA gq hI2 => ⟨hI2, σ, k r (by
    have hc : saA ρ l o r = saA σ l o r := by (delta saA YN alk saC opV; simp only [e 7 (by decide), e 8 (by decide), e 9 (by decide), e 15 (by decide), e 16 (by decide)])
    rw [← hc]
    exact hA), fun c x y hc => (gq c x y hc).trans (by rw [e c hc])⟩)
theorem x_commutes_S {eb : Bool} {d : Nat} {P : Option Vl → Mm → Prop} {σ : Mm} {l x : Int}  (hI : InF σ) (hG : GI σ)  (k : ∀ (r : Int) (ρ : Mm), comA σ l x r → (∀ (c : Nat) (x y : Int), ¬ Fo c → ρ c x y = σ c x y) → InF ρ → P (some (vI r)) ρ) : WT (true, true, eb) (d + 5) 84 [vR 2 0, vI l, vI x] σ P := by
  refine WT_in fun K hK => ?_
  have hK : StpY (true, true, eb) cX5_commutes RX5 (some .int) (WT (true, true, eb) (d + 4)) P K := hK
  have hM := hK.1
  have hC := hK.1.1
  show K 0 [some (vR 2 0), some (vI l), some (vI x), none, none, none] [] σ
  refine z_ok hM (fun hok => ?_)
  refine r_rngz hC (fun g0 => ?_)
  have r_l : -2147483648 ≤ l ∧ l ≤ 2147483647 := inR_le (g0 (vI l) (by simp))
  have r_x : -2147483648 ≤ x ∧ x ≤ 2147483647 := inR_le (g0 (vI x) (by simp))
  have hcl := hG.2.1.2.2.2.2.2.2.2
  have hrow := hG.2.1.2.2.1
  refine r_aload_n hC dX5_commutes_0 rfl ?_
  refine r_iload_n hC dX5_commutes_1 rfl ?_
  refine r_iload_n hC dX5_commutes_2 rfl ?_
  refine z_inv2 hM dX5_commutes_3 vl_RX5_171 rfl rfl rfl (Nat.le_of_ble_eq_true rfl) (Nat.le_of_ble_eq_true rfl) ?_
  refine x_laneHolding (fun hl_3 => ?_) (fun hl_3 => ?_)
  · have h6_3 := hG.1.h7 (l := l) (by omega) (by omega)
    have hN_3 := numF_rng (σ 7 l 2)
    have hO_3 := (hG.2.1.2.2.2.1 l (by omega) (by omega)).2
    refine r_astore_n hC dX5_commutes_6 rfl ?_
    refine r_aload_n hC dX5_commutes_7 rfl ?_
    refine r_ifnullR hC dX5_commutes_8 ?_
    refine r_iload_n hC dX5_commutes_11 rfl ?_
    refine r_aload_n hC dX5_commutes_12 rfl ?_
    refine z_getI (jz := 6) hM dX5_commutes_13 fl_RX5_154 rfl rfl rfl (fun v1 h_v1 o_v1 t_v1 => ?_)
    have w_v1 := ((t_v1 (Or.inl (by first | exact trivial | exact tb7_ (by decide) | simp [Tb]))).trans (rfl)).symm
    clear t_v1
    subst w_v1
    have q_v1 : 0 ≤ (σ 7 l 6) ∧ (σ 7 l 6) ≤ 121 := o_v1.1 rfl
    refine r_iconst hC dX5_commutes_16 rfl ?_
    refine r_isubE hC (((σ 7 l 6) - 1)) dX5_commutes_17 (by omega) (by unfold inR; omega) ?_
    refine r_icmp_ne (tgt := 23) hC dX5_commutes_18 rfl (fun h2 => ?_) (fun h2 => ?_)
    · refine r_aload_n hC dX5_commutes_23 rfl ?_
      refine r_aload_n hC dX5_commutes_24 rfl ?_
      refine r_iconst hC dX5_commutes_25 rfl ?_
      refine r_aload_n hC dX5_commutes_26 rfl ?_
      refine z_getI (jz := 6) hM dX5_commutes_27 fl_RX5_154 rfl rfl rfl (fun v3 h_v3 o_v3 t_v3 => ?_)
      have w_v3 := ((t_v3 (Or.inl (by first | exact trivial | exact tb7_ (by decide) | simp [Tb]))).trans (rfl)).symm
      clear t_v3
      subst w_v3
      have q_v3 : 0 ≤ (σ 7 l 6) ∧ (σ 7 l 6) ≤ 121 := o_v3.1 rfl
      refine z_inv3 hM dX5_commutes_30 vl_RX5_259 rfl rfl rfl (Nat.le_of_ble_eq_true rfl) (Nat.le_of_ble_eq_true rfl) ?_
      refine x_foldPart (i := l) (f := 0) (z := (σ 7 l 6)) (by omega) (by omega) (by omega) (fun ρ4 g_ρ4 r_ρ4 => ?_)
      have t_ρ4 : ∀ (c : Nat) (p q : Int), ¬ Fo c → ρ4 c p q = σ c p q := fun c p q hc => (g_ρ4 c p q (by omega)).trans ((fun _ _ _ _ => rfl) c p q hc)
      refine r_aload_n hC dX5_commutes_33 rfl ?_
      refine z_getR hM dX5_commutes_34 fl_RX5_40 rfl rfl (vld_of (n := 1) rfl (by omega) (by omega)) ?_
      refine z_inv0 hM dX5_commutes_37 vl_RX5_275 rfl rfl rfl (Nat.le_of_ble_eq_true rfl) (Nat.le_of_ble_eq_true rfl) ?_
      refine x_noteNumbers (o := (σ 7 l 2)) (u := (fun j => σ 9 l (0 + j))) (n := ((σ 7 l 6) - 0).toNat) r_ρ4 (fun ρ5 g_ρ5 n_ρ5 => ?_)
      have t_ρ5 : ∀ (c : Nat) (p q : Int), ¬ Fo c → ρ5 c p q = σ c p q := fun c p q hc => (g_ρ5 c p q (by omega)).trans (t_ρ4 c p q hc)
      have r_ρ5 : FRc ρ5 (σ 7 l 2) (fun j => σ 9 l (0 + j)) (((σ 7 l 6) - 0).toNat) := FRc.ext r_ρ4 (fun j hj => g_ρ5 14 0 j (by omega)) (fun j => g_ρ5 17 0 j (by omega)) (funext fun y => g_ρ5 16 0 y (by omega)) (funext fun y => g_ρ5 15 0 y (by omega))
      refine r_aload_n hC dX5_commutes_40 rfl ?_
      refine z_getR hM dX5_commutes_41 fl_RX5_40 rfl rfl (vld_of (n := 1) rfl (by omega) (by omega)) ?_
      refine r_aload_n hC dX5_commutes_44 rfl ?_
      refine z_getI (jz := 2) hM dX5_commutes_45 fl_RX5_98 rfl rfl rfl (fun v6 h_v6 o_v6 t_v6 => ?_)
      have w_v6 := ((t_v6 (Or.inl (by first | exact trivial | exact tb7_ (by decide) | simp [Tb]))).trans (t_ρ5 7 l 2 (by decide))).symm
      clear t_v6
      subst w_v6
      have q_v6 : 0 ≤ (σ 7 l 2) ∧ (σ 7 l 2) ≤ 9 := o_v6.2.2 rfl
      refine z_inv1 hM dX5_commutes_48 vl_RX5_251 rfl rfl rfl (Nat.le_of_ble_eq_true rfl) (Nat.le_of_ble_eq_true rfl) ?_
      refine x_begin (by omega) rfl rfl rfl rfl rfl rfl rfl rfl rfl rfl (fun ρ7 g_ρ7 z_ρ7 => ?_)
      have t_ρ7 : ∀ (c : Nat) (p q : Int), ¬ Fo c → ρ7 c p q = σ c p q := fun c p q hc => (g_ρ7 c p q (by omega)).trans (t_ρ5 c p q hc)
      have n_ρ7 := NT.e n_ρ5 (g_ρ7 14 0 4 (by omega)) (fun y => g_ρ7 18 0 y (by omega)) (funext fun y => g_ρ7 16 0 y (by omega)) (funext fun y => g_ρ7 15 0 y (by omega))
      refine r_iconst hC dX5_commutes_51 rfl ?_
      refine r_istore hC dX5_commutes_52 rfl ?_
      have L54 : ∀ (n54 : Nat) (w8 : Int) (ρ9 : Mm), 0 ≤ w8 ∧ w8 ≤ 121 → ((w8) ≤ σ 7 l 6) → 121 - w8 < (n54 : Int) → (∀ (c : Nat) (p q : Int), ¬ Fo c → ρ9 c p q = σ c p q) → (FRc ρ9 (σ 7 l 2) (coU σ l x) ((w8).toNat)) → (NT ρ9 (σ 7 l 2) (fun j => σ 9 l (0 + j)) ((σ 7 l 6 - 0).toNat)) → K 54 [some (vR 2 0), some (vI l), some (vI x), some (vR 7 l), some (vI w8), none] [] ρ9 := by
        intro n54
        induction n54 with
        | zero => intro w8 ρ9 f_w8 i0_54 hm  m0_54 m1_54 m2_54; omega
        | succ n54 ih54 =>
          intro w8 ρ9 f_w8 i0_54 hm54  m0_54 m1_54 m2_54
          refine r_iload hC dX5_commutes_54 rfl ?_
          refine r_aload_n hC dX5_commutes_56 rfl ?_
          refine z_getI (jz := 6) hM dX5_commutes_57 fl_RX5_154 rfl rfl rfl (fun v10 h_v10 o_v10 t_v10 => ?_)
          have w_v10 := ((t_v10 (Or.inl (by first | exact trivial | exact tb7_ (by decide) | simp [Tb]))).trans (m0_54 7 l 6 (by decide))).symm
          clear t_v10
          subst w_v10
          have q_v10 : 0 ≤ (σ 7 l 6) ∧ (σ 7 l 6) ≤ 121 := o_v10.1 rfl
          refine r_icmp_ge (tgt := 111) hC dX5_commutes_60 rfl (fun h11 => ?_) (fun h11 => ?_)
          · refine r_aload_n hC dX5_commutes_111 rfl ?_
            refine z_getR hM dX5_commutes_112 fl_RX5_40 rfl rfl (vld_of (n := 1) rfl (by omega) (by omega)) ?_
            refine z_inv0 hM dX5_commutes_115 vl_RX5_278 rfl rfl rfl (Nat.le_of_ble_eq_true rfl) (Nat.le_of_ble_eq_true rfl) ?_
            refine x_isAsNoted (o := (σ 7 l 2)) (u := (fun j => σ 9 l (0 + j))) (v := (coU σ l x)) (n := (σ 7 l 6 - 0).toNat) (m := (w8).toNat) (by omega) m1_54.1 m1_54.2.1 m2_54.1 m1_54 m2_54 (fun hn_115 => ?_) (fun hn_115 => ?_)
            · rw [alk_c (V := σ) (funext fun y => m0_54 16 0 y (by decide)) (funext fun y => m0_54 15 0 y (by decide))] at hn_115
              refine r_if_eq (tgt := 125) hC dX5_commutes_118 rfl (fun h12 => by omega) (fun h12 => ?_)
              refine r_iconst hC dX5_commutes_121 rfl ?_
              refine r_goto (tgt := 126) hC dX5_commutes_122 rfl ?_
              refine y_iret hK rfl dX5_commutes_126 ?_
              have hA : comA σ l x 1 := by
                have q := hn_115
                rw [alk_t (u2 := σ 9 l) (v2 := coU σ l x) (n2 := (σ 7 l 6).toNat) (m2 := (σ 7 l 6).toNat) (by omega) (by omega) (fun j a b => by rw [Int.zero_add]) (fun j a b => rfl)] at q
                exact ⟨fun z => absurd (by unfold comC opV; omega) z, fun _ => ⟨fun _ => rfl, fun z => absurd q z⟩⟩
              exact k _ _ hA (m0_54) (FRc.inF m1_54 (fun j h0 h1 => by rw [m0_54 15 0 j (by decide)]; exact hcl j h0 h1))
            · rw [alk_c (V := σ) (funext fun y => m0_54 16 0 y (by decide)) (funext fun y => m0_54 15 0 y (by decide))] at hn_115
              refine r_if_eq (tgt := 125) hC dX5_commutes_118 rfl (fun h13 => ?_) (fun h13 => by omega)
              refine r_iconst hC dX5_commutes_125 rfl ?_
              refine y_iret hK rfl dX5_commutes_126 ?_
              have hA : comA σ l x 0 := by
                have q := hn_115
                rw [alk_t (u2 := σ 9 l) (v2 := coU σ l x) (n2 := (σ 7 l 6).toNat) (m2 := (σ 7 l 6).toNat) (by omega) (by omega) (fun j a b => by rw [Int.zero_add]) (fun j a b => rfl)] at q
                exact ⟨fun z => absurd (by unfold comC opV; omega) z, fun _ => ⟨fun z => absurd z q, fun _ => rfl⟩⟩
              exact k _ _ hA (m0_54) (FRc.inF m1_54 (fun j h0 h1 => by rw [m0_54 15 0 j (by decide)]; exact hcl j h0 h1))
          · refine r_iload hC dX5_commutes_63 rfl ?_
            refine r_iload_n hC dX5_commutes_65 rfl ?_
            refine r_icmp_ne (tgt := 75) hC dX5_commutes_66 rfl (fun h14 => ?_) (fun h14 => ?_)
            · refine r_iload hC dX5_commutes_75 rfl ?_
              refine r_iload_n hC dX5_commutes_77 rfl ?_
              refine r_iconst hC dX5_commutes_78 rfl ?_
              refine r_iaddE hC ((x + 1)) dX5_commutes_79 (by omega) (by unfold inR; omega) ?_
              refine r_icmp_ne (tgt := 87) hC dX5_commutes_80 rfl (fun h15 => ?_) (fun h15 => ?_)
              · refine r_iload hC dX5_commutes_87 rfl ?_
                refine r_istore hC dX5_commutes_89 rfl ?_
                refine r_aload_n hC dX5_commutes_91 rfl ?_
                refine z_getR hM dX5_commutes_92 fl_RX5_40 rfl rfl (vld_of (n := 1) rfl (by omega) (by omega)) ?_
                refine r_aload_n hC dX5_commutes_95 rfl ?_
                refine z_getR hM dX5_commutes_96 fl_RX5_176 rfl rfl (vld_of (n := 7) rfl (by omega) (by omega)) ?_
                refine r_iload hC dX5_commutes_99 rfl ?_
                refine z_iald hM dX5_commutes_101 rfl (by omega) (by omega) (fun v16 h_v16 o_v16 t_v16 => ?_)
                have w_v16 := ((t_v16 (Or.inl (by first | exact trivial | exact tb7_ (by decide) | simp [Tb]))).trans (m0_54 9 l w8 (by decide))).symm
                clear t_v16
                subst w_v16
                have q_v16 : -1000 ≤ (σ 9 l w8) ∧ (σ 9 l w8) ≤ 1000 := o_v16
                refine z_inv1 hM dX5_commutes_102 vl_RX5_253 rfl rfl rfl (Nat.le_of_ble_eq_true rfl) (Nat.le_of_ble_eq_true rfl) ?_
                refine x_append2 (u := (coU σ l x)) (n := (w8).toNat) (by show (σ 9 l w8) = coU σ l x (((w8).toNat : Nat) : Int); unfold coU; refine congrArg (σ 9 l) ?_; (repeat' split) <;> omega) (by omega) (by omega) (by omega) (fun j h0 h1 => by unfold coU; exact (hrow l _ (by omega) (by omega) (by (repeat' split) <;> omega) (by (repeat' split) <;> omega)).2) m1_54 (fun j h0 h1 => by rw [m0_54 15 0 j (by decide)]; exact hcl j h0 h1) (fun ρ17 g_ρ17 r_ρ17 => ?_)
                have t_ρ17 : ∀ (c : Nat) (p q : Int), ¬ Fo c → ρ17 c p q = σ c p q := fun c p q hc => (g_ρ17 c p q (by omega)).trans (m0_54 c p q hc)
                have n_ρ17 := NT.e m2_54 (g_ρ17 14 0 4 (by omega)) (fun y => g_ρ17 18 0 y (by omega)) (funext fun y => g_ρ17 16 0 y (by omega)) (funext fun y => g_ρ17 15 0 y (by omega))
                refine r_iincE hC ((w8 + 1)) dX5_commutes_105 rfl rfl (by omega) (by unfold inR; omega) ?_
                refine r_goto (tgt := 54) hC dX5_commutes_108 rfl ?_
                refine r_forget hC (ls2 := [some (vR 2 0), some (vI l), some (vI x), some (vR 7 l), some (vI (w8 + 1)), none]) (lsub_some (lsub_some (lsub_some (lsub_some (lsub_some (lsub_none lsub_nil)))))) ?_
                exact ih54 ((w8 + 1)) ρ17 (by omega) (by omega) (by omega)  (t_ρ17) (by rw [show ((((w8 + 1) : Int)).toNat : Nat) = ((w8).toNat + 1) from by omega]; exact r_ρ17) (n_ρ17)
              · refine r_iload_n hC dX5_commutes_83 rfl ?_
                refine r_goto (tgt := 89) hC dX5_commutes_84 rfl ?_
                refine r_istore hC dX5_commutes_89 rfl ?_
                refine r_aload_n hC dX5_commutes_91 rfl ?_
                refine z_getR hM dX5_commutes_92 fl_RX5_40 rfl rfl (vld_of (n := 1) rfl (by omega) (by omega)) ?_
                refine r_aload_n hC dX5_commutes_95 rfl ?_
                refine z_getR hM dX5_commutes_96 fl_RX5_176 rfl rfl (vld_of (n := 7) rfl (by omega) (by omega)) ?_
                refine r_iload hC dX5_commutes_99 rfl ?_
                refine z_iald hM dX5_commutes_101 rfl (by omega) (by omega) (fun v18 h_v18 o_v18 t_v18 => ?_)
                have w_v18 := ((t_v18 (Or.inl (by first | exact trivial | exact tb7_ (by decide) | simp [Tb]))).trans (m0_54 9 l x (by decide))).symm
                clear t_v18
                subst w_v18
                have q_v18 : -1000 ≤ (σ 9 l x) ∧ (σ 9 l x) ≤ 1000 := o_v18
                refine z_inv1 hM dX5_commutes_102 vl_RX5_253 rfl rfl rfl (Nat.le_of_ble_eq_true rfl) (Nat.le_of_ble_eq_true rfl) ?_
                refine x_append2 (u := (coU σ l x)) (n := (w8).toNat) (by show (σ 9 l x) = coU σ l x (((w8).toNat : Nat) : Int); unfold coU; refine congrArg (σ 9 l) ?_; (repeat' split) <;> omega) (by omega) (by omega) (by omega) (fun j h0 h1 => by unfold coU; exact (hrow l _ (by omega) (by omega) (by (repeat' split) <;> omega) (by (repeat' split) <;> omega)).2) m1_54 (fun j h0 h1 => by rw [m0_54 15 0 j (by decide)]; exact hcl j h0 h1) (fun ρ19 g_ρ19 r_ρ19 => ?_)
                have t_ρ19 : ∀ (c : Nat) (p q : Int), ¬ Fo c → ρ19 c p q = σ c p q := fun c p q hc => (g_ρ19 c p q (by omega)).trans (m0_54 c p q hc)
                have n_ρ19 := NT.e m2_54 (g_ρ19 14 0 4 (by omega)) (fun y => g_ρ19 18 0 y (by omega)) (funext fun y => g_ρ19 16 0 y (by omega)) (funext fun y => g_ρ19 15 0 y (by omega))
                refine r_iincE hC ((w8 + 1)) dX5_commutes_105 rfl rfl (by omega) (by unfold inR; omega) ?_
                refine r_goto (tgt := 54) hC dX5_commutes_108 rfl ?_
                refine r_forget hC (ls2 := [some (vR 2 0), some (vI l), some (vI x), some (vR 7 l), some (vI (w8 + 1)), none]) (lsub_some (lsub_some (lsub_some (lsub_some (lsub_some (lsub_none lsub_nil)))))) ?_
                exact ih54 ((w8 + 1)) ρ19 (by omega) (by omega) (by omega)  (t_ρ19) (by rw [show ((((w8 + 1) : Int)).toNat : Nat) = ((w8).toNat + 1) from by omega]; exact r_ρ19) (n_ρ19)
            · refine r_iload_n hC dX5_commutes_69 rfl ?_
              refine r_iconst hC dX5_commutes_70 rfl ?_
              refine r_iaddE hC ((x + 1)) dX5_commutes_71 (by omega) (by unfold inR; omega) ?_
              refine r_goto (tgt := 89) hC dX5_commutes_72 rfl ?_
              refine r_istore hC dX5_commutes_89 rfl ?_
              refine r_aload_n hC dX5_commutes_91 rfl ?_
              refine z_getR hM dX5_commutes_92 fl_RX5_40 rfl rfl (vld_of (n := 1) rfl (by omega) (by omega)) ?_
              refine r_aload_n hC dX5_commutes_95 rfl ?_
              refine z_getR hM dX5_commutes_96 fl_RX5_176 rfl rfl (vld_of (n := 7) rfl (by omega) (by omega)) ?_
              refine r_iload hC dX5_commutes_99 rfl ?_
              refine z_iald hM dX5_commutes_101 rfl (by omega) (by omega) (fun v20 h_v20 o_v20 t_v20 => ?_)
              have w_v20 := ((t_v20 (Or.inl (by first | exact trivial | exact tb7_ (by decide) | simp [Tb]))).trans (m0_54 9 l (x + 1) (by decide))).symm
              clear t_v20
              subst w_v20
              have q_v20 : -1000 ≤ (σ 9 l (x + 1)) ∧ (σ 9 l (x + 1)) ≤ 1000 := o_v20
              refine z_inv1 hM dX5_commutes_102 vl_RX5_253 rfl rfl rfl (Nat.le_of_ble_eq_true rfl) (Nat.le_of_ble_eq_true rfl) ?_
              refine x_append2 (u := (coU σ l x)) (n := (w8).toNat) (by show (σ 9 l (x + 1)) = coU σ l x (((w8).toNat : Nat) : Int); unfold coU; refine congrArg (σ 9 l) ?_; (repeat' split) <;> omega) (by omega) (by omega) (by omega) (fun j h0 h1 => by unfold coU; exact (hrow l _ (by omega) (by omega) (by (repeat' split) <;> omega) (by (repeat' split) <;> omega)).2) m1_54 (fun j h0 h1 => by rw [m0_54 15 0 j (by decide)]; exact hcl j h0 h1) (fun ρ21 g_ρ21 r_ρ21 => ?_)
              have t_ρ21 : ∀ (c : Nat) (p q : Int), ¬ Fo c → ρ21 c p q = σ c p q := fun c p q hc => (g_ρ21 c p q (by omega)).trans (m0_54 c p q hc)
              have n_ρ21 := NT.e m2_54 (g_ρ21 14 0 4 (by omega)) (fun y => g_ρ21 18 0 y (by omega)) (funext fun y => g_ρ21 16 0 y (by omega)) (funext fun y => g_ρ21 15 0 y (by omega))
              refine r_iincE hC ((w8 + 1)) dX5_commutes_105 rfl rfl (by omega) (by unfold inR; omega) ?_
              refine r_goto (tgt := 54) hC dX5_commutes_108 rfl ?_
              refine r_forget hC (ls2 := [some (vR 2 0), some (vI l), some (vI x), some (vR 7 l), some (vI (w8 + 1)), none]) (lsub_some (lsub_some (lsub_some (lsub_some (lsub_some (lsub_none lsub_nil)))))) ?_
              exact ih54 ((w8 + 1)) ρ21 (by omega) (by omega) (by omega)  (t_ρ21) (by rw [show ((((w8 + 1) : Int)).toNat : Nat) = ((w8).toNat + 1) from by omega]; exact r_ρ21) (n_ρ21)
      exact L54 123 (0) ρ7 (by omega) (by omega) (by omega)  (t_ρ7) (by rw [show (((0 : Int)).toNat : Nat) = 0 from by omega]; exact z_ρ7 (coU σ l x)) (n_ρ7)
    · refine r_iconst hC dX5_commutes_21 rfl ?_
      refine y_iret hK rfl dX5_commutes_22 ?_
      have hA : comA σ l x (-1) := by
        exact ⟨fun _ => rfl, fun q => by unfold comC opV at q; omega⟩
      exact k _ _ hA (fun _ _ _ _ => rfl) hI
  · refine r_astoreN_n hC dX5_commutes_6 rfl ?_
    refine r_aloadN_n hC dX5_commutes_7 rfl ?_
    refine r_ifnullN (tgt := 21) hC dX5_commutes_8 rfl ?_
    refine r_iconst hC dX5_commutes_21 rfl ?_
    refine y_iret hK rfl dX5_commutes_22 ?_
    have hA : comA σ l x (-1) := by
      exact ⟨fun _ => rfl, fun q => by unfold comC opV at q; omega⟩
    exact k _ _ hA (fun _ _ _ _ => rfl) hI
theorem x_commutes {eb : Bool} {d : Nat} {P : Option Vl → Mm → Prop} {σ : Mm} {l x : Int} (hG : GI σ) (k : ∀ r : Int, comA σ l x r → P (some (vI r)) σ) : WT (true, false, eb) (d + 5) 84 [vR 2 0, vI l, vI x] σ P := WT_fold fun ρ e hI => x_commutes_S hI (hG.fo e) (fun r ρ2 hA gq hI2 => ⟨hI2, σ, k r (by
    have hc : comA ρ l x r = comA σ l x r := by (delta comA YN alk coU comC opV; simp only [e 7 (by decide), e 8 (by decide), e 9 (by decide), e 15 (by decide), e 16 (by decide)])
    rw [← hc]
    exact hA), fun c x y hc => (gq c x y hc).trans (by rw [e c hc])⟩)
theorem x_shortest_S {eb : Bool} {d : Nat} {P : Option Vl → Mm → Prop} {σ : Mm} {l w b u : Int}  (hI : InF σ) (hG : GI σ)  (k : ∀ (r : Int) (ρ : Mm), stA σ l w b u r → (∀ (c : Nat) (x y : Int), ¬ Fo c → ρ c x y = σ c x y) → InF ρ → P (some (vI r)) ρ) : WT (true, true, eb) (d + 5) 109 [vR 2 0, vI l, vI w, vI b, vI u] σ P := by
  refine WT_in fun K hK => ?_
  have hK : StpY (true, true, eb) cX5_shortest RX5 (some .int) (WT (true, true, eb) (d + 4)) P K := hK
  have hM := hK.1
  have hC := hK.1.1
  show K 0 [some (vR 2 0), some (vI l), some (vI w), some (vI b), some (vI u), none, none, none, none, none] [] σ
  refine z_ok hM (fun hok => ?_)
  refine r_rngz hC (fun g0 => ?_)
  have r_l : -2147483648 ≤ l ∧ l ≤ 2147483647 := inR_le (g0 (vI l) (by simp))
  have r_w : -2147483648 ≤ w ∧ w ≤ 2147483647 := inR_le (g0 (vI w) (by simp))
  have r_b : -2147483648 ≤ b ∧ b ≤ 2147483647 := inR_le (g0 (vI b) (by simp))
  have r_u : -2147483648 ≤ u ∧ u ≤ 2147483647 := inR_le (g0 (vI u) (by simp))
  have hcl := hG.2.1.2.2.2.2.2.2.2
  have hrow := hG.2.1.2.2.1
  refine r_aload_n hC dX5_shortest_0 rfl ?_
  refine r_iload_n hC dX5_shortest_1 rfl ?_
  refine r_iload_n hC dX5_shortest_2 rfl ?_
  refine z_inv2 hM dX5_shortest_3 vl_RX5_248 rfl rfl rfl (Nat.le_of_ble_eq_true rfl) (Nat.le_of_ble_eq_true rfl) ?_
  refine x_laneWith (fun hl_3 => ?_) (fun hl_3 => ?_)
  · have h6_3 := hG.1.h7 (l := l) (by omega) (by omega)
    have hN_3 := numF_rng (σ 7 l 2)
    have hO_3 := (hG.2.1.2.2.2.1 l (by omega) (by omega)).2
    refine r_astore hC dX5_shortest_6 rfl ?_
    refine r_aload hC dX5_shortest_8 rfl ?_
    refine r_ifnullR hC dX5_shortest_10 ?_
    refine r_iload hC dX5_shortest_13 rfl ?_
    refine r_iconst hC dX5_shortest_15 rfl ?_
    refine r_iconst hC dX5_shortest_16 rfl ?_
    refine z_ins3 hM dX5_shortest_17 tl_RX5_59 rfl (Nat.le_of_ble_eq_true rfl) (Nat.le_of_ble_eq_true rfl) ?_
    refine s_within (fun h2 => ?_) (fun h2 => ?_)
    · refine r_if_ne (tgt := 25) hC dX5_shortest_20 rfl (fun h3 => ?_) (fun h3 => by omega)
      refine r_aload hC dX5_shortest_25 rfl ?_
      refine z_getI (jz := 6) hM dX5_shortest_27 fl_RX5_154 rfl rfl rfl (fun v4 h_v4 o_v4 t_v4 => ?_)
      have w_v4 := ((t_v4 (Or.inl (by first | exact trivial | exact tb7_ (by decide) | simp [Tb]))).trans (rfl)).symm
      clear t_v4
      subst w_v4
      have q_v4 : 0 ≤ (σ 7 l 6) ∧ (σ 7 l 6) ≤ 121 := o_v4.1 rfl
      refine r_iconst hC dX5_shortest_30 rfl ?_
      refine r_iaddE hC (((σ 7 l 6) + 1)) dX5_shortest_31 (by omega) (by unfold inR; omega) ?_
      refine r_istore hC dX5_shortest_32 rfl ?_
      refine r_iconst hC dX5_shortest_34 rfl ?_
      refine r_istore hC dX5_shortest_35 rfl ?_
      refine r_iconst hC dX5_shortest_37 rfl ?_
      refine r_istore hC dX5_shortest_38 rfl ?_
      have L40 : ∀ (n40 : Nat) (w5 w6 w7 : Int) (ρ8 : Mm), 1 ≤ w5 ∧ w5 ≤ 122 → -1 ≤ w6 ∧ w6 ≤ 120 → 0 ≤ w7 ∧ w7 ≤ 121 → (ShP (fun f m => rchV σ l f (f + m) w b) (σ 7 l 6) (w7) (w5) (w6)) → ((w7) ≤ σ 7 l 6) → 121 - w7 < (n40 : Int) → (∀ (c : Nat) (p q : Int), ¬ Fo c → ρ8 c p q = σ c p q) → (InF ρ8) → K 40 [some (vR 2 0), some (vI l), some (vI w), some (vI b), some (vI u), some (vR 7 l), some (vI w5), some (vI w6), some (vI w7), none] [] ρ8 := by
        intro n40
        induction n40 with
        | zero => intro w5 w6 w7 ρ8 f_w5 f_w6 f_w7 i0_40 i1_40 hm  m0_40 m1_40; omega
        | succ n40 ih40 =>
          intro w5 w6 w7 ρ8 f_w5 f_w6 f_w7 i0_40 i1_40 hm40  m0_40 m1_40
          refine r_iload hC dX5_shortest_40 rfl ?_
          refine r_aload hC dX5_shortest_42 rfl ?_
          refine z_getI (jz := 6) hM dX5_shortest_44 fl_RX5_154 rfl rfl rfl (fun v9 h_v9 o_v9 t_v9 => ?_)
          have w_v9 := ((t_v9 (Or.inl (by first | exact trivial | exact tb7_ (by decide) | simp [Tb]))).trans (m0_40 7 l 6 (by decide))).symm
          clear t_v9
          subst w_v9
          have q_v9 : 0 ≤ (σ 7 l 6) ∧ (σ 7 l 6) ≤ 121 := o_v9.1 rfl
          refine r_icmp_ge (tgt := 140) hC dX5_shortest_47 rfl (fun h10 => ?_) (fun h10 => ?_)
          · refine r_iload hC dX5_shortest_140 rfl ?_
            refine r_iconst hC dX5_shortest_142 rfl ?_
            refine r_icmp_ne (tgt := 150) hC dX5_shortest_143 rfl (fun h11 => ?_) (fun h11 => ?_)
            · refine r_iload hC dX5_shortest_150 rfl ?_
              refine r_if_ne (tgt := 160) hC dX5_shortest_152 rfl (fun h12 => ?_) (fun h12 => ?_)
              · refine r_iload hC dX5_shortest_160 rfl ?_
                refine y_iret hK rfl dX5_shortest_162 ?_
                have hA : stA σ l w b u w6 := by
                  have p := i0_40.done (by omega)
                  exact ⟨fun z => absurd (by unfold shC2 lwC opV; omega) z, fun _ => ⟨_, _, p, by (repeat' split) <;> omega⟩⟩
                exact k _ _ hA (m0_40) m1_40
              · refine r_iload hC dX5_shortest_155 rfl ?_
                refine r_goto (tgt := 162) hC dX5_shortest_157 rfl ?_
                refine y_iret hK rfl dX5_shortest_162 ?_
                have hA : stA σ l w b u w5 := by
                  have p := i0_40.done (by omega)
                  exact ⟨fun z => absurd (by unfold shC2 lwC opV; omega) z, fun _ => ⟨_, _, p, by (repeat' split) <;> omega⟩⟩
                exact k _ _ hA (m0_40) m1_40
            · refine r_iconst hC dX5_shortest_146 rfl ?_
              refine r_goto (tgt := 162) hC dX5_shortest_147 rfl ?_
              refine y_iret hK rfl dX5_shortest_162 ?_
              have hA : stA σ l w b u (-1) := by
                have p := i0_40.done (by omega)
                exact ⟨fun z => absurd (by unfold shC2 lwC opV; omega) z, fun _ => ⟨_, _, p, by (repeat' split) <;> omega⟩⟩
              exact k _ _ hA (m0_40) m1_40
          · refine r_aload_n hC dX5_shortest_50 rfl ?_
            refine z_getR hM dX5_shortest_51 fl_RX5_40 rfl rfl (vld_of (n := 1) rfl (by omega) (by omega)) ?_
            refine r_aload hC dX5_shortest_54 rfl ?_
            refine z_getI (jz := 2) hM dX5_shortest_56 fl_RX5_98 rfl rfl rfl (fun v13 h_v13 o_v13 t_v13 => ?_)
            have w_v13 := ((t_v13 (Or.inl (by first | exact trivial | exact tb7_ (by decide) | simp [Tb]))).trans (m0_40 7 l 2 (by decide))).symm
            clear t_v13
            subst w_v13
            have q_v13 : 0 ≤ (σ 7 l 2) ∧ (σ 7 l 2) ≤ 9 := o_v13.2.2 rfl
            refine z_inv1 hM dX5_shortest_59 vl_RX5_251 rfl rfl rfl (Nat.le_of_ble_eq_true rfl) (Nat.le_of_ble_eq_true rfl) ?_
            refine x_begin (by omega) rfl rfl rfl rfl rfl rfl rfl rfl rfl rfl (fun ρ14 g_ρ14 z_ρ14 => ?_)
            have t_ρ14 : ∀ (c : Nat) (p q : Int), ¬ Fo c → ρ14 c p q = σ c p q := fun c p q hc => (g_ρ14 c p q (by omega)).trans (m0_40 c p q hc)
            refine r_iload hC dX5_shortest_62 rfl ?_
            refine r_istore hC dX5_shortest_64 rfl ?_
            have L66 : ∀ (n66 : Nat) (w15 w16 w17 : Int) (ρ18 : Mm), 1 ≤ w15 ∧ w15 ≤ 122 → -1 ≤ w16 ∧ w16 ≤ 120 → 0 ≤ w17 ∧ w17 ≤ 121 → ((w7) ≤ (w17)) → ((ShP (fun f m => rchV σ l f (f + m) w b) (σ 7 l 6) (w7) (w15) (w16) ∧ ∀ m : Int, 1 ≤ m → m ≤ (w17) - (w7) → ¬ rchV σ l (w7) ((w7) + m) w b) ∨ ((w15) = (w17) - (w7) ∧ ShP (fun f m => rchV σ l f (f + m) w b) (σ 7 l 6) ((w7) + 1) (w15) (w16))) → ((w17) ≤ σ 7 l 6) → 121 - w17 < (n66 : Int) → (∀ (c : Nat) (p q : Int), ¬ Fo c → ρ18 c p q = σ c p q) → (FRc ρ18 (σ 7 l 2) (fun j => σ 9 l (w7 + j)) ((w17 - w7).toNat)) → K 66 [some (vR 2 0), some (vI l), some (vI w), some (vI b), some (vI u), some (vR 7 l), some (vI w15), some (vI w16), some (vI w7), some (vI w17)] [] ρ18 := by
              intro n66
              induction n66 with
              | zero => intro w15 w16 w17 ρ18 f_w15 f_w16 f_w17 i0_66 i1_66 i2_66 hm  m0_66 m1_66; omega
              | succ n66 ih66 =>
                intro w15 w16 w17 ρ18 f_w15 f_w16 f_w17 i0_66 i1_66 i2_66 hm66  m0_66 m1_66
                refine r_iload hC dX5_shortest_66 rfl ?_
                refine r_aload hC dX5_shortest_68 rfl ?_
                refine z_getI (jz := 6) hM dX5_shortest_70 fl_RX5_154 rfl rfl rfl (fun v19 h_v19 o_v19 t_v19 => ?_)
                have w_v19 := ((t_v19 (Or.inl (by first | exact trivial | exact tb7_ (by decide) | simp [Tb]))).trans (m0_66 7 l 6 (by decide))).symm
                clear t_v19
                subst w_v19
                have q_v19 : 0 ≤ (σ 7 l 6) ∧ (σ 7 l 6) ≤ 121 := o_v19.1 rfl
                refine r_icmp_ge (tgt := 134) hC dX5_shortest_73 rfl (fun h20 => ?_) (fun h20 => ?_)
                · refine r_iincE hC ((w7 + 1)) dX5_shortest_134 rfl rfl (by omega) (by unfold inR; omega) ?_
                  refine r_goto (tgt := 40) hC dX5_shortest_137 rfl ?_
                  refine r_forget hC (ls2 := [some (vR 2 0), some (vI l), some (vI w), some (vI b), some (vI u), some (vR 7 l), some (vI w15), some (vI w16), some (vI (w7 + 1)), none]) (lsub_some (lsub_some (lsub_some (lsub_some (lsub_some (lsub_some (lsub_some (lsub_some (lsub_some (lsub_none lsub_nil)))))))))) ?_
                  exact ih40 (w15) (w16) ((w7 + 1)) ρ18 (by omega) (by omega) (by omega) (by first | exact ShP.zero rfl | (rcases i1_66 with ⟨p1, p2⟩ | ⟨p1, p2⟩; exact p1.next (fun m a b c => p2 m a (by omega)) (by omega); exact p2)) (by omega) (by omega)  (m0_66) ((FRc.inF m1_66 (fun j h0 h1 => by rw [m0_66 15 0 j (by decide)]; exact hcl j h0 h1)))
                · refine r_iload hC dX5_shortest_76 rfl ?_
                  refine r_iload hC dX5_shortest_78 rfl ?_
                  refine r_isubE hC ((w17 - w7)) dX5_shortest_80 (by omega) (by unfold inR; omega) ?_
                  refine r_iconst hC dX5_shortest_81 rfl ?_
                  refine r_iaddE hC (((w17 - w7) + 1)) dX5_shortest_82 (by omega) (by unfold inR; omega) ?_
                  refine r_iload hC dX5_shortest_83 rfl ?_
                  refine r_icmp_ge (tgt := 134) hC dX5_shortest_85 rfl (fun h21 => ?_) (fun h21 => ?_)
                  · refine r_iincE hC ((w7 + 1)) dX5_shortest_134 rfl rfl (by omega) (by unfold inR; omega) ?_
                    refine r_goto (tgt := 40) hC dX5_shortest_137 rfl ?_
                    refine r_forget hC (ls2 := [some (vR 2 0), some (vI l), some (vI w), some (vI b), some (vI u), some (vR 7 l), some (vI w15), some (vI w16), some (vI (w7 + 1)), none]) (lsub_some (lsub_some (lsub_some (lsub_some (lsub_some (lsub_some (lsub_some (lsub_some (lsub_some (lsub_none lsub_nil)))))))))) ?_
                    exact ih40 (w15) (w16) ((w7 + 1)) ρ18 (by omega) (by omega) (by omega) (by first | exact ShP.zero rfl | (rcases i1_66 with ⟨p1, p2⟩ | ⟨p1, p2⟩; exact p1.next (fun m a b c => p2 m a (by omega)) (by omega); exact p2)) (by omega) (by omega)  (m0_66) ((FRc.inF m1_66 (fun j h0 h1 => by rw [m0_66 15 0 j (by decide)]; exact hcl j h0 h1)))
                  · refine r_aload_n hC dX5_shortest_88 rfl ?_
                    refine z_getR hM dX5_shortest_89 fl_RX5_40 rfl rfl (vld_of (n := 1) rfl (by omega) (by omega)) ?_
                    refine r_aload hC dX5_shortest_92 rfl ?_
                    refine z_getR hM dX5_shortest_94 fl_RX5_176 rfl rfl (vld_of (n := 7) rfl (by omega) (by omega)) ?_
                    refine r_iload hC dX5_shortest_97 rfl ?_
                    refine z_iald hM dX5_shortest_99 rfl (by omega) (by omega) (fun v22 h_v22 o_v22 t_v22 => ?_)
                    have w_v22 := ((t_v22 (Or.inl (by first | exact trivial | exact tb7_ (by decide) | simp [Tb]))).trans (m0_66 9 l w17 (by decide))).symm
                    clear t_v22
                    subst w_v22
                    have q_v22 : -1000 ≤ (σ 9 l w17) ∧ (σ 9 l w17) ≤ 1000 := o_v22
                    refine z_inv1 hM dX5_shortest_100 vl_RX5_253 rfl rfl rfl (Nat.le_of_ble_eq_true rfl) (Nat.le_of_ble_eq_true rfl) ?_
                    refine x_append2 (u := (fun j => σ 9 l (w7 + j))) (n := (w17 - w7).toNat) (show (σ 9 l w17) = σ 9 l (w7 + (((w17 - w7).toNat : Nat) : Int)) from congrArg (σ 9 l) (by omega)) (by omega) (by omega) (by omega) (fun j h0 h1 => (hrow l (w7 + j) (by omega) (by omega) (by omega) (by omega)).2) m1_66 (fun j h0 h1 => by rw [m0_66 15 0 j (by decide)]; exact hcl j h0 h1) (fun ρ23 g_ρ23 r_ρ23 => ?_)
                    have t_ρ23 : ∀ (c : Nat) (p q : Int), ¬ Fo c → ρ23 c p q = σ c p q := fun c p q hc => (g_ρ23 c p q (by omega)).trans (m0_66 c p q hc)
                    refine r_aload_n hC dX5_shortest_103 rfl ?_
                    refine z_getR hM dX5_shortest_104 fl_RX5_40 rfl rfl (vld_of (n := 1) rfl (by omega) (by omega)) ?_
                    refine r_iload_n hC dX5_shortest_107 rfl ?_
                    refine r_iload_n hC dX5_shortest_108 rfl ?_
                    refine z_inv2 hM dX5_shortest_109 vl_RX5_256 rfl rfl rfl (Nat.le_of_ble_eq_true rfl) (Nat.le_of_ble_eq_true rfl) ?_
                    refine x_reaches (o := (σ 7 l 2)) (u := (fun j => σ 9 l (w7 + j))) (n := ((w17 - w7).toNat + 1)) (by omega) (by omega) r_ρ23 (fun hr_109 => ?_) (fun hr_109 => ?_)
                    · rw [show ρ23 16 0 = σ 16 0 from funext fun y => t_ρ23 16 0 y (by decide), show ρ23 15 0 = σ 15 0 from funext fun y => t_ρ23 15 0 y (by decide)] at hr_109
                      refine r_if_eq (tgt := 128) hC dX5_shortest_112 rfl (fun h24 => by omega) (fun h24 => ?_)
                      refine r_iload hC dX5_shortest_115 rfl ?_
                      refine r_iload hC dX5_shortest_117 rfl ?_
                      refine r_isubE hC ((w17 - w7)) dX5_shortest_119 (by omega) (by unfold inR; omega) ?_
                      refine r_iconst hC dX5_shortest_120 rfl ?_
                      refine r_iaddE hC (((w17 - w7) + 1)) dX5_shortest_121 (by omega) (by unfold inR; omega) ?_
                      refine r_istore hC dX5_shortest_122 rfl ?_
                      refine r_iload hC dX5_shortest_124 rfl ?_
                      refine r_istore hC dX5_shortest_126 rfl ?_
                      refine r_iincE hC ((w17 + 1)) dX5_shortest_128 rfl rfl (by omega) (by unfold inR; omega) ?_
                      show K _ [_, _, _, _, _, _, _, _, _, _] _ _
                      refine r_goto (tgt := 66) hC dX5_shortest_131 rfl ?_
                      exact ih66 (((w17 - w7) + 1)) (w7) ((w17 + 1)) ρ23 (by omega) (by omega) (by omega) (by omega) (by first | exact Or.inl ⟨i0_40, fun m a b => by omega⟩ | (rcases i1_66 with ⟨p1, p2⟩ | ⟨p1, p2⟩ <;> first | (exfalso; omega) | (have q := hr_109; rw [show (w17 - w7).toNat + 1 = (w7 + ((w17 - w7) + 1) - w7).toNat from by omega] at q; first | exact Or.inr ⟨by omega, p1.hit (by omega) (by omega) (by omega) (by omega) q (fun k a b => p2 k a (by omega))⟩ | exact Or.inl ⟨p1, fun m a b => by rcases (by omega : m ≤ w17 - w7 ∨ m = (w17 - w7) + 1) with z | z; exact p2 m a z; subst z; exact q⟩))) (by omega) (by omega)  (t_ρ23) (by rw [show ((((w17 + 1) - w7 : Int)).toNat : Nat) = ((w17 - w7).toNat + 1) from by omega]; exact r_ρ23)
                    · rw [show ρ23 16 0 = σ 16 0 from funext fun y => t_ρ23 16 0 y (by decide), show ρ23 15 0 = σ 15 0 from funext fun y => t_ρ23 15 0 y (by decide)] at hr_109
                      refine r_if_eq (tgt := 128) hC dX5_shortest_112 rfl (fun h25 => ?_) (fun h25 => by omega)
                      refine r_iincE hC ((w17 + 1)) dX5_shortest_128 rfl rfl (by omega) (by unfold inR; omega) ?_
                      refine r_goto (tgt := 66) hC dX5_shortest_131 rfl ?_
                      exact ih66 (w15) (w16) ((w17 + 1)) ρ23 (by omega) (by omega) (by omega) (by omega) (by first | exact Or.inl ⟨i0_40, fun m a b => by omega⟩ | (rcases i1_66 with ⟨p1, p2⟩ | ⟨p1, p2⟩ <;> first | (exfalso; omega) | (have q := hr_109; rw [show (w17 - w7).toNat + 1 = (w7 + ((w17 - w7) + 1) - w7).toNat from by omega] at q; first | exact Or.inr ⟨by omega, p1.hit (by omega) (by omega) (by omega) (by omega) q (fun k a b => p2 k a (by omega))⟩ | exact Or.inl ⟨p1, fun m a b => by rcases (by omega : m ≤ w17 - w7 ∨ m = (w17 - w7) + 1) with z | z; exact p2 m a z; subst z; exact q⟩))) (by omega) (by omega)  (t_ρ23) (by rw [show ((((w17 + 1) - w7 : Int)).toNat : Nat) = ((w17 - w7).toNat + 1) from by omega]; exact r_ρ23)
            exact L66 123 (w5) (w6) (w7) ρ14 (by omega) (by omega) (by omega) (by omega) (by first | exact Or.inl ⟨i0_40, fun m a b => by omega⟩ | (rcases i1_66 with ⟨p1, p2⟩ | ⟨p1, p2⟩ <;> first | (exfalso; omega) | (have q := hr_109; rw [show (w17 - w7).toNat + 1 = (w7 + ((w17 - w7) + 1) - w7).toNat from by omega] at q; first | exact Or.inr ⟨by omega, p1.hit (by omega) (by omega) (by omega) (by omega) q (fun k a b => p2 k a (by omega))⟩ | exact Or.inl ⟨p1, fun m a b => by rcases (by omega : m ≤ w17 - w7 ∨ m = (w17 - w7) + 1) with z | z; exact p2 m a z; subst z; exact q⟩))) (by omega) (by omega)  (t_ρ14) (by rw [show (((w7 - w7 : Int)).toNat : Nat) = 0 from by omega]; exact z_ρ14 (fun j => σ 9 l (w7 + j)))
      exact L40 123 (((σ 7 l 6) + 1)) ((-1)) (0) σ (by omega) (by omega) (by omega) (by first | exact ShP.zero rfl | (rcases i1_66 with ⟨p1, p2⟩ | ⟨p1, p2⟩; exact p1.next (fun m a b c => p2 m a (by omega)) (by omega); exact p2)) (by omega) (by omega)  ((fun _ _ _ _ => rfl)) (hI)
    · refine r_if_ne (tgt := 25) hC dX5_shortest_20 rfl (fun h26 => by omega) (fun h26 => ?_)
      refine r_iconst hC dX5_shortest_23 rfl ?_
      refine y_iret hK rfl dX5_shortest_24 ?_
      have hA : stA σ l w b u (-1) := by
        exact ⟨fun _ => rfl, fun q => by unfold shC2 lwC opV at q; omega⟩
      exact k _ _ hA (fun _ _ _ _ => rfl) hI
  · refine r_astoreN hC dX5_shortest_6 rfl ?_
    refine r_aloadN hC dX5_shortest_8 rfl ?_
    refine r_ifnullN (tgt := 23) hC dX5_shortest_10 rfl ?_
    refine r_iconst hC dX5_shortest_23 rfl ?_
    refine y_iret hK rfl dX5_shortest_24 ?_
    have hA : stA σ l w b u (-1) := by
      exact ⟨fun _ => rfl, fun q => by unfold shC2 lwC opV at q; omega⟩
    exact k _ _ hA (fun _ _ _ _ => rfl) hI
theorem x_shortest {eb : Bool} {d : Nat} {P : Option Vl → Mm → Prop} {σ : Mm} {l w b u : Int} (hG : GI σ) (k : ∀ r : Int, stA σ l w b u r → P (some (vI r)) σ) : WT (true, false, eb) (d + 5) 109 [vR 2 0, vI l, vI w, vI b, vI u] σ P := WT_fold fun ρ e hI => x_shortest_S hI (hG.fo e) (fun r ρ2 hA gq hI2 => ⟨hI2, σ, k r (by
    have hc : stA ρ l w b u r = stA σ l w b u r := by (delta stA ShB rchV ptV shC2 lwC opV; simp only [e 7 (by decide), e 8 (by decide), e 9 (by decide), e 15 (by decide), e 16 (by decide)])
    rw [← hc]
    exact hA), fun c x y hc => (gq c x y hc).trans (by rw [e c hc])⟩)
theorem wnS_cg {V W : Mm} (e : ∀ c : Nat, ¬ Fo c → W c = V c) (l w a b : Int) : ∀ n : Nat, wnS W l w a b n = wnS V l w a b n
  | 0 => rfl
  | n + 1 => by
    show wnS W l w a b n + wnR (fun k => ptV W l n (n + k + 1) w) a b (W 7 l 6 - n).toNat = wnS V l w a b n + wnR (fun k => ptV V l n (n + k + 1) w) a b (V 7 l 6 - n).toNat
    rw [wnS_cg e l w a b n]
    simp only [ptV, e 7 (by decide), e 9 (by decide), e 15 (by decide), e 16 (by decide)]
theorem x_windows_S {eb : Bool} {d : Nat} {P : Option Vl → Mm → Prop} {σ : Mm} {l w x y : Int}  (hI : InF σ) (hG : GI σ)  (k : ∀ ρ : Mm, (∀ (c : Nat) (x y : Int), ¬ Fo c → ρ c x y = σ c x y) → InF ρ → P (some (vI (wnQ σ l w x y))) ρ) : WT (true, true, eb) (d + 5) 110 [vR 2 0, vI l, vI w, vI x, vI y] σ P := by
  refine WT_in fun K hK => ?_
  have hK : StpY (true, true, eb) cX5_windows RX5 (some .int) (WT (true, true, eb) (d + 4)) P K := hK
  have hM := hK.1
  have hC := hK.1.1
  show K 0 [some (vR 2 0), some (vI l), some (vI w), some (vI x), some (vI y), none, none, none, none, none] [] σ
  refine z_ok hM (fun hok => ?_)
  refine r_rngz hC (fun g0 => ?_)
  have r_l : -2147483648 ≤ l ∧ l ≤ 2147483647 := inR_le (g0 (vI l) (by simp))
  have r_w : -2147483648 ≤ w ∧ w ≤ 2147483647 := inR_le (g0 (vI w) (by simp))
  have r_x : -2147483648 ≤ x ∧ x ≤ 2147483647 := inR_le (g0 (vI x) (by simp))
  have r_y : -2147483648 ≤ y ∧ y ≤ 2147483647 := inR_le (g0 (vI y) (by simp))
  have hcl := hG.2.1.2.2.2.2.2.2.2
  have hrow := hG.2.1.2.2.1
  refine r_aload_n hC dX5_windows_0 rfl ?_
  refine r_iload_n hC dX5_windows_1 rfl ?_
  refine r_iload_n hC dX5_windows_2 rfl ?_
  refine z_inv2 hM dX5_windows_3 vl_RX5_248 rfl rfl rfl (Nat.le_of_ble_eq_true rfl) (Nat.le_of_ble_eq_true rfl) ?_
  refine x_laneWith (fun hl_3 => ?_) (fun hl_3 => ?_)
  · have h6_3 := hG.1.h7 (l := l) (by omega) (by omega)
    have hN_3 := numF_rng (σ 7 l 2)
    have hO_3 := (hG.2.1.2.2.2.1 l (by omega) (by omega)).2
    refine r_astore hC dX5_windows_6 rfl ?_
    refine r_aload hC dX5_windows_8 rfl ?_
    refine r_ifnonnullR (tgt := 15) hC dX5_windows_10 rfl ?_
    refine r_iconst hC dX5_windows_15 rfl ?_
    refine r_istore hC dX5_windows_16 rfl ?_
    refine r_iconst hC dX5_windows_18 rfl ?_
    refine r_istore hC dX5_windows_19 rfl ?_
    have L21 : ∀ (n21 : Nat) (w1 w2 : Int) (ρ3 : Mm), 0 ≤ w1 ∧ w1 ≤ 14400 → 0 ≤ w2 ∧ w2 ≤ 121 → ((w1) = wnS σ l w x y ((w2)).toNat) → ((w2) ≤ σ 7 l 6) → 121 - w2 < (n21 : Int) → (∀ (c : Nat) (p q : Int), ¬ Fo c → ρ3 c p q = σ c p q) → (InF ρ3) → K 21 [some (vR 2 0), some (vI l), some (vI w), some (vI x), some (vI y), some (vR 7 l), some (vI w1), some (vI w2), none, none] [] ρ3 := by
      intro n21
      induction n21 with
      | zero => intro w1 w2 ρ3 f_w1 f_w2 i0_21 i1_21 hm  m0_21 m1_21; omega
      | succ n21 ih21 =>
        intro w1 w2 ρ3 f_w1 f_w2 i0_21 i1_21 hm21  m0_21 m1_21
        refine r_iload hC dX5_windows_21 rfl ?_
        refine r_aload hC dX5_windows_23 rfl ?_
        refine z_getI (jz := 6) hM dX5_windows_25 fl_RX5_154 rfl rfl rfl (fun v4 h_v4 o_v4 t_v4 => ?_)
        have w_v4 := ((t_v4 (Or.inl (by first | exact trivial | exact tb7_ (by decide) | simp [Tb]))).trans (m0_21 7 l 6 (by decide))).symm
        clear t_v4
        subst w_v4
        have q_v4 : 0 ≤ (σ 7 l 6) ∧ (σ 7 l 6) ≤ 121 := o_v4.1 rfl
        refine r_icmp_ge (tgt := 122) hC dX5_windows_28 rfl (fun h5 => ?_) (fun h5 => ?_)
        · refine r_iload hC dX5_windows_122 rfl ?_
          refine y_iret hK rfl dX5_windows_124 ?_
          have hR : wnQ σ l w x y = w1 := by
            unfold wnQ
            rw [if_pos (by unfold lwC opV; omega), show (σ 7 l 6).toNat = (w2).toNat from by omega]
            exact i0_21.symm
          rw [hR] at k
          exact k _ (m0_21) m1_21
        · refine r_aload_n hC dX5_windows_31 rfl ?_
          refine z_getR hM dX5_windows_32 fl_RX5_40 rfl rfl (vld_of (n := 1) rfl (by omega) (by omega)) ?_
          refine r_aload hC dX5_windows_35 rfl ?_
          refine z_getI (jz := 2) hM dX5_windows_37 fl_RX5_98 rfl rfl rfl (fun v6 h_v6 o_v6 t_v6 => ?_)
          have w_v6 := ((t_v6 (Or.inl (by first | exact trivial | exact tb7_ (by decide) | simp [Tb]))).trans (m0_21 7 l 2 (by decide))).symm
          clear t_v6
          subst w_v6
          have q_v6 : 0 ≤ (σ 7 l 2) ∧ (σ 7 l 2) ≤ 9 := o_v6.2.2 rfl
          refine z_inv1 hM dX5_windows_40 vl_RX5_251 rfl rfl rfl (Nat.le_of_ble_eq_true rfl) (Nat.le_of_ble_eq_true rfl) ?_
          refine x_begin (by omega) rfl rfl rfl rfl rfl rfl rfl rfl rfl rfl (fun ρ7 g_ρ7 z_ρ7 => ?_)
          have t_ρ7 : ∀ (c : Nat) (p q : Int), ¬ Fo c → ρ7 c p q = σ c p q := fun c p q hc => (g_ρ7 c p q (by omega)).trans (m0_21 c p q hc)
          refine r_iload hC dX5_windows_43 rfl ?_
          refine r_istore hC dX5_windows_45 rfl ?_
          have L47 : ∀ (n47 : Nat) (w8 w9 : Int) (ρ10 : Mm), 0 ≤ w8 ∧ w8 ≤ 121 → 0 ≤ w9 ∧ w9 ≤ 14520 → ((w2) ≤ (w8)) → ((w9) = wnS σ l w x y ((w2)).toNat + wnR (fun k => ptV σ l (w2) ((w2) + k + 1) w) x y ((w8) - (w2)).toNat) → ((w8) ≤ σ 7 l 6) → 121 - w8 < (n47 : Int) → (∀ (c : Nat) (p q : Int), ¬ Fo c → ρ10 c p q = σ c p q) → (FRc ρ10 (σ 7 l 2) (fun j => σ 9 l (w2 + j)) ((w8 - w2).toNat)) → K 47 [some (vR 2 0), some (vI l), some (vI w), some (vI x), some (vI y), some (vR 7 l), some (vI w9), some (vI w2), some (vI w8), none] [] ρ10 := by
            intro n47
            induction n47 with
            | zero => intro w8 w9 ρ10 f_w8 f_w9 i0_47 i1_47 i2_47 hm  m0_47 m1_47; omega
            | succ n47 ih47 =>
              intro w8 w9 ρ10 f_w8 f_w9 i0_47 i1_47 i2_47 hm47  m0_47 m1_47
              refine r_iload hC dX5_windows_47 rfl ?_
              refine r_aload hC dX5_windows_49 rfl ?_
              refine z_getI (jz := 6) hM dX5_windows_51 fl_RX5_154 rfl rfl rfl (fun v11 h_v11 o_v11 t_v11 => ?_)
              have w_v11 := ((t_v11 (Or.inl (by first | exact trivial | exact tb7_ (by decide) | simp [Tb]))).trans (m0_47 7 l 6 (by decide))).symm
              clear t_v11
              subst w_v11
              have q_v11 : 0 ≤ (σ 7 l 6) ∧ (σ 7 l 6) ≤ 121 := o_v11.1 rfl
              refine r_icmp_ge (tgt := 116) hC dX5_windows_54 rfl (fun h12 => ?_) (fun h12 => ?_)
              · have eS := wnS_I (V := σ) (l := l) (w := w) (a := x) (b := y) (i := w2) (by omega)
                rw [show (σ 7 l 6 - w2).toNat = (w8 - w2).toNat from by omega] at eS
                have bw := wnS_b (V := σ) (l := l) (w := w) (a := x) (b := y) h6_3.2 (w2).toNat
                have br := wnR_b (fun k => ptV σ l w2 (w2 + k + 1) w) x y (w8 - w2).toNat
                refine r_iincE hC ((w2 + 1)) dX5_windows_116 rfl rfl (by omega) (by unfold inR; omega) ?_
                refine r_goto (tgt := 21) hC dX5_windows_119 rfl ?_
                refine r_forget hC (ls2 := [some (vR 2 0), some (vI l), some (vI w), some (vI x), some (vI y), some (vR 7 l), some (vI w9), some (vI (w2 + 1)), none, none]) (lsub_some (lsub_some (lsub_some (lsub_some (lsub_some (lsub_some (lsub_some (lsub_some (lsub_none (lsub_none lsub_nil)))))))))) ?_
                exact ih21 (w9) ((w2 + 1)) ρ10 (by omega) (by omega) (by first | rfl | omega) (by omega) (by omega)  (m0_47) ((FRc.inF m1_47 (fun j h0 h1 => by rw [m0_47 15 0 j (by decide)]; exact hcl j h0 h1)))
              · refine r_aload_n hC dX5_windows_57 rfl ?_
                refine z_getR hM dX5_windows_58 fl_RX5_40 rfl rfl (vld_of (n := 1) rfl (by omega) (by omega)) ?_
                refine r_aload hC dX5_windows_61 rfl ?_
                refine z_getR hM dX5_windows_63 fl_RX5_176 rfl rfl (vld_of (n := 7) rfl (by omega) (by omega)) ?_
                refine r_iload hC dX5_windows_66 rfl ?_
                refine z_iald hM dX5_windows_68 rfl (by omega) (by omega) (fun v13 h_v13 o_v13 t_v13 => ?_)
                have w_v13 := ((t_v13 (Or.inl (by first | exact trivial | exact tb7_ (by decide) | simp [Tb]))).trans (m0_47 9 l w8 (by decide))).symm
                clear t_v13
                subst w_v13
                have q_v13 : -1000 ≤ (σ 9 l w8) ∧ (σ 9 l w8) ≤ 1000 := o_v13
                refine z_inv1 hM dX5_windows_69 vl_RX5_253 rfl rfl rfl (Nat.le_of_ble_eq_true rfl) (Nat.le_of_ble_eq_true rfl) ?_
                refine x_append2 (u := (fun j => σ 9 l (w2 + j))) (n := (w8 - w2).toNat) (show (σ 9 l w8) = σ 9 l (w2 + (((w8 - w2).toNat : Nat) : Int)) from congrArg (σ 9 l) (by omega)) (by omega) (by omega) (by omega) (fun j h0 h1 => (hrow l (w2 + j) (by omega) (by omega) (by omega) (by omega)).2) m1_47 (fun j h0 h1 => by rw [m0_47 15 0 j (by decide)]; exact hcl j h0 h1) (fun ρ14 g_ρ14 r_ρ14 => ?_)
                have t_ρ14 : ∀ (c : Nat) (p q : Int), ¬ Fo c → ρ14 c p q = σ c p q := fun c p q hc => (g_ρ14 c p q (by omega)).trans (m0_47 c p q hc)
                refine r_aload_n hC dX5_windows_72 rfl ?_
                refine z_getR hM dX5_windows_73 fl_RX5_40 rfl rfl (vld_of (n := 1) rfl (by omega) (by omega)) ?_
                refine r_iload_n hC dX5_windows_76 rfl ?_
                refine z_inv1 hM dX5_windows_77 vl_RX5_273 rfl rfl rfl (Nat.le_of_ble_eq_true rfl) (Nat.le_of_ble_eq_true rfl) ?_
                refine x_number (n := ((w8 - w2).toNat + 1)) (by omega) r_ρ14.1 r_ρ14.2.1 (by omega) r_ρ14 ?_
                rw [show ρ14 16 0 = σ 16 0 from funext fun y => t_ρ14 16 0 y (by decide), show ρ14 15 0 = σ 15 0 from funext fun y => t_ρ14 15 0 y (by decide)]
                have e2 : ptV σ l w2 (w2 + (w8 - w2) + 1) w = (cm (σ 16 0) (σ 15 0) (σ 7 l 2) (fun j => σ 9 l (w2 + j)) ((w8 - w2).toNat + 1) w) := by show cm _ _ _ _ (w2 + (w8 - w2) + 1 - w2).toNat w = _; rw [show (w2 + (w8 - w2) + 1 - w2).toNat = (w8 - w2).toNat + 1 from by omega]
                have e1 := wnR_I (f := (fun k => ptV σ l w2 (w2 + k + 1) w)) (a := x) (b := y) (i := w8 - w2) (by omega)
                rw [show (w8 - w2 + 1).toNat = (w8 + 1 - w2).toNat from by omega, e2] at e1
                unfold NO at e1
                have bw := wnS_b (l := l) (w := w) (a := x) (b := y) h6_3.2 (w2).toNat
                have br := wnR_b (fun k => ptV σ l w2 (w2 + k + 1) w) x y (w8 - w2).toNat
                refine r_istore hC dX5_windows_80 rfl ?_
                refine r_iload hC dX5_windows_82 rfl ?_
                refine r_iload hC dX5_windows_84 rfl ?_
                refine r_ldc hC dX5_windows_86 co_RX5_175 rfl ?_
                refine r_icmp_eq (tgt := 106) hC dX5_windows_88 rfl (fun h15 => ?_) (fun h15 => ?_)
                · refine r_iconst hC dX5_windows_106 rfl ?_
                  refine r_iaddE hC (w9) dX5_windows_107 (by omega) (by unfold inR; omega) ?_
                  refine r_istore hC dX5_windows_108 rfl ?_
                  refine r_iincE hC ((w8 + 1)) dX5_windows_110 rfl rfl (by omega) (by unfold inR; omega) ?_
                  refine r_goto (tgt := 47) hC dX5_windows_113 rfl ?_
                  refine r_forget hC (ls2 := [some (vR 2 0), some (vI l), some (vI w), some (vI x), some (vI y), some (vR 7 l), some (vI w9), some (vI w2), some (vI (w8 + 1)), none]) (lsub_some (lsub_some (lsub_some (lsub_some (lsub_some (lsub_some (lsub_some (lsub_some (lsub_some (lsub_none lsub_nil)))))))))) ?_
                  exact ih47 ((w8 + 1)) (w9) ρ14 (by omega) (by omega) (by omega) (by first | (rw [show (w2 - w2).toNat = 0 from by omega]; show _ = _ + (0 : Int); omega) | (rw [if_pos (by omega)] at e1; omega) | (rw [if_neg (by omega)] at e1; omega)) (by omega) (by omega)  (t_ρ14) (by rw [show ((((w8 + 1) - w2 : Int)).toNat : Nat) = ((w8 - w2).toNat + 1) from by omega]; exact r_ρ14)
                · refine r_iload hC dX5_windows_91 rfl ?_
                  refine r_iload_n hC dX5_windows_93 rfl ?_
                  refine r_iload hC dX5_windows_94 rfl ?_
                  refine z_ins3 hM dX5_windows_96 tl_RX5_59 rfl (Nat.le_of_ble_eq_true rfl) (Nat.le_of_ble_eq_true rfl) ?_
                  refine s_within (fun h17 => ?_) (fun h17 => ?_)
                  · refine r_if_eq (tgt := 106) hC dX5_windows_99 rfl (fun h18 => by omega) (fun h18 => ?_)
                    refine r_iconst hC dX5_windows_102 rfl ?_
                    refine r_goto (tgt := 107) hC dX5_windows_103 rfl ?_
                    refine r_iaddE hC ((w9 + 1)) dX5_windows_107 (by omega) (by unfold inR; omega) ?_
                    refine r_istore hC dX5_windows_108 rfl ?_
                    refine r_iincE hC ((w8 + 1)) dX5_windows_110 rfl rfl (by omega) (by unfold inR; omega) ?_
                    refine r_goto (tgt := 47) hC dX5_windows_113 rfl ?_
                    refine r_forget hC (ls2 := [some (vR 2 0), some (vI l), some (vI w), some (vI x), some (vI y), some (vR 7 l), some (vI (w9 + 1)), some (vI w2), some (vI (w8 + 1)), none]) (lsub_some (lsub_some (lsub_some (lsub_some (lsub_some (lsub_some (lsub_some (lsub_some (lsub_some (lsub_none lsub_nil)))))))))) ?_
                    exact ih47 ((w8 + 1)) ((w9 + 1)) ρ14 (by omega) (by omega) (by omega) (by first | (rw [show (w2 - w2).toNat = 0 from by omega]; show _ = _ + (0 : Int); omega) | (rw [if_pos (by omega)] at e1; omega) | (rw [if_neg (by omega)] at e1; omega)) (by omega) (by omega)  (t_ρ14) (by rw [show ((((w8 + 1) - w2 : Int)).toNat : Nat) = ((w8 - w2).toNat + 1) from by omega]; exact r_ρ14)
                  · refine r_if_eq (tgt := 106) hC dX5_windows_99 rfl (fun h19 => ?_) (fun h19 => by omega)
                    refine r_iconst hC dX5_windows_106 rfl ?_
                    refine r_iaddE hC (w9) dX5_windows_107 (by omega) (by unfold inR; omega) ?_
                    refine r_istore hC dX5_windows_108 rfl ?_
                    refine r_iincE hC ((w8 + 1)) dX5_windows_110 rfl rfl (by omega) (by unfold inR; omega) ?_
                    refine r_goto (tgt := 47) hC dX5_windows_113 rfl ?_
                    refine r_forget hC (ls2 := [some (vR 2 0), some (vI l), some (vI w), some (vI x), some (vI y), some (vR 7 l), some (vI w9), some (vI w2), some (vI (w8 + 1)), none]) (lsub_some (lsub_some (lsub_some (lsub_some (lsub_some (lsub_some (lsub_some (lsub_some (lsub_some (lsub_none lsub_nil)))))))))) ?_
                    exact ih47 ((w8 + 1)) (w9) ρ14 (by omega) (by omega) (by omega) (by first | (rw [show (w2 - w2).toNat = 0 from by omega]; show _ = _ + (0 : Int); omega) | (rw [if_pos (by omega)] at e1; omega) | (rw [if_neg (by omega)] at e1; omega)) (by omega) (by omega)  (t_ρ14) (by rw [show ((((w8 + 1) - w2 : Int)).toNat : Nat) = ((w8 - w2).toNat + 1) from by omega]; exact r_ρ14)
          exact L47 123 (w2) (w1) ρ7 (by omega) (by omega) (by omega) (by first | (rw [show (w2 - w2).toNat = 0 from by omega]; show _ = _ + (0 : Int); omega) | (rw [if_pos (by omega)] at e1; omega) | (rw [if_neg (by omega)] at e1; omega)) (by omega) (by omega)  (t_ρ7) (by rw [show (((w2 - w2 : Int)).toNat : Nat) = 0 from by omega]; exact z_ρ7 (fun j => σ 9 l (w2 + j)))
    exact L21 123 (0) (0) σ (by omega) (by omega) (by first | rfl | omega) (by omega) (by omega)  ((fun _ _ _ _ => rfl)) (hI)
  · refine r_astoreN hC dX5_windows_6 rfl ?_
    refine r_aloadN hC dX5_windows_8 rfl ?_
    refine r_ifnonnullN hC dX5_windows_10 ?_
    refine r_iconst hC dX5_windows_13 rfl ?_
    refine y_iret hK rfl dX5_windows_14 ?_
    have hR : wnQ σ l w x y = (-1) := by
      exact if_neg (by unfold lwC opV; omega)
    rw [hR] at k
    exact k _ (fun _ _ _ _ => rfl) hI
theorem x_windows {eb : Bool} {d : Nat} {P : Option Vl → Mm → Prop} {σ : Mm} {l w x y : Int} (hG : GI σ) (k : P (some (vI (wnQ σ l w x y))) σ) : WT (true, false, eb) (d + 5) 110 [vR 2 0, vI l, vI w, vI x, vI y] σ P := WT_fold fun ρ e hI => x_windows_S hI (hG.fo e) (fun ρ2 gq hI2 => ⟨hI2, σ, by
    have hc : wnQ ρ l w x y = wnQ σ l w x y := by (delta wnQ lwC opV; simp only [wnS_cg e, e 7 (by decide), e 8 (by decide), e 9 (by decide), e 15 (by decide), e 16 (by decide)])
    rw [hc]
    exact k, fun c x y hc => (gq c x y hc).trans (by rw [e c hc])⟩)
