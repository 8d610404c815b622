-- B: what is asked of folds: firsts, bests, rows that others make of a LANE's
def Fst (q : Int → Prop) (N r : Int) : Prop := (r = -1 ∧ ∀ n : Int, 1 ≤ n → n ≤ N → ¬ q n) ∨ ((1 ≤ r ∧ r ≤ N) ∧ q r ∧ ∀ n : Int, 1 ≤ n → n < r → ¬ q n)
theorem Fst.u {q : Int → Prop} {N r s : Int} (a : Fst q N r) (b : Fst q N s) : r = s := by
  rcases a with ⟨a1, a2⟩ | ⟨a1, a2, a3⟩
  · rcases b with ⟨b1, b2⟩ | ⟨b1, b2, b3⟩
    · omega
    · exact absurd b2 (a2 s b1.1 b1.2)
  · rcases b with ⟨b1, b2⟩ | ⟨b1, b2, b3⟩
    · exact absurd a2 (b2 r a1.1 a1.2)
    · by_cases h : r < s
      · exact absurd a2 (b3 r a1.1 h)
      · by_cases h2 : s < r
        · exact absurd b2 (a3 s b1.1 h2)
        · omega
/-- the first of the greatest of f 0 .. f N -/
def Best (f : Int → Int) (N r : Int) : Prop := (0 ≤ r ∧ r ≤ N) ∧ (∀ i : Int, 0 ≤ i → i < r → f i < f r) ∧ ∀ i : Int, r ≤ i → i ≤ N → f i ≤ f r
theorem Best.u {f : Int → Int} {N r s : Int} (a : Best f N r) (b : Best f N s) : r = s := by
  by_cases h : r < s
  · have := b.2.1 r a.1.1 h
    have := a.2.2 s (by omega) b.1.2
    omega
  · by_cases h2 : s < r
    · have := a.2.1 s b.1.1 h2
      have := b.2.2 r (by omega) a.1.2
      omega
    · omega
/-- among f 0 .. f (n - 1), seen one by one: the first of the greatest, and it -/
def bst2 (f : Int → Int) : Nat → Int × Int
  | 0 => (0, NO)
  | n + 1 => if (bst2 f n).2 < f n then ((n : Int), f n) else bst2 f n
theorem bst2_b (f : Int → Int) (hf : ∀ i : Int, 0 ≤ i → NO ≤ f i) : ∀ n : Nat, 1 ≤ n → Best f ((n : Int) - 1) (bst2 f n).1 ∧ (bst2 f n).2 = f (bst2 f n).1
  | 0, h => by omega
  | 1, _ => by
    have e : bst2 f 1 = if NO < f 0 then (0, f 0) else (0, NO) := rfl
    have h0 := hf 0 (by omega)
    rw [e]
    split
    · refine ⟨⟨⟨by show (0 : Int) ≤ 0; omega, by show (0 : Int) ≤ _; omega⟩, fun i a b => ?_, fun i a b => ?_⟩, rfl⟩
      · have b2 : i < 0 := b
        omega
      · obtain rfl : i = 0 := by have a2 : (0 : Int) ≤ i := a; omega
        exact Int.le_refl _
    · refine ⟨⟨⟨by show (0 : Int) ≤ 0; omega, by show (0 : Int) ≤ _; omega⟩, fun i a b => ?_, fun i a b => ?_⟩, ?_⟩
      · have b2 : i < 0 := b
        omega
      · obtain rfl : i = 0 := by have a2 : (0 : Int) ≤ i := a; omega
        exact Int.le_refl _
      · show NO = f 0
        omega
  | n + 2, _ => by
    obtain ⟨⟨i1, i2, i3⟩, i4⟩ := bst2_b f hf (n + 1) (by omega)
    have e : bst2 f (n + 2) = if (bst2 f (n + 1)).2 < f ((n + 1 : Nat) : Int) then (((n + 1 : Nat) : Int), f ((n + 1 : Nat) : Int)) else bst2 f (n + 1) := rfl
    rw [e]
    split
    · rename_i h
      refine ⟨⟨⟨by show (0 : Int) ≤ ((n + 1 : Nat) : Int); omega, by show ((n + 1 : Nat) : Int) ≤ _; omega⟩, fun i a b => ?_, fun i a b => ?_⟩, rfl⟩
      · have b2 : i < ((n + 1 : Nat) : Int) := b
        show f i < f ((n + 1 : Nat) : Int)
        by_cases q : i < (bst2 f (n + 1)).1
        · have := i2 i a q
          omega
        · have := i3 i (by omega) (by omega)
          omega
      · have a2 : ((n + 1 : Nat) : Int) ≤ i := a
        obtain rfl : i = ((n + 1 : Nat) : Int) := by omega
        exact Int.le_refl _
    · rename_i h
      refine ⟨⟨⟨i1.1, by omega⟩, i2, fun i a b => ?_⟩, i4⟩
      by_cases q : i = ((n + 1 : Nat) : Int)
      · subst q; omega
      · exact i3 i a (by omega)
abbrev rchV (V : Mm) (l f z w b : Int) : Prop := ptV V l f z w ≠ NO ∧ b ≤ ptV V l f z w
def reA (V : Mm) (l w b r : Int) : Prop := (¬ lwC V l w → r = -1) ∧ (lwC V l w → Fst (fun n => rchV V l 0 n w b) (V 7 l 6) r)
def rbA (V : Mm) (l w b r : Int) : Prop := (¬ lwC V l w → r = -1) ∧ (lwC V l w → Fst (fun n => rchV V l (V 7 l 6 - n) (V 7 l 6) w b) (V 7 l 6) r)
theorem iff_u {C : Prop} {Q : Int → Prop} {z r s : Int} (a : (¬ C → r = z) ∧ (C → Q r)) (b : (¬ C → s = z) ∧ (C → Q s)) (u : Q r → Q s → r = s) : r = s := by
  by_cases c : C
  · exact u (a.2 c) (b.2 c)
  · rw [a.1 c, b.1 c]
theorem reA.u {V : Mm} {l w b r s : Int} (h : reA V l w b r) (h2 : reA V l w b s) : r = s := iff_u h h2 Fst.u
theorem rbA.u {V : Mm} {l w b r s : Int} (h : rbA V l w b r) (h2 : rbA V l w b s) : r = s := iff_u h h2 Fst.u
abbrev pkC (V : Mm) (l m w : Int) : Prop := lwC V l w ∧ 1 ≤ m ∧ m ≤ V 7 l 6
def paA (V : Mm) (l m w r : Int) : Prop := (¬ pkC V l m w → r = -1) ∧ (pkC V l m w → Best (fun i => ptV V l i (i + m) w) (V 7 l 6 - m) r)
theorem paA.u {V : Mm} {l m w r s : Int} (h : paA V l m w r) (h2 : paA V l m w s) : r = s := iff_u h h2 Best.u
def pkA (V : Mm) (l m w r : Int) : Prop := ∃ a : Int, paA V l m w a ∧ r = if a = -1 then NO else ptV V l a (a + m) w
theorem pkA.u {V : Mm} {l m w r s : Int} (h : pkA V l m w r) (h2 : pkA V l m w s) : r = s := by
  obtain ⟨a, a1, a2⟩ := h
  obtain ⟨b, b1, b2⟩ := h2
  have := a1.u b1
  subst this
  rw [a2, b2]
def woU (V : Mm) (l x : Int) : Int → Int := fun j => if j < x then V 9 l j else V 9 l (j + 1)
def woV (V : Mm) (l x w : Int) : Int := cm (V 16 0) (V 15 0) (V 7 l 2) (woU V l x) (V 7 l 6 - 1).toNat w
def woR (V : Mm) (l x w : Int) : Int := if lwC V l w ∧ 0 ≤ x ∧ x < V 7 l 6 then woV V l x w else -2147483648
abbrev spC (V : Mm) (l w : Int) : Prop := lwC V l w ∧ 2 ≤ V 7 l 6
def spA (V : Mm) (l w r : Int) : Prop := (¬ spC V l w → r = -1) ∧ (spC V l w → Best (fun i => woV V l i w) (V 7 l 6 - 1) r)
theorem spA.u {V : Mm} {l w r s : Int} (h : spA V l w r) (h2 : spA V l w s) : r = s := iff_u h h2 Best.u
def tuU (V : Mm) (l : Int) : Int → Int := fun j => V 9 l (V 7 l 6 - 1 - j)
def tuR (V : Mm) (l w : Int) : Int := if lwC V l w then cm (V 16 0) (V 15 0) (V 7 l 2) (tuU V l) (V 7 l 6).toNat w else -2147483648
abbrev lkC2 (V : Mm) (l o w : Int) : Prop := lwC V l w ∧ opV V o ∧ V 7 l 2 = V 7 o 2
def jnU (V : Mm) (l o : Int) : Int → Int := fun j => if j < V 7 l 6 then V 9 l j else V 9 o (j - V 7 l 6)
def jnR (V : Mm) (l o w : Int) : Int := if lkC2 V l o w then cm (V 16 0) (V 15 0) (V 7 l 2) (jnU V l o) (V 7 l 6 + V 7 o 6).toNat w else -2147483648
/-- how many of the first are there among the first n of two woven -/
abbrev wvC (T S : Int → Int) (h g i k : Int) : Prop := g ≤ k ∨ (i < h ∧ T i ≤ S k)
def wvS (T S : Int → Int) (h g : Int) : Nat → Int
  | 0 => 0
  | n + 1 => if wvC T S h g (wvS T S h g n) ((n : Int) - wvS T S h g n) then wvS T S h g n + 1 else wvS T S h g n
abbrev wvI (V : Mm) (l o : Int) (n : Nat) : Int := wvS (V 8 l) (V 8 o) (V 7 l 6) (V 7 o 6) n
def wvU (V : Mm) (l o : Int) : Int → Int := fun j => if wvC (V 8 l) (V 8 o) (V 7 l 6) (V 7 o 6) (wvI V l o j.toNat) (j - wvI V l o j.toNat) then V 9 l (wvI V l o j.toNat) else V 9 o (j - wvI V l o j.toNat)
def wvR (V : Mm) (l o w : Int) : Int := if lkC2 V l o w then cm (V 16 0) (V 15 0) (V 7 l 2) (wvU V l o) (V 7 l 6 + V 7 o 6).toNat w else -2147483648
/-- two rows come to the same -/
def alk (V : Mm) (o : Int) (u v : Int → Int) (n m : Nat) : Prop := if n = 0 ∨ m = 0 then n = m else ∀ k : Int, 0 ≤ k → k < numF o → cmN (V 16 0) (V 15 0) o v m k = cmN (V 16 0) (V 15 0) o u n k
def YN (C Q : Prop) (r : Int) : Prop := (¬ C → r = -1) ∧ (C → (Q → r = 1) ∧ (¬ Q → r = 0))
theorem YN.u {C Q : Prop} {r s : Int} (a : YN C Q r) (b : YN C Q s) : r = s := by
  by_cases c : C
  · by_cases q : Q
    · rw [(a.2 c).1 q, (b.2 c).1 q]
    · rw [(a.2 c).2 q, (b.2 c).2 q]
  · rw [a.1 c, b.1 c]
abbrev saC (V : Mm) (l o : Int) : Prop := opV V l ∧ opV V o ∧ V 7 l 2 = V 7 o 2
def saA (V : Mm) (l o r : Int) : Prop := YN (saC V l o) (alk V (V 7 l 2) (V 9 l) (V 9 o) (V 7 l 6).toNat (V 7 o 6).toNat) r
def coU (V : Mm) (l x : Int) : Int → Int := fun j => V 9 l (if j = x then x + 1 else if j = x + 1 then x else j)
abbrev comC (V : Mm) (l x : Int) : Prop := opV V l ∧ 0 ≤ x ∧ x + 1 < V 7 l 6
def comA (V : Mm) (l x r : Int) : Prop := YN (comC V l x) (alk V (V 7 l 2) (V 9 l) (coU V l x) (V 7 l 6).toNat (V 7 l 6).toNat) r
/-- SESSIONS one by one: how many began, where session s began, how long it is -/
def sst (T : Int → Int) (g s : Int) : Nat → Int × Int × Int
  | 0 => (0, 0, 0)
  | n + 1 =>
    let q := sst T g s n
    let c := if n = 0 ∨ wr (T n - T (n - 1)) > g then q.1 + 1 else q.1
    (c, if c - 1 = s ∧ q.2.2 = 0 then (n : Int) else q.2.1, if c - 1 = s then q.2.2 + 1 else q.2.2)
abbrev seC (V : Mm) (l g s w : Int) : Prop := lwC V l w ∧ (0 ≤ g ∧ g ≤ 100000) ∧ 0 ≤ s
abbrev sstV (V : Mm) (l g s : Int) : Int × Int × Int := sst (V 8 l) g s (V 7 l 6).toNat
def seR (V : Mm) (l g s w : Int) : Int := if seC V l g s w then cm (V 16 0) (V 15 0) (V 7 l 2) (fun j => V 9 l ((sstV V l g s).2.1 + j)) (sstV V l g s).2.2.toNat w else -2147483648
/-- in how many windows that begin at one place the number lies between -/
def wnR (f : Int → Int) (a b : Int) : Nat → Int
  | 0 => 0
  | n + 1 => wnR f a b n + (if f n ≠ NO ∧ a ≤ f n ∧ f n ≤ b then 1 else 0)
def wnS (V : Mm) (l w a b : Int) : Nat → Int
  | 0 => 0
  | n + 1 => wnS V l w a b n + wnR (fun k => ptV V l n (n + k + 1) w) a b (V 7 l 6 - n).toNat
def wnQ (V : Mm) (l w a b : Int) : Int := if lwC V l w then wnS V l w a b (V 7 l 6).toNat else -1
/-- the fewest neighbours by which a bound is REACHED, and where they are first -/
def ShB (q : Int → Int → Prop) (h n i : Int) : Prop := (n = h + 1 ∧ i = -1 ∧ ∀ f m : Int, 0 ≤ f → 1 ≤ m → f + m ≤ h → ¬ q f m) ∨ ((1 ≤ n ∧ 0 ≤ i ∧ i + n ≤ h) ∧ q i n ∧ (∀ f m : Int, 0 ≤ f → 1 ≤ m → f + m ≤ h → m < n → ¬ q f m) ∧ ∀ f : Int, 0 ≤ f → f < i → ¬ q f n)
theorem ShB.u {q : Int → Int → Prop} {h n i m j : Int} (a : ShB q h n i) (b : ShB q h m j) : n = m ∧ i = j := by
  rcases a with ⟨a1, a2, a3⟩ | ⟨a1, a2, a3, a4⟩
  · rcases b with ⟨b1, b2, b3⟩ | ⟨b1, b2, b3, b4⟩
    · omega
    · exact absurd b2 (a3 j m b1.2.1 b1.1 b1.2.2)
  · rcases b with ⟨b1, b2, b3⟩ | ⟨b1, b2, b3, b4⟩
    · exact absurd a2 (b3 i n a1.2.1 a1.1 a1.2.2)
    · by_cases h1 : n < m
      · exact absurd a2 (b3 i n a1.2.1 a1.1 a1.2.2 h1)
      by_cases h2 : m < n
      · exact absurd b2 (a3 j m b1.2.1 b1.1 b1.2.2 h2)
      obtain rfl : n = m := by omega
      refine ⟨rfl, ?_⟩
      by_cases h3 : i < j
      · exact absurd a2 (b4 i a1.2.1 h3)
      by_cases h4 : j < i
      · exact absurd b2 (a4 j b1.2.1 h4)
      · omega
abbrev shC2 (V : Mm) (l w k : Int) : Prop := lwC V l w ∧ 0 ≤ k ∧ k ≤ 1
def stA (V : Mm) (l w b k r : Int) : Prop := (¬ shC2 V l w k → r = -1) ∧ (shC2 V l w k → ∃ n i : Int, ShB (fun f m => rchV V l f (f + m) w b) (V 7 l 6) n i ∧ r = if i = -1 then -1 else if k = 0 then n else i)
theorem stA.u {V : Mm} {l w b k r s : Int} (h : stA V l w b k r) (h2 : stA V l w b k s) : r = s := by
  by_cases c : shC2 V l w k
  · obtain ⟨n, i, p, q⟩ := h.2 c
    obtain ⟨m, j, p2, q2⟩ := h2.2 c
    obtain ⟨rfl, rfl⟩ := p.u p2
    rw [q, q2]
  · rw [h.1 c, h2.1 c]
-- PANES and SESSIONS counted
def pnN (T : Int → Int) (w : Int) : Nat → Int
  | 0 => 0
  | n + 1 => pnN T w n + (if n = 0 ∨ T n / w ≠ T (n - 1) / w then 1 else 0)
abbrev pnC (V : Mm) (l w : Int) : Prop := opV V l ∧ 1 ≤ w ∧ w ≤ 100000
def pnR (V : Mm) (l w : Int) : Int := if pnC V l w then pnN (V 8 l) w (V 7 l 6).toNat else -1
/-- how many in the newest PANE, the most, which -/
def flN (T : Int → Int) (w : Int) : Nat → Int × Int × Int
  | 0 => (0, 0, -1)
  | n + 1 =>
    let q := flN T w n
    let c := if n ≠ 0 ∧ T n / w = T (n - 1) / w then q.1 + 1 else 1
    (c, if c > q.2.1 then c else q.2.1, if c > q.2.1 then T n / w else q.2.2)
def flR (V : Mm) (l w : Int) : Int := if pnC V l w then (flN (V 8 l) w (V 7 l 6).toNat).2.2 else -1
def ssN (T : Int → Int) (g : Int) : Nat → Int
  | 0 => 0
  | n + 1 => ssN T g n + (if n = 0 ∨ wr (T n - T (n - 1)) > g then 1 else 0)
abbrev gaC (V : Mm) (l g : Int) : Prop := opV V l ∧ 0 ≤ g ∧ g ≤ 100000
def ssR (V : Mm) (l g : Int) : Int := if gaC V l g then ssN (V 8 l) g (V 7 l 6).toNat else -1
/-- how many SESSIONS began, how long the newest is, the most, which -/
def loN (T : Int → Int) (g : Int) : Nat → Int × Int × Int × Int
  | 0 => (0, 0, 0, -1)
  | n + 1 =>
    let q := loN T g n
    let c := if n = 0 ∨ wr (T n - T (n - 1)) > g then q.1 + 1 else q.1
    let m := if n = 0 ∨ wr (T n - T (n - 1)) > g then 1 else q.2.1 + 1
    (c, m, if m > q.2.2.1 then m else q.2.2.1, if m > q.2.2.1 then c - 1 else q.2.2.2)
def loR (V : Mm) (l g : Int) : Int := if gaC V l g then (loN (V 8 l) g (V 7 l 6).toNat).2.2.2 else -1
-- B: what is asked of folds: steps
theorem wvS_y {T S : Int → Int} {h g : Int} {n : Nat} (c : wvC T S h g (wvS T S h g n) ((n : Int) - wvS T S h g n)) : wvS T S h g (n + 1) = wvS T S h g n + 1 := if_pos c
theorem wvS_n {T S : Int → Int} {h g : Int} {n : Nat} (c : ¬ wvC T S h g (wvS T S h g n) ((n : Int) - wvS T S h g n)) : wvS T S h g (n + 1) = wvS T S h g n := if_neg c
theorem wvI_y {V : Mm} {l o i k : Int} (h0 : 0 ≤ i + k) (e : i = wvI V l o (i + k).toNat) (c : wvC (V 8 l) (V 8 o) (V 7 l 6) (V 7 o 6) i k) : i + 1 = wvI V l o (i + 1 + k).toNat := by
  unfold wvI at e ⊢
  rw [show (i + 1 + k).toNat = (i + k).toNat + 1 from by omega, wvS_y, ← e]
  rw [← e, show (((i + k).toNat : Nat) : Int) - i = k from by omega]
  exact c
theorem wvI_n {V : Mm} {l o i k : Int} (h0 : 0 ≤ i + k) (e : i = wvI V l o (i + k).toNat) (c : ¬ wvC (V 8 l) (V 8 o) (V 7 l 6) (V 7 o 6) i k) : i = wvI V l o (i + (k + 1)).toNat := by
  unfold wvI at e ⊢
  rw [show (i + (k + 1)).toNat = (i + k).toNat + 1 from by omega, wvS_n, ← e]
  rw [← e, show (((i + k).toNat : Nat) : Int) - i = k from by omega]
  exact c
theorem wvU_y {V : Mm} {l o i k : Int} {n : Nat} (hn : (n : Int) = i + k) (e : i = wvI V l o n) (c : wvC (V 8 l) (V 8 o) (V 7 l 6) (V 7 o 6) i k) : V 9 l i = wvU V l o (n : Int) := by
  unfold wvU
  rw [Int.toNat_natCast, ← e, show ((n : Nat) : Int) - i = k from by omega, if_pos c]
theorem wvU_n {V : Mm} {l o i k : Int} {n : Nat} (hn : (n : Int) = i + k) (e : i = wvI V l o n) (c : ¬ wvC (V 8 l) (V 8 o) (V 7 l 6) (V 7 o 6) i k) : V 9 o k = wvU V l o (n : Int) := by
  unfold wvU
  rw [Int.toNat_natCast, ← e, show ((n : Nat) : Int) - i = k from by omega, if_neg c]
theorem wvS_b (T S : Int → Int) {h g : Int} (h0 : 0 ≤ h) (g0 : 0 ≤ g) : ∀ n : Nat, (n : Int) ≤ h + g → (0 ≤ wvS T S h g n ∧ wvS T S h g n ≤ h) ∧ 0 ≤ (n : Int) - wvS T S h g n ∧ (n : Int) - wvS T S h g n ≤ g
  | 0, _ => by
    have e : wvS T S h g 0 = 0 := rfl
    rw [e]
    omega
  | n + 1, q => by
    have ih := wvS_b T S h0 g0 n (by omega)
    by_cases c : wvC T S h g (wvS T S h g n) ((n : Int) - wvS T S h g n)
    · rw [wvS_y c]
      unfold wvC at c
      omega
    · rw [wvS_n c]
      unfold wvC at c
      omega
theorem wvU_b {V : Mm} {l o : Int} (hl : 0 ≤ V 7 l 6 ∧ V 7 l 6 ≤ 120) (ho : 0 ≤ V 7 o 6 ∧ V 7 o 6 ≤ 120) (bl : ∀ y : Int, 0 ≤ y → y ≤ 120 → -1000 ≤ V 9 l y ∧ V 9 l y ≤ 1000) (bo : ∀ y : Int, 0 ≤ y → y ≤ 120 → -1000 ≤ V 9 o y ∧ V 9 o y ≤ 1000) {j : Int} (j0 : 0 ≤ j) (j1 : j ≤ V 7 l 6 + V 7 o 6) : -1000 ≤ wvU V l o j ∧ wvU V l o j ≤ 1000 := by
  have b := wvS_b (V 8 l) (V 8 o) hl.1 ho.1 j.toNat (by omega)
  unfold wvU
  split
  · exact bl _ b.1.1 (by unfold wvI; omega)
  · exact bo _ (by unfold wvI; omega) (by unfold wvI; omega)
-- SESSIONS
theorem sst_y {T : Int → Int} {g s i : Int} (h : 0 ≤ i) (c : i = 0 ∨ wr (T i - T (i - 1)) > g) : (sst T g s (i + 1).toNat).1 = (sst T g s i.toNat).1 + 1 ∧ ((sst T g s i.toNat).1 = s → (sst T g s i.toNat).2.2 = 0 → (sst T g s (i + 1).toNat).2.1 = i) ∧ (¬ ((sst T g s i.toNat).1 = s ∧ (sst T g s i.toNat).2.2 = 0) → (sst T g s (i + 1).toNat).2.1 = (sst T g s i.toNat).2.1) ∧ ((sst T g s i.toNat).1 = s → (sst T g s (i + 1).toNat).2.2 = (sst T g s i.toNat).2.2 + 1) ∧ ((sst T g s i.toNat).1 ≠ s → (sst T g s (i + 1).toNat).2.2 = (sst T g s i.toNat).2.2) := by
  obtain ⟨n, rfl⟩ := Int.eq_ofNat_of_zero_le h
  have e : ((n : Int) + 1).toNat = n + 1 := by omega
  rw [e, Int.toNat_natCast]
  have c2 : n = 0 ∨ wr (T n - T (n - 1)) > g := by rcases c with q | q; exact Or.inl (by omega); exact Or.inr q
  have d : sst T g s (n + 1) = ((sst T g s n).1 + 1, if (sst T g s n).1 + 1 - 1 = s ∧ (sst T g s n).2.2 = 0 then (n : Int) else (sst T g s n).2.1, if (sst T g s n).1 + 1 - 1 = s then (sst T g s n).2.2 + 1 else (sst T g s n).2.2) := by
    show ((if n = 0 ∨ wr (T n - T (n - 1)) > g then (sst T g s n).1 + 1 else (sst T g s n).1), _, _) = _
    simp only [if_pos c2]
  rw [d, show (sst T g s n).1 + 1 - 1 = (sst T g s n).1 from by omega]
  exact ⟨rfl, fun a b => if_pos ⟨a, b⟩, fun q => if_neg q, fun a => if_pos a, fun a => if_neg a⟩
theorem sst_n {T : Int → Int} {g s i : Int} (h : 0 ≤ i) (c : ¬ (i = 0 ∨ wr (T i - T (i - 1)) > g)) : (sst T g s (i + 1).toNat).1 = (sst T g s i.toNat).1 ∧ ((sst T g s i.toNat).1 - 1 = s → (sst T g s i.toNat).2.2 = 0 → (sst T g s (i + 1).toNat).2.1 = i) ∧ (¬ ((sst T g s i.toNat).1 - 1 = s ∧ (sst T g s i.toNat).2.2 = 0) → (sst T g s (i + 1).toNat).2.1 = (sst T g s i.toNat).2.1) ∧ ((sst T g s i.toNat).1 - 1 = s → (sst T g s (i + 1).toNat).2.2 = (sst T g s i.toNat).2.2 + 1) ∧ ((sst T g s i.toNat).1 - 1 ≠ s → (sst T g s (i + 1).toNat).2.2 = (sst T g s i.toNat).2.2) := by
  obtain ⟨n, rfl⟩ := Int.eq_ofNat_of_zero_le h
  have e : ((n : Int) + 1).toNat = n + 1 := by omega
  rw [e, Int.toNat_natCast]
  have c2 : ¬ (n = 0 ∨ wr (T n - T (n - 1)) > g) := fun q => c (by rcases q with q | q; exact Or.inl (by omega); exact Or.inr q)
  have d : sst T g s (n + 1) = ((sst T g s n).1, if (sst T g s n).1 - 1 = s ∧ (sst T g s n).2.2 = 0 then (n : Int) else (sst T g s n).2.1, if (sst T g s n).1 - 1 = s then (sst T g s n).2.2 + 1 else (sst T g s n).2.2) := by
    show ((if n = 0 ∨ wr (T n - T (n - 1)) > g then (sst T g s n).1 + 1 else (sst T g s n).1), _, _) = _
    simp only [if_neg c2]
  rw [d]
  exact ⟨rfl, fun a b => if_pos ⟨a, b⟩, fun q => if_neg q, fun a => if_pos a, fun a => if_neg a⟩
/-- what always holds of SESSIONS seen one by one -/
theorem sst_b {T : Int → Int} {g s : Int} (hs : 0 ≤ s) : ∀ n : Nat, (0 ≤ (sst T g s n).1 ∧ (sst T g s n).1 ≤ n) ∧ 0 ≤ (sst T g s n).2.1 ∧ 0 ≤ (sst T g s n).2.2 ∧ (sst T g s n).2.1 + (sst T g s n).2.2 ≤ n ∧ ((sst T g s n).1 - 1 < s → (sst T g s n).2.2 = 0) ∧ ((sst T g s n).1 - 1 = s → 1 ≤ (sst T g s n).2.2 ∧ (sst T g s n).2.1 + (sst T g s n).2.2 = n) ∧ (n ≠ 0 → 1 ≤ (sst T g s n).1)
  | 0 => by
    have e : sst T g s 0 = (0, 0, 0) := rfl
    rw [e]
    dsimp only
    omega
  | n + 1 => by
    have ih := sst_b (T := T) (g := g) hs n
    by_cases c : (n : Int) = 0 ∨ wr (T n - T (n - 1)) > g
    · have q := sst_y (s := s) (show (0 : Int) ≤ n by omega) c
      rw [show ((n : Int) + 1).toNat = n + 1 from by omega, Int.toNat_natCast] at q
      omega
    · have q := sst_n (s := s) (show (0 : Int) ≤ n by omega) c
      rw [show ((n : Int) + 1).toNat = n + 1 from by omega, Int.toNat_natCast] at q
      omega
-- the fewest neighbours, seen from one event on after another
def ShP (q : Int → Int → Prop) (h f n i : Int) : Prop := (n = h + 1 ∧ i = -1 ∧ ∀ a m : Int, 0 ≤ a → a < f → 1 ≤ m → a + m ≤ h → ¬ q a m) ∨ ((1 ≤ n ∧ 0 ≤ i ∧ i < f ∧ i + n ≤ h) ∧ q i n ∧ (∀ a m : Int, 0 ≤ a → a < f → 1 ≤ m → a + m ≤ h → m < n → ¬ q a m) ∧ ∀ a : Int, 0 ≤ a → a < i → ¬ q a n)
theorem ShP.zero {q : Int → Int → Prop} {h n : Int} (e : n = h + 1) : ShP q h 0 n (-1) := Or.inl ⟨e, rfl, fun a m a0 a1 => by omega⟩
theorem ShP.next {q : Int → Int → Prop} {h f n i : Int} (p : ShP q h f n i) (e : ∀ m : Int, 1 ≤ m → m < n → f + m ≤ h → ¬ q f m) (hf : 0 ≤ f) : ShP q h (f + 1) n i := by
  rcases p with ⟨p1, p2, p3⟩ | ⟨p1, p2, p3, p4⟩
  · refine Or.inl ⟨p1, p2, fun a m a0 a1 m1 am => ?_⟩
    by_cases z : a = f
    · subst z; exact e m m1 (by omega) am
    · exact p3 a m a0 (by omega) m1 am
  · refine Or.inr ⟨by omega, p2, fun a m a0 a1 m1 am mn => ?_, p4⟩
    by_cases z : a = f
    · subst z; exact e m m1 mn am
    · exact p3 a m a0 (by omega) m1 am mn
theorem ShP.hit {q : Int → Int → Prop} {h f n i m : Int} (p : ShP q h f n i) (hm : 1 ≤ m) (hn : m < n) (hh : f + m ≤ h) (hf : 0 ≤ f) (hq : q f m) (e : ∀ k : Int, 1 ≤ k → k < m → ¬ q f k) : ShP q h (f + 1) m f := by
  have old : ∀ a k : Int, 0 ≤ a → a < f → 1 ≤ k → a + k ≤ h → k < n → ¬ q a k := fun a k a0 a1 k1 ak kn => by
    rcases p with ⟨p1, p2, p3⟩ | ⟨p1, p2, p3, p4⟩
    · exact p3 a k a0 a1 k1 ak
    · exact p3 a k a0 a1 k1 ak kn
  refine Or.inr ⟨by omega, hq, fun a k a0 a1 k1 ak km => ?_, fun a a0 a1 => old a m a0 a1 hm (by omega) hn⟩
  by_cases z : a = f
  · subst z; exact e k k1 km
  · exact old a k a0 (by omega) k1 ak (by omega)
theorem ShP.done {q : Int → Int → Prop} {h f n i : Int} (p : ShP q h f n i) (hf : f = h) : ShB q h n i := by
  rcases p with ⟨p1, p2, p3⟩ | ⟨p1, p2, p3, p4⟩
  · exact Or.inl ⟨p1, p2, fun a m a0 m1 am => p3 a m a0 (by omega) m1 am⟩
  · exact Or.inr ⟨by omega, p2, fun a m a0 m1 am mn => p3 a m a0 (by omega) m1 am mn, p4⟩
theorem ShP.b {q : Int → Int → Prop} {h f n i : Int} (p : ShP q h f n i) (h0 : 0 ≤ h) : 1 ≤ n ∧ n ≤ h + 1 ∧ -1 ≤ i ∧ i ≤ h := by
  rcases p with ⟨p1, p2, p3⟩ | ⟨p1, p2, p3, p4⟩ <;> omega
-- windows
theorem wnR_I {f : Int → Int} {a b i : Int} (h : 0 ≤ i) : wnR f a b (i + 1).toNat = wnR f a b i.toNat + (if f i ≠ NO ∧ a ≤ f i ∧ f i ≤ b then 1 else 0) := by
  obtain ⟨n, rfl⟩ := Int.eq_ofNat_of_zero_le h
  rw [show ((n : Int) + 1).toNat = n + 1 from by omega, Int.toNat_natCast]
  rfl
theorem wnS_I {V : Mm} {l w a b i : Int} (h : 0 ≤ i) : wnS V l w a b (i + 1).toNat = wnS V l w a b i.toNat + wnR (fun k => ptV V l i (i + k + 1) w) a b (V 7 l 6 - i).toNat := by
  obtain ⟨n, rfl⟩ := Int.eq_ofNat_of_zero_le h
  rw [show ((n : Int) + 1).toNat = n + 1 from by omega, Int.toNat_natCast]
  rfl
theorem wnR_b (f : Int → Int) (a b : Int) : ∀ n : Nat, 0 ≤ wnR f a b n ∧ wnR f a b n ≤ n
  | 0 => ⟨Int.le_refl _, Int.le_refl _⟩
  | n + 1 => by
    have ih := wnR_b f a b n
    have e : wnR f a b (n + 1) = wnR f a b n + (if f n ≠ NO ∧ a ≤ f n ∧ f n ≤ b then 1 else 0) := rfl
    rw [e]
    split <;> omega
theorem wnS_b {V : Mm} {l w a b : Int} (h : V 7 l 6 ≤ 120) : ∀ n : Nat, 0 ≤ wnS V l w a b n ∧ wnS V l w a b n ≤ 120 * n
  | 0 => ⟨Int.le_refl _, Int.le_refl _⟩
  | n + 1 => by
    have ih := wnS_b (w := w) (a := a) (b := b) h n
    have e : wnS V l w a b (n + 1) = wnS V l w a b n + wnR (fun k => ptV V l n (n + k + 1) w) a b (V 7 l 6 - n).toNat := rfl
    have q := wnR_b (fun k => ptV V l n (n + k + 1) w) a b (V 7 l 6 - n).toNat
    rw [e]
    omega
-- numbers noted
def NT (σ : Mm) (o : Int) (u : Int → Int) (n : Nat) : Prop := σ 14 0 4 = (n : Int) ∧ ∀ k : Int, 0 ≤ k → k < numF o → σ 18 0 k = cmN (σ 16 0) (σ 15 0) o u n k
theorem NT.e {σ ρ : Mm} {o : Int} {u : Int → Int} {n : Nat} (h : NT σ o u n) (h14 : ρ 14 0 4 = σ 14 0 4) (h18 : ∀ k : Int, ρ 18 0 k = σ 18 0 k) (h16 : ρ 16 0 = σ 16 0) (h15 : ρ 15 0 = σ 15 0) : NT ρ o u n := ⟨h14.trans h.1, fun k a b => by rw [h18, h16, h15]; exact h.2 k a b⟩
-- counting
theorem idiv_fr {a b : Int} (ha : 0 ≤ a) (hb : 0 < b) : 0 ≤ a / b ∧ a / b ≤ a := ⟨Int.ediv_nonneg ha (by omega), Int.ediv_le_self b ha⟩
theorem pnN_I {T : Int → Int} {w i : Int} (h : 0 ≤ i) : pnN T w (i + 1).toNat = pnN T w i.toNat + (if i = 0 ∨ T i / w ≠ T (i - 1) / w then 1 else 0) := by
  obtain ⟨n, rfl⟩ := Int.eq_ofNat_of_zero_le h
  rw [show ((n : Int) + 1).toNat = n + 1 from by omega, Int.toNat_natCast]
  show pnN T w n + (if n = 0 ∨ T n / w ≠ T (n - 1) / w then 1 else 0) = _
  by_cases z : n = 0
  · rw [if_pos (Or.inl z), if_pos (Or.inl (by omega))]
  · by_cases q : T n / w ≠ T (n - 1) / w
    · rw [if_pos (Or.inr q), if_pos (Or.inr q)]
    · rw [if_neg (by rintro (a | a); exact z a; exact q a), if_neg (by rintro (a | a); omega; exact q a)]
theorem ssN_I {T : Int → Int} {g i : Int} (h : 0 ≤ i) : ssN T g (i + 1).toNat = ssN T g i.toNat + (if i = 0 ∨ wr (T i - T (i - 1)) > g then 1 else 0) := by
  obtain ⟨n, rfl⟩ := Int.eq_ofNat_of_zero_le h
  rw [show ((n : Int) + 1).toNat = n + 1 from by omega, Int.toNat_natCast]
  show ssN T g n + (if n = 0 ∨ wr (T n - T (n - 1)) > g then 1 else 0) = _
  by_cases z : n = 0
  · rw [if_pos (Or.inl z), if_pos (Or.inl (by omega))]
  · by_cases q : wr (T n - T (n - 1)) > g
    · rw [if_pos (Or.inr q), if_pos (Or.inr q)]
    · rw [if_neg (by rintro (a | a); exact z a; exact q a), if_neg (by rintro (a | a); omega; exact q a)]
theorem flN_I {T : Int → Int} {w i : Int} (h : 0 ≤ i) : flN T w (i + 1).toNat = (let q := flN T w i.toNat; let c := if i ≠ 0 ∧ T i / w = T (i - 1) / w then q.1 + 1 else 1; (c, if c > q.2.1 then c else q.2.1, if c > q.2.1 then T i / w else q.2.2)) := by
  obtain ⟨n, rfl⟩ := Int.eq_ofNat_of_zero_le h
  rw [show ((n : Int) + 1).toNat = n + 1 from by omega, Int.toNat_natCast]
  have e : (if n ≠ 0 ∧ T n / w = T (n - 1) / w then (flN T w n).1 + 1 else 1) = (if (n : Int) ≠ 0 ∧ T n / w = T (n - 1) / w then (flN T w n).1 + 1 else 1) := by
    by_cases q : n ≠ 0 ∧ T n / w = T (n - 1) / w
    · rw [if_pos q, if_pos ⟨by omega, q.2⟩]
    · rw [if_neg q, if_neg (fun z => q ⟨by omega, z.2⟩)]
  show ((if n ≠ 0 ∧ T n / w = T (n - 1) / w then (flN T w n).1 + 1 else 1), _, _) = _
  simp only [e]
theorem loN_I {T : Int → Int} {g i : Int} (h : 0 ≤ i) : loN T g (i + 1).toNat = (let q := loN T g i.toNat; let c := if i = 0 ∨ wr (T i - T (i - 1)) > g then q.1 + 1 else q.1; let m := if i = 0 ∨ wr (T i - T (i - 1)) > g then 1 else q.2.1 + 1; (c, m, if m > q.2.2.1 then m else q.2.2.1, if m > q.2.2.1 then c - 1 else q.2.2.2)) := by
  obtain ⟨n, rfl⟩ := Int.eq_ofNat_of_zero_le h
  rw [show ((n : Int) + 1).toNat = n + 1 from by omega, Int.toNat_natCast]
  have e : (if n = 0 ∨ wr (T n - T (n - 1)) > g then (loN T g n).1 + 1 else (loN T g n).1) = (if (n : Int) = 0 ∨ wr (T n - T (n - 1)) > g then (loN T g n).1 + 1 else (loN T g n).1) := by
    by_cases q : n = 0 ∨ wr (T n - T (n - 1)) > g
    · rw [if_pos q, if_pos (by rcases q with q | q; exact Or.inl (by omega); exact Or.inr q)]
    · rw [if_neg q, if_neg (by rintro (z | z); exact q (Or.inl (by omega)); exact q (Or.inr z))]
  have e2 : (if n = 0 ∨ wr (T n - T (n - 1)) > g then 1 else (loN T g n).2.1 + 1) = (if (n : Int) = 0 ∨ wr (T n - T (n - 1)) > g then 1 else (loN T g n).2.1 + 1) := by
    by_cases q : n = 0 ∨ wr (T n - T (n - 1)) > g
    · rw [if_pos q, if_pos (by rcases q with q | q; exact Or.inl (by omega); exact Or.inr q)]
    · rw [if_neg q, if_neg (by rintro (z | z); exact q (Or.inl (by omega)); exact q (Or.inr z))]
  show ((if n = 0 ∨ wr (T n - T (n - 1)) > g then (loN T g n).1 + 1 else (loN T g n).1), (if n = 0 ∨ wr (T n - T (n - 1)) > g then 1 else (loN T g n).2.1 + 1), _, _) = _
  simp only [e, e2]
-- B: what is asked: bests, and rows of like ones gone over at once
def BestP (f : Int → Int) (n a b : Int) : Prop := (0 ≤ a ∧ a < n) ∧ b = f a ∧ (∀ i : Int, 0 ≤ i → i < a → f i < f a) ∧ ∀ i : Int, a ≤ i → i < n → f i ≤ f a
theorem BestP.one {f : Int → Int} {b : Int} (h : b = f 0) : BestP f 1 0 b := ⟨by omega, h, fun i a c => by omega, fun i a c => by have e : i = 0 := (by omega); subst e; exact Int.le_refl _⟩
theorem BestP.no {f : Int → Int} {n a b : Int} (p : BestP f n a b) (h : f n ≤ b) : BestP f (n + 1) a b := by
  obtain ⟨p1, p2, p3, p4⟩ := p
  refine ⟨by omega, p2, p3, fun i c d => ?_⟩
  by_cases e : i = n
  · subst e; omega
  · exact p4 i c (by omega)
theorem BestP.yes {f : Int → Int} {n a b : Int} (p : BestP f n a b) (h : b < f n) : BestP f (n + 1) n (f n) := by
  obtain ⟨p1, p2, p3, p4⟩ := p
  refine ⟨by omega, rfl, fun i c d => ?_, fun i c d => by have e : i = n := (by omega); subst e; exact Int.le_refl _⟩
  by_cases e : i < a
  · have := p3 i c e
    omega
  · have := p4 i (by omega) d
    omega
theorem BestP.done {f : Int → Int} {n a b N : Int} (p : BestP f n a b) (h : n = N + 1) : Best f N a := ⟨⟨p.1.1, by have := p.1.2; omega⟩, p.2.2.1, fun i c d => p.2.2.2 i c (by omega)⟩
/-- as the class sees it: nothing yet, or a best one -/
def BestQ (f : Int → Int) (n a b : Int) : Prop := (n = 0 ∧ a = 0 ∧ b = NO) ∨ BestP f n a b
theorem BestQ.no {f : Int → Int} {n a b : Int} (p : BestQ f n a b) (h : f n ≤ b) (hr : NO ≤ f n) : BestQ f (n + 1) a b := by
  rcases p with ⟨rfl, rfl, rfl⟩ | p
  · exact Or.inr (BestP.one (by omega))
  · exact Or.inr (p.no h)
theorem BestQ.yes {f : Int → Int} {n a b : Int} (p : BestQ f n a b) (h : b < f n) : BestQ f (n + 1) n (f n) := by
  rcases p with ⟨rfl, rfl, rfl⟩ | p
  · exact Or.inr (BestP.one rfl)
  · exact Or.inr (p.yes h)
theorem BestQ.done {f : Int → Int} {n a b N : Int} (p : BestQ f n a b) (h : n = N + 1) (hN : 0 ≤ N) : Best f N a := by
  rcases p with p | p
  · omega
  · exact p.done h
-- PANES
abbrev pnB (T : Int → Int) (w i : Int) : Prop := i = 0 ∨ T i / w ≠ T (i - 1) / w
def paneR (T : Int → Int) (w h i r : Int) : Prop := (1 ≤ r ∧ i + r ≤ h) ∧ (∀ j : Int, i ≤ j → j < i + r → T j / w = T i / w) ∧ (i + r < h → T (i + r) / w ≠ T i / w)
theorem paneR.next {T : Int → Int} {w h i r : Int} (p : paneR T w h i r) (q : i + r < h) : pnB T w (i + r) := Or.inr (by
  rw [p.2.1 (i + r - 1) (by have := p.1.1; omega) (by omega)]
  exact p.2.2 q)
theorem pn_run {T : Int → Int} {w h i : Int} (h0 : 0 ≤ i) (b : pnB T w i) {r : Int} (p : paneR T w h i r) : pnN T w (i + r).toNat = pnN T w i.toNat + 1 := by
  have key : ∀ c : Nat, (c : Int) + 1 ≤ r → pnN T w (i + (c + 1)).toNat = pnN T w i.toNat + 1 := fun c => by
    induction c with
    | zero =>
      intro _
      rw [show i + (((0 : Nat) : Int) + 1) = i + 1 from by omega, pnN_I h0, if_pos b]
    | succ c ih =>
      intro q
      rw [show i + (((c + 1 : Nat) : Int) + 1) = (i + (c + 1)) + 1 from by omega, pnN_I (by omega), ih (by omega)]
      have a1 := p.2.1 (i + (c + 1)) (by omega) (by omega)
      have a2 := p.2.1 (i + (c + 1) - 1) (by omega) (by omega)
      rw [if_neg (by rintro (z | z); omega; exact z (a1.trans a2.symm))]
      omega
  have := key (r - 1).toNat (by have := p.1.1; omega)
  rw [show i + (((r - 1).toNat : Int) + 1) = i + r from by have := p.1.1; omega] at this
  exact this
theorem fl_run {T : Int → Int} {w h i : Int} (h0 : 0 ≤ i) (b : pnB T w i) {r : Int} (p : paneR T w h i r) (hm : 0 ≤ (flN T w i.toNat).2.1) : flN T w (i + r).toNat = (r, if r > (flN T w i.toNat).2.1 then r else (flN T w i.toNat).2.1, if r > (flN T w i.toNat).2.1 then T i / w else (flN T w i.toNat).2.2) := by
  have key : ∀ c : Nat, (c : Int) + 1 ≤ r → flN T w (i + (c + 1)).toNat = ((c : Int) + 1, if (c : Int) + 1 > (flN T w i.toNat).2.1 then (c : Int) + 1 else (flN T w i.toNat).2.1, if (c : Int) + 1 > (flN T w i.toNat).2.1 then T i / w else (flN T w i.toNat).2.2) := fun c => by
    induction c with
    | zero =>
      intro _
      rw [show i + (((0 : Nat) : Int) + 1) = i + 1 from by omega, flN_I h0]
      have nb : ¬ (i ≠ 0 ∧ T i / w = T (i - 1) / w) := fun z => by rcases b with q | q; exact z.1 q; exact q z.2
      simp only [if_neg nb]
      rfl
    | succ c ih =>
      intro q
      rw [show i + (((c + 1 : Nat) : Int) + 1) = (i + (c + 1)) + 1 from by omega, flN_I (by omega), ih (by omega)]
      have a1 := p.2.1 (i + (c + 1)) (by omega) (by omega)
      have a2 := p.2.1 (i + (c + 1) - 1) (by omega) (by omega)
      have yb : i + (↑c + 1) ≠ 0 ∧ T (i + (c + 1)) / w = T (i + (c + 1) - 1) / w := ⟨by omega, a1.trans a2.symm⟩
      dsimp only
      simp only [if_pos yb]
      simp only [a1, show ((c + 1 : Nat) : Int) = (c : Int) + 1 from by omega]
      by_cases z : (c : Int) + 1 > (flN T w i.toNat).2.1
      · simp only [if_pos z, if_pos (show (c : Int) + 1 + 1 > (flN T w i.toNat).2.1 by omega), if_pos (show (c : Int) + 1 + 1 > (c : Int) + 1 by omega)]
      · simp only [if_neg z]
  have := key (r - 1).toNat (by have := p.1.1; omega)
  rw [show i + (((r - 1).toNat : Int) + 1) = i + r from by have := p.1.1; omega, show (((r - 1).toNat : Int) + 1) = r from by have := p.1.1; omega] at this
  exact this
theorem flN_b {T : Int → Int} {w : Int} : ∀ n : Nat, (0 ≤ (flN T w n).1 ∧ (flN T w n).1 ≤ n) ∧ 0 ≤ (flN T w n).2.1 ∧ (flN T w n).2.1 ≤ n
  | 0 => by
    have e : flN T w 0 = (0, 0, -1) := rfl
    rw [e]
    dsimp only
    omega
  | n + 1 => by
    have ih := flN_b (T := T) (w := w) n
    have e := flN_I (T := T) (w := w) (show (0 : Int) ≤ n by omega)
    rw [show ((n : Int) + 1).toNat = n + 1 from by omega, Int.toNat_natCast] at e
    rw [e]
    dsimp only
    (repeat' split) <;> omega
-- SESSIONS
abbrev ssB (T : Int → Int) (g i : Int) : Prop := i = 0 ∨ wr (T i - T (i - 1)) > g
def sesR (T : Int → Int) (g h i r : Int) : Prop := (1 ≤ r ∧ i + r ≤ h) ∧ (∀ j : Int, i < j → j < i + r → ¬ wr (T j - T (j - 1)) > g) ∧ (i + r < h → wr (T (i + r) - T (i + r - 1)) > g)
theorem sesR.next {T : Int → Int} {g h i r : Int} (p : sesR T g h i r) (q : i + r < h) : ssB T g (i + r) := Or.inr (p.2.2 q)
theorem ss_run {T : Int → Int} {g h i : Int} (h0 : 0 ≤ i) (b : ssB T g i) {r : Int} (p : sesR T g h i r) : ssN T g (i + r).toNat = ssN T g i.toNat + 1 := by
  have key : ∀ c : Nat, (c : Int) + 1 ≤ r → ssN T g (i + (c + 1)).toNat = ssN T g i.toNat + 1 := fun c => by
    induction c with
    | zero =>
      intro _
      rw [show i + (((0 : Nat) : Int) + 1) = i + 1 from by omega, ssN_I h0, if_pos b]
    | succ c ih =>
      intro q
      rw [show i + (((c + 1 : Nat) : Int) + 1) = (i + (c + 1)) + 1 from by omega, ssN_I (by omega), ih (by omega)]
      have a1 := p.2.1 (i + (c + 1)) (by omega) (by omega)
      rw [if_neg (by rintro (z | z); omega; exact a1 z)]
      omega
  have := key (r - 1).toNat (by have := p.1.1; omega)
  rw [show i + (((r - 1).toNat : Int) + 1) = i + r from by have := p.1.1; omega] at this
  exact this
theorem lo_run {T : Int → Int} {g h i : Int} (h0 : 0 ≤ i) (b : ssB T g i) {r : Int} (p : sesR T g h i r) (hm : 0 ≤ (loN T g i.toNat).2.2.1) : loN T g (i + r).toNat = ((loN T g i.toNat).1 + 1, r, if r > (loN T g i.toNat).2.2.1 then r else (loN T g i.toNat).2.2.1, if r > (loN T g i.toNat).2.2.1 then (loN T g i.toNat).1 else (loN T g i.toNat).2.2.2) := by
  have key : ∀ c : Nat, (c : Int) + 1 ≤ r → loN T g (i + (c + 1)).toNat = ((loN T g i.toNat).1 + 1, (c : Int) + 1, if (c : Int) + 1 > (loN T g i.toNat).2.2.1 then (c : Int) + 1 else (loN T g i.toNat).2.2.1, if (c : Int) + 1 > (loN T g i.toNat).2.2.1 then (loN T g i.toNat).1 else (loN T g i.toNat).2.2.2) := fun c => by
    induction c with
    | zero =>
      intro _
      rw [show i + (((0 : Nat) : Int) + 1) = i + 1 from by omega, loN_I h0]
      simp only [if_pos b, show (loN T g i.toNat).1 + 1 - 1 = (loN T g i.toNat).1 from by omega]
      rfl
    | succ c ih =>
      intro q
      rw [show i + (((c + 1 : Nat) : Int) + 1) = (i + (c + 1)) + 1 from by omega, loN_I (by omega), ih (by omega)]
      have a1 := p.2.1 (i + (c + 1)) (by omega) (by omega)
      have nb : ¬ (i + (↑c + 1) = 0 ∨ wr (T (i + (c + 1)) - T (i + (c + 1) - 1)) > g) := by rintro (z | z); omega; exact a1 z
      simp only [if_neg nb, show ((c + 1 : Nat) : Int) = (c : Int) + 1 from by omega, show (loN T g i.toNat).1 + 1 - 1 = (loN T g i.toNat).1 from by omega]
      by_cases z : (c : Int) + 1 > (loN T g i.toNat).2.2.1
      · simp only [if_pos z, if_pos (show (c : Int) + 1 + 1 > (loN T g i.toNat).2.2.1 by omega), if_pos (show (c : Int) + 1 + 1 > (c : Int) + 1 by omega)]
      · simp only [if_neg z]
  have := key (r - 1).toNat (by have := p.1.1; omega)
  rw [show i + (((r - 1).toNat : Int) + 1) = i + r from by have := p.1.1; omega, show (((r - 1).toNat : Int) + 1) = r from by have := p.1.1; omega] at this
  exact this
theorem loN_b {T : Int → Int} {g : Int} : ∀ n : Nat, (0 ≤ (loN T g n).1 ∧ (loN T g n).1 ≤ n) ∧ (0 ≤ (loN T g n).2.1 ∧ (loN T g n).2.1 ≤ n) ∧ 0 ≤ (loN T g n).2.2.1 ∧ (loN T g n).2.2.1 ≤ n
  | 0 => by
    have e : loN T g 0 = (0, 0, 0, -1) := rfl
    rw [e]
    dsimp only
    omega
  | n + 1 => by
    have ih := loN_b (T := T) (g := g) n
    have e := loN_I (T := T) (g := g) (show (0 : Int) ≤ n by omega)
    rw [show ((n : Int) + 1).toNat = n + 1 from by omega, Int.toNat_natCast] at e
    rw [e]
    dsimp only
    (repeat' split) <;> omega
/-- one SESSION gone over -/
theorem st_run {T : Int → Int} {g s h i : Int} (hs : 0 ≤ s) (h0 : 0 ≤ i) (b : ssB T g i) {r : Int} (p : sesR T g h i r) : (sst T g s (i + r).toNat).1 = (sst T g s i.toNat).1 + 1 ∧ ((sst T g s i.toNat).1 = s → (sst T g s (i + r).toNat).2 = (i, r)) ∧ ((sst T g s i.toNat).1 ≠ s → (sst T g s (i + r).toNat).2 = (sst T g s i.toNat).2) := by
  have key : ∀ c : Nat, (c : Int) + 1 ≤ r → (sst T g s (i + (c + 1)).toNat).1 = (sst T g s i.toNat).1 + 1 ∧ ((sst T g s i.toNat).1 = s → (sst T g s (i + (c + 1)).toNat).2.1 = i ∧ (sst T g s (i + (c + 1)).toNat).2.2 = c + 1) ∧ ((sst T g s i.toNat).1 ≠ s → (sst T g s (i + (c + 1)).toNat).2.1 = (sst T g s i.toNat).2.1 ∧ (sst T g s (i + (c + 1)).toNat).2.2 = (sst T g s i.toNat).2.2) := fun c => by
    induction c with
    | zero =>
      intro _
      have q := sst_y (s := s) h0 b
      have z := sst_b (T := T) (g := g) hs i.toNat
      rw [show i + (((0 : Nat) : Int) + 1) = i + 1 from by omega]
      omega
    | succ c ih =>
      intro q
      have ih := ih (by omega)
      have a1 := p.2.1 (i + (c + 1)) (by omega) (by omega)
      have st := sst_n (T := T) (g := g) (s := s) (i := i + (c + 1)) (by omega) (by rintro (z | z); omega; exact a1 z)
      rw [show i + (((c + 1 : Nat) : Int) + 1) = (i + (c + 1)) + 1 from by omega]
      omega
  have q := key (r - 1).toNat (by have := p.1.1; omega)
  rw [show i + (((r - 1).toNat : Int) + 1) = i + r from by have := p.1.1; omega, show (((r - 1).toNat : Int) + 1) = r from by have := p.1.1; omega] at q
  exact ⟨q.1, fun z => Prod.ext (q.2.1 z).1 (q.2.1 z).2, fun z => Prod.ext (q.2.2 z).1 (q.2.2 z).2⟩
theorem sst_past {T : Int → Int} {g s i : Int} (h0 : 0 ≤ i) (hp : (sst T g s i.toNat).1 - 1 > s) : ∀ k : Nat, (sst T g s (i + k).toNat).1 - 1 > s ∧ (sst T g s (i + k).toNat).2.1 = (sst T g s i.toNat).2.1 ∧ (sst T g s (i + k).toNat).2.2 = (sst T g s i.toNat).2.2
  | 0 => by
    rw [show i + ((0 : Nat) : Int) = i from by omega]
    exact ⟨hp, rfl, rfl⟩
  | k + 1 => by
    have ih := sst_past h0 hp k
    rw [show i + ((k + 1 : Nat) : Int) = i + k + 1 from by omega]
    by_cases c : i + k = 0 ∨ wr (T (i + k) - T (i + k - 1)) > g
    · have q := sst_y (s := s) (show 0 ≤ i + k by omega) c
      omega
    · have q := sst_n (s := s) (show 0 ≤ i + k by omega) c
      omega
/-- the SESSION asked for, gone over: nothing behind it changes it -/
theorem st_fin {T : Int → Int} {g s h i : Int} (hs : 0 ≤ s) (h0 : 0 ≤ i) (b : ssB T g i) (hn : (sst T g s i.toNat).1 = s) {r : Int} (p : sesR T g h i r) : (sst T g s h.toNat).2 = (i, r) := by
  have q := st_run hs h0 b p
  have q2 := q.2.1 hn
  by_cases z : i + r = h
  · rw [← z]; exact q2
  · have p1 := p.1
    have st := sst_y (T := T) (g := g) (s := s) (i := i + r) (by omega) (Or.inr (p.2.2 (by omega)))
    have e1 : (sst T g s (i + r).toNat).2.1 = i := by rw [q2]
    have e2 : (sst T g s (i + r).toNat).2.2 = r := by rw [q2]
    have z2 := sst_past (T := T) (g := g) (s := s) (i := i + r + 1) (by omega) (by omega) (h - (i + r + 1)).toNat
    rw [show i + r + 1 + (((h - (i + r + 1)).toNat : Nat) : Int) = h from by omega] at z2
    exact Prod.ext (by omega) (by omega)
-- B: what is asked of all together
def htN (V : Mm) : Nat → Int
  | 0 => 0
  | n + 1 => if V 7 n 1 = 1 then htN V n + V 7 n 6 else htN V n
def spN (V : Mm) : Nat → Int
  | 0 => 0
  | n + 1 => if V 7 n 1 = 1 then wr (spN V n + V 11 n 5) else spN V n
def wcN (V : Mm) : Nat → Int
  | 0 => 0
  | n + 1 => if V 12 n 0 ≠ -1 then wcN V n + 1 else wcN V n
def bxN (V : Mm) : Nat → Int
  | 0 => 0
  | n + 1 => if V 7 (n + 4) 1 = 1 then bxN V n + 1 else bxN V n
def rgN (V : Mm) : Nat → Int
  | 0 => 0
  | n + 1 => if V 12 n 0 ≠ -1 then wr (rgN V n + V 12 n 4) else rgN V n
def lnN (V : Mm) : Nat → Int
  | 0 => 0
  | n + 1 => if V 13 n 0 ≠ -1 then lnN V n + 1 else lnN V n
def abR (V : Mm) (w : Int) : Int := if w = 0 then cntO V else if w = 1 then htN V 4 else if w = 2 then spN V 4 else if w = 3 then wcN V 8 else if w = 4 then bxN V 3 else if w = 5 then rgN V 8 else if w = 6 then lnN V 4 else -1
theorem htN_I {V : Mm} {i : Int} (h : 0 ≤ i) : htN V (i + 1).toNat = (if V 7 i 1 = 1 then htN V i.toNat + V 7 i 6 else htN V i.toNat) := by
  obtain ⟨n, rfl⟩ := Int.eq_ofNat_of_zero_le h
  rw [show ((n : Int) + 1).toNat = n + 1 from by omega, Int.toNat_natCast]
  rfl
theorem spN_I {V : Mm} {i : Int} (h : 0 ≤ i) : spN V (i + 1).toNat = (if V 7 i 1 = 1 then wr (spN V i.toNat + V 11 i 5) else spN V i.toNat) := by
  obtain ⟨n, rfl⟩ := Int.eq_ofNat_of_zero_le h
  rw [show ((n : Int) + 1).toNat = n + 1 from by omega, Int.toNat_natCast]
  rfl
theorem wcN_I {V : Mm} {i : Int} (h : 0 ≤ i) : wcN V (i + 1).toNat = (if V 12 i 0 ≠ -1 then wcN V i.toNat + 1 else wcN V i.toNat) := by
  obtain ⟨n, rfl⟩ := Int.eq_ofNat_of_zero_le h
  rw [show ((n : Int) + 1).toNat = n + 1 from by omega, Int.toNat_natCast]
  rfl
theorem bxN_I {V : Mm} {i : Int} (h : 0 ≤ i) : bxN V (i + 1).toNat = (if V 7 (i + 4) 1 = 1 then bxN V i.toNat + 1 else bxN V i.toNat) := by
  obtain ⟨n, rfl⟩ := Int.eq_ofNat_of_zero_le h
  rw [show ((n : Int) + 1).toNat = n + 1 from by omega, Int.toNat_natCast]
  rfl
theorem rgN_I {V : Mm} {i : Int} (h : 0 ≤ i) : rgN V (i + 1).toNat = (if V 12 i 0 ≠ -1 then wr (rgN V i.toNat + V 12 i 4) else rgN V i.toNat) := by
  obtain ⟨n, rfl⟩ := Int.eq_ofNat_of_zero_le h
  rw [show ((n : Int) + 1).toNat = n + 1 from by omega, Int.toNat_natCast]
  rfl
theorem lnN_I {V : Mm} {i : Int} (h : 0 ≤ i) : lnN V (i + 1).toNat = (if V 13 i 0 ≠ -1 then lnN V i.toNat + 1 else lnN V i.toNat) := by
  obtain ⟨n, rfl⟩ := Int.eq_ofNat_of_zero_le h
  rw [show ((n : Int) + 1).toNat = n + 1 from by omega, Int.toNat_natCast]
  rfl
-- B: the class: what is asked with a fold
theorem GI.fo {σ ρ : Mm} (h : GI σ) (e : ∀ c : Nat, ¬ Fo c → ρ c = σ c) : GI ρ := by
  refine ⟨h.1.to fun c x y q => by rw [e c (by omega)], h.2.1.to fun c x y q => by rw [e c (by omega)], fun l a b => ?_⟩
  rw [e 7 (by decide)]
  exact h.2.2 l a b
theorem x_reach_S {eb : Bool} {d : Nat} {P : Option Vl → Mm → Prop} {σ : Mm} {l w b : Int}  (hI : InF σ) (hG : GI σ)  (k : ∀ (r : Int) (ρ : Mm), reA σ l w b r → (∀ (c : Nat) (x y : Int), ¬ Fo c → ρ c x y = σ c x y) → InF ρ → P (some (vI r)) ρ) : WT (true, true, eb) (d + 5) 77 [vR 2 0, vI l, vI w, vI b] σ P := by
  refine WT_in fun K hK => ?_
  have hK : StpY (true, true, eb) cX5_reach RX5 (some .int) (WT (true, true, eb) (d + 4)) P K := hK
  have hM := hK.1
  have hC := hK.1.1
  show K 0 [some (vR 2 0), some (vI l), some (vI w), some (vI b), none, none] [] σ
  refine z_ok hM (fun hok => ?_)
  refine r_rngz hC (fun g0 => ?_)
  have r_l : -2147483648 ≤ l ∧ l ≤ 2147483647 := inR_le (g0 (vI l) (by simp))
  have r_w : -2147483648 ≤ w ∧ w ≤ 2147483647 := inR_le (g0 (vI w) (by simp))
  have r_b : -2147483648 ≤ b ∧ b ≤ 2147483647 := inR_le (g0 (vI b) (by simp))
  have hcl := hG.2.1.2.2.2.2.2.2.2
  have hrow := hG.2.1.2.2.1
  refine r_aload_n hC dX5_reach_0 rfl ?_
  refine r_iload_n hC dX5_reach_1 rfl ?_
  refine r_iload_n hC dX5_reach_2 rfl ?_
  refine z_inv2 hM dX5_reach_3 vl_RX5_248 rfl rfl rfl (Nat.le_of_ble_eq_true rfl) (Nat.le_of_ble_eq_true rfl) ?_
  refine x_laneWith (fun hl_3 => ?_) (fun hl_3 => ?_)
  · have h6_3 := hG.1.h7 (l := l) (by omega) (by omega)
    have hN_3 := numF_rng (σ 7 l 2)
    have hO_3 := (hG.2.1.2.2.2.1 l (by omega) (by omega)).2
    refine r_astore hC dX5_reach_6 rfl ?_
    refine r_aload hC dX5_reach_8 rfl ?_
    refine r_ifnonnullR (tgt := 15) hC dX5_reach_10 rfl ?_
    refine r_aload_n hC dX5_reach_15 rfl ?_
    refine z_getR hM dX5_reach_16 fl_RX5_40 rfl rfl (vld_of (n := 1) rfl (by omega) (by omega)) ?_
    refine r_aload hC dX5_reach_19 rfl ?_
    refine z_getI (jz := 2) hM dX5_reach_21 fl_RX5_98 rfl rfl rfl (fun v1 h_v1 o_v1 t_v1 => ?_)
    have w_v1 := ((t_v1 (Or.inl (by first | exact trivial | exact tb7_ (by decide) | simp [Tb]))).trans (rfl)).symm
    clear t_v1
    subst w_v1
    have q_v1 : 0 ≤ (σ 7 l 2) ∧ (σ 7 l 2) ≤ 9 := o_v1.2.2 rfl
    refine z_inv1 hM dX5_reach_24 vl_RX5_251 rfl rfl rfl (Nat.le_of_ble_eq_true rfl) (Nat.le_of_ble_eq_true rfl) ?_
    refine x_begin (by omega) rfl rfl rfl rfl rfl rfl rfl rfl rfl rfl (fun ρ2 g_ρ2 z_ρ2 => ?_)
    have t_ρ2 : ∀ (c : Nat) (p q : Int), ¬ Fo c → ρ2 c p q = σ c p q := fun c p q hc => (g_ρ2 c p q (by omega)).trans ((fun _ _ _ _ => rfl) c p q hc)
    refine r_iconst hC dX5_reach_27 rfl ?_
    refine r_istore hC dX5_reach_28 rfl ?_
    have L30 : ∀ (n30 : Nat) (w3 : Int) (ρ4 : Mm), 0 ≤ w3 ∧ w3 ≤ 121 → ((w3) ≤ σ 7 l 6) → (∀ n : Int, 1 ≤ n → n ≤ (w3) → ¬ rchV σ l 0 n w b) → 121 - w3 < (n30 : Int) → (∀ (c : Nat) (p q : Int), ¬ Fo c → ρ4 c p q = σ c p q) → (FRc ρ4 (σ 7 l 2) (fun j => σ 9 l (0 + j)) ((w3).toNat)) → K 30 [some (vR 2 0), some (vI l), some (vI w), some (vI b), some (vR 7 l), some (vI w3)] [] ρ4 := by
      intro n30
      induction n30 with
      | zero => intro w3 ρ4 f_w3 i0_30 i1_30 hm  m0_30 m1_30; omega
      | succ n30 ih30 =>
        intro w3 ρ4 f_w3 i0_30 i1_30 hm30  m0_30 m1_30
        refine r_iload hC dX5_reach_30 rfl ?_
        refine r_aload hC dX5_reach_32 rfl ?_
        refine z_getI (jz := 6) hM dX5_reach_34 fl_RX5_154 rfl rfl rfl (fun v5 h_v5 o_v5 t_v5 => ?_)
        have w_v5 := ((t_v5 (Or.inl (by first | exact trivial | exact tb7_ (by decide) | simp [Tb]))).trans (m0_30 7 l 6 (by decide))).symm
        clear t_v5
        subst w_v5
        have q_v5 : 0 ≤ (σ 7 l 6) ∧ (σ 7 l 6) ≤ 121 := o_v5.1 rfl
        refine r_icmp_ge (tgt := 78) hC dX5_reach_37 rfl (fun h6 => ?_) (fun h6 => ?_)
        · refine r_iconst hC dX5_reach_78 rfl ?_
          refine y_iret hK rfl dX5_reach_79 ?_
          have hA : reA σ l w b (-1) := by
            exact ⟨fun _ => rfl, fun _ => Or.inl ⟨rfl, fun n n0 n1 => i1_30 n n0 (by omega)⟩⟩
          exact k _ _ hA (m0_30) (FRc.inF m1_30 (fun j h0 h1 => by rw [m0_30 15 0 j (by decide)]; exact hcl j h0 h1))
        · refine r_aload_n hC dX5_reach_40 rfl ?_
          refine z_getR hM dX5_reach_41 fl_RX5_40 rfl rfl (vld_of (n := 1) rfl (by omega) (by omega)) ?_
          refine r_aload hC dX5_reach_44 rfl ?_
          refine z_getR hM dX5_reach_46 fl_RX5_176 rfl rfl (vld_of (n := 7) rfl (by omega) (by omega)) ?_
          refine r_iload hC dX5_reach_49 rfl ?_
          refine z_iald hM dX5_reach_51 rfl (by omega) (by omega) (fun v7 h_v7 o_v7 t_v7 => ?_)
          have w_v7 := ((t_v7 (Or.inl (by first | exact trivial | exact tb7_ (by decide) | simp [Tb]))).trans (m0_30 9 l w3 (by decide))).symm
          clear t_v7
          subst w_v7
          have q_v7 : -1000 ≤ (σ 9 l w3) ∧ (σ 9 l w3) ≤ 1000 := o_v7
          refine z_inv1 hM dX5_reach_52 vl_RX5_253 rfl rfl rfl (Nat.le_of_ble_eq_true rfl) (Nat.le_of_ble_eq_true rfl) ?_
          refine x_append2 (u := (fun j => σ 9 l (0 + j))) (n := (w3).toNat) (show (σ 9 l w3) = σ 9 l (0 + (((w3).toNat : Nat) : Int)) from congrArg (σ 9 l) (by omega)) (by omega) (by omega) (by omega) (fun j h0 h1 => (hrow l (0 + j) (by omega) (by omega) (by omega) (by omega)).2) m1_30 (fun j h0 h1 => by rw [m0_30 15 0 j (by decide)]; exact hcl j h0 h1) (fun ρ8 g_ρ8 r_ρ8 => ?_)
          have t_ρ8 : ∀ (c : Nat) (p q : Int), ¬ Fo c → ρ8 c p q = σ c p q := fun c p q hc => (g_ρ8 c p q (by omega)).trans (m0_30 c p q hc)
          refine r_aload_n hC dX5_reach_55 rfl ?_
          refine z_getR hM dX5_reach_56 fl_RX5_40 rfl rfl (vld_of (n := 1) rfl (by omega) (by omega)) ?_
          refine r_iload_n hC dX5_reach_59 rfl ?_
          refine r_iload_n hC dX5_reach_60 rfl ?_
          refine z_inv2 hM dX5_reach_61 vl_RX5_256 rfl rfl rfl (Nat.le_of_ble_eq_true rfl) (Nat.le_of_ble_eq_true rfl) ?_
          refine x_reaches (o := (σ 7 l 2)) (u := (fun j => σ 9 l (0 + j))) (n := ((w3).toNat + 1)) (by omega) (by omega) r_ρ8 (fun hr_61 => ?_) (fun hr_61 => ?_)
          · rw [show ρ8 16 0 = σ 16 0 from funext fun y => t_ρ8 16 0 y (by decide), show ρ8 15 0 = σ 15 0 from funext fun y => t_ρ8 15 0 y (by decide)] at hr_61
            refine r_if_eq (tgt := 72) hC dX5_reach_64 rfl (fun h9 => by omega) (fun h9 => ?_)
            refine r_iload hC dX5_reach_67 rfl ?_
            refine r_iconst hC dX5_reach_69 rfl ?_
            refine r_iaddE hC ((w3 + 1)) dX5_reach_70 (by omega) (by unfold inR; omega) ?_
            refine y_iret hK rfl dX5_reach_71 ?_
            have hA : reA σ l w b (w3 + 1) := by
              refine ⟨fun q => absurd ⟨by unfold opV; omega, by omega, by omega⟩ q, fun _ => Or.inr ⟨by omega, ?_, fun n n0 n1 => i1_30 n n0 (by omega)⟩⟩
              have q := hr_61
              rw [show (w3).toNat + 1 = ((w3 + 1) - 0).toNat from by omega] at q
              exact q
            exact k _ _ hA (t_ρ8) (FRc.inF r_ρ8 (fun j h0 h1 => by rw [t_ρ8 15 0 j (by decide)]; exact hcl j h0 h1))
          · rw [show ρ8 16 0 = σ 16 0 from funext fun y => t_ρ8 16 0 y (by decide), show ρ8 15 0 = σ 15 0 from funext fun y => t_ρ8 15 0 y (by decide)] at hr_61
            refine r_if_eq (tgt := 72) hC dX5_reach_64 rfl (fun h10 => ?_) (fun h10 => by omega)
            refine r_iincE hC ((w3 + 1)) dX5_reach_72 rfl rfl (by omega) (by unfold inR; omega) ?_
            refine r_goto (tgt := 30) hC dX5_reach_75 rfl ?_
            exact ih30 ((w3 + 1)) ρ8 (by omega) (by omega) (by intro n n0 n1; first | omega | (rcases (by omega : n ≤ w3 ∨ n = w3 + 1) with z | z; exact i1_30 n n0 z; subst z; have q := hr_61; rw [show (w3).toNat + 1 = ((w3 + 1) - 0).toNat from by omega] at q; exact q)) (by omega)  (t_ρ8) (by rw [show ((((w3 + 1) : Int)).toNat : Nat) = ((w3).toNat + 1) from by omega]; exact r_ρ8)
    exact L30 123 (0) ρ2 (by omega) (by omega) (by intro n n0 n1; first | omega | (rcases (by omega : n ≤ w3 ∨ n = w3 + 1) with z | z; exact i1_30 n n0 z; subst z; have q := hr_61; rw [show (w3).toNat + 1 = ((w3 + 1) - 0).toNat from by omega] at q; exact q)) (by omega)  (t_ρ2) (by rw [show (((0 : Int)).toNat : Nat) = 0 from by omega]; exact z_ρ2 (fun j => σ 9 l (0 + j)))
  · refine r_astoreN hC dX5_reach_6 rfl ?_
    refine r_aloadN hC dX5_reach_8 rfl ?_
    refine r_ifnonnullN hC dX5_reach_10 ?_
    refine r_iconst hC dX5_reach_13 rfl ?_
    refine y_iret hK rfl dX5_reach_14 ?_
    have hA : reA σ l w b (-1) := by
      exact ⟨fun _ => rfl, fun q => by unfold lwC opV at q; omega⟩
    exact k _ _ hA (fun _ _ _ _ => rfl) hI
theorem x_reach {eb : Bool} {d : Nat} {P : Option Vl → Mm → Prop} {σ : Mm} {l w b : Int} (hG : GI σ) (k : ∀ r : Int, reA σ l w b r → P (some (vI r)) σ) : WT (true, false, eb) (d + 5) 77 [vR 2 0, vI l, vI w, vI b] σ P := WT_fold fun ρ e hI => x_reach_S hI (hG.fo e) (fun r ρ2 hA gq hI2 => ⟨hI2, σ, k r (by
    have hc : reA ρ l w b r = reA σ l w b r := by (delta reA Fst rchV ptV lwC opV; simp only [e 7 (by decide), e 8 (by decide), e 9 (by decide), e 15 (by decide), e 16 (by decide)])
    rw [← hc]
    exact hA), fun c x y hc => (gq c x y hc).trans (by rw [e c hc])⟩)
theorem x_turned_S {eb : Bool} {d : Nat} {P : Option Vl → Mm → Prop} {σ : Mm} {l w : Int}  (hI : InF σ) (hG : GI σ)  (k : ∀ ρ : Mm, (∀ (c : Nat) (x y : Int), ¬ Fo c → ρ c x y = σ c x y) → InF ρ → P (some (vI (tuR σ l w))) ρ) : WT (true, true, eb) (d + 5) 83 [vR 2 0, vI l, vI w] σ P := by
  refine WT_in fun K hK => ?_
  have hK : StpY (true, true, eb) cX5_turned RX5 (some .int) (WT (true, true, eb) (d + 4)) P K := hK
  have hM := hK.1
  have hC := hK.1.1
  show K 0 [some (vR 2 0), some (vI l), some (vI w), none, none] [] σ
  refine z_ok hM (fun hok => ?_)
  refine r_rngz hC (fun g0 => ?_)
  have r_l : -2147483648 ≤ l ∧ l ≤ 2147483647 := inR_le (g0 (vI l) (by simp))
  have r_w : -2147483648 ≤ w ∧ w ≤ 2147483647 := inR_le (g0 (vI w) (by simp))
  have hcl := hG.2.1.2.2.2.2.2.2.2
  have hrow := hG.2.1.2.2.1
  refine r_aload_n hC dX5_turned_0 rfl ?_
  refine r_iload_n hC dX5_turned_1 rfl ?_
  refine r_iload_n hC dX5_turned_2 rfl ?_
  refine z_inv2 hM dX5_turned_3 vl_RX5_248 rfl rfl rfl (Nat.le_of_ble_eq_true rfl) (Nat.le_of_ble_eq_true rfl) ?_
  refine x_laneWith (fun hl_3 => ?_) (fun hl_3 => ?_)
  · have h6_3 := hG.1.h7 (l := l) (by omega) (by omega)
    have hN_3 := numF_rng (σ 7 l 2)
    have hO_3 := (hG.2.1.2.2.2.1 l (by omega) (by omega)).2
    refine r_astore_n hC dX5_turned_6 rfl ?_
    refine r_aload_n hC dX5_turned_7 rfl ?_
    refine r_ifnonnullR (tgt := 14) hC dX5_turned_8 rfl ?_
    refine r_aload_n hC dX5_turned_14 rfl ?_
    refine z_getR hM dX5_turned_15 fl_RX5_40 rfl rfl (vld_of (n := 1) rfl (by omega) (by omega)) ?_
    refine r_aload_n hC dX5_turned_18 rfl ?_
    refine z_getI (jz := 2) hM dX5_turned_19 fl_RX5_98 rfl rfl rfl (fun v1 h_v1 o_v1 t_v1 => ?_)
    have w_v1 := ((t_v1 (Or.inl (by first | exact trivial | exact tb7_ (by decide) | simp [Tb]))).trans (rfl)).symm
    clear t_v1
    subst w_v1
    have q_v1 : 0 ≤ (σ 7 l 2) ∧ (σ 7 l 2) ≤ 9 := o_v1.2.2 rfl
    refine z_inv1 hM dX5_turned_22 vl_RX5_251 rfl rfl rfl (Nat.le_of_ble_eq_true rfl) (Nat.le_of_ble_eq_true rfl) ?_
    refine x_begin (by omega) rfl rfl rfl rfl rfl rfl rfl rfl rfl rfl (fun ρ2 g_ρ2 z_ρ2 => ?_)
    have t_ρ2 : ∀ (c : Nat) (p q : Int), ¬ Fo c → ρ2 c p q = σ c p q := fun c p q hc => (g_ρ2 c p q (by omega)).trans ((fun _ _ _ _ => rfl) c p q hc)
    refine r_aload_n hC dX5_turned_25 rfl ?_
    refine z_getI (jz := 6) hM dX5_turned_26 fl_RX5_154 rfl rfl rfl (fun v3 h_v3 o_v3 t_v3 => ?_)
    have w_v3 := ((t_v3 (Or.inl (by first | exact trivial | exact tb7_ (by decide) | simp [Tb]))).trans (t_ρ2 7 l 6 (by decide))).symm
    clear t_v3
    subst w_v3
    have q_v3 : 0 ≤ (σ 7 l 6) ∧ (σ 7 l 6) ≤ 121 := o_v3.1 rfl
    refine r_iconst hC dX5_turned_29 rfl ?_
    refine r_isubE hC (((σ 7 l 6) - 1)) dX5_turned_30 (by omega) (by unfold inR; omega) ?_
    refine r_istore hC dX5_turned_31 rfl ?_
    have L33 : ∀ (n33 : Nat) (w4 : Int) (ρ5 : Mm), -1 ≤ w4 ∧ w4 ≤ 120 → ((w4) ≤ σ 7 l 6 - 1) → w4 + 1 < (n33 : Int) → (∀ (c : Nat) (p q : Int), ¬ Fo c → ρ5 c p q = σ c p q) → (FRc ρ5 (σ 7 l 2) (tuU σ l) ((σ 7 l 6 - 1 - w4).toNat)) → K 33 [some (vR 2 0), some (vI l), some (vI w), some (vR 7 l), some (vI w4)] [] ρ5 := by
      intro n33
      induction n33 with
      | zero => intro w4 ρ5 f_w4 i0_33 hm  m0_33 m1_33; omega
      | succ n33 ih33 =>
        intro w4 ρ5 f_w4 i0_33 hm33  m0_33 m1_33
        refine r_iload hC dX5_turned_33 rfl ?_
        refine r_if_lt (tgt := 58) hC dX5_turned_35 rfl (fun h6 => ?_) (fun h6 => ?_)
        · refine r_aload_n hC dX5_turned_58 rfl ?_
          refine z_getR hM dX5_turned_59 fl_RX5_40 rfl rfl (vld_of (n := 1) rfl (by omega) (by omega)) ?_
          refine r_iload_n hC dX5_turned_62 rfl ?_
          refine z_inv1 hM dX5_turned_63 vl_RX5_273 rfl rfl rfl (Nat.le_of_ble_eq_true rfl) (Nat.le_of_ble_eq_true rfl) ?_
          refine x_number (n := (σ 7 l 6 - 1 - w4).toNat) (by omega) m1_33.1 m1_33.2.1 (by omega) m1_33 ?_
          rw [show ρ5 16 0 = σ 16 0 from funext fun y => m0_33 16 0 y (by decide), show ρ5 15 0 = σ 15 0 from funext fun y => m0_33 15 0 y (by decide)]
          refine y_iret hK rfl dX5_turned_66 ?_
          have hR : tuR σ l w = (cm (σ 16 0) (σ 15 0) (σ 7 l 2) (tuU σ l) (σ 7 l 6 - 1 - w4).toNat w) := by
            unfold tuR
            rw [if_pos (by unfold lwC opV; omega), show (σ 7 l 6).toNat = (σ 7 l 6 - 1 - w4).toNat from by omega]
          rw [hR] at k
          exact k _ (m0_33) (FRc.inF m1_33 (fun j h0 h1 => by rw [m0_33 15 0 j (by decide)]; exact hcl j h0 h1))
        · refine r_aload_n hC dX5_turned_38 rfl ?_
          refine z_getR hM dX5_turned_39 fl_RX5_40 rfl rfl (vld_of (n := 1) rfl (by omega) (by omega)) ?_
          refine r_aload_n hC dX5_turned_42 rfl ?_
          refine z_getR hM dX5_turned_43 fl_RX5_176 rfl rfl (vld_of (n := 7) rfl (by omega) (by omega)) ?_
          refine r_iload hC dX5_turned_46 rfl ?_
          refine z_iald hM dX5_turned_48 rfl (by omega) (by omega) (fun v7 h_v7 o_v7 t_v7 => ?_)
          have w_v7 := ((t_v7 (Or.inl (by first | exact trivial | exact tb7_ (by decide) | simp [Tb]))).trans (m0_33 9 l w4 (by decide))).symm
          clear t_v7
          subst w_v7
          have q_v7 : -1000 ≤ (σ 9 l w4) ∧ (σ 9 l w4) ≤ 1000 := o_v7
          refine z_inv1 hM dX5_turned_49 vl_RX5_253 rfl rfl rfl (Nat.le_of_ble_eq_true rfl) (Nat.le_of_ble_eq_true rfl) ?_
          refine x_append2 (u := (tuU σ l)) (n := (σ 7 l 6 - 1 - w4).toNat) (show (σ 9 l w4) = σ 9 l (σ 7 l 6 - 1 - (((σ 7 l 6 - 1 - w4).toNat : Nat) : Int)) from congrArg (σ 9 l) (by omega)) (by omega) (by omega) (by omega) (fun j h0 h1 => (hrow l (σ 7 l 6 - 1 - j) (by omega) (by omega) (by omega) (by omega)).2) m1_33 (fun j h0 h1 => by rw [m0_33 15 0 j (by decide)]; exact hcl j h0 h1) (fun ρ8 g_ρ8 r_ρ8 => ?_)
          have t_ρ8 : ∀ (c : Nat) (p q : Int), ¬ Fo c → ρ8 c p q = σ c p q := fun c p q hc => (g_ρ8 c p q (by omega)).trans (m0_33 c p q hc)
          refine r_iincE hC ((w4 - 1)) dX5_turned_52 rfl rfl (by omega) (by unfold inR; omega) ?_
          refine r_goto (tgt := 33) hC dX5_turned_55 rfl ?_
          exact ih33 ((w4 - 1)) ρ8 (by omega) (by omega) (by omega)  (t_ρ8) (by rw [show (((σ 7 l 6 - 1 - (w4 - 1) : Int)).toNat : Nat) = ((σ 7 l 6 - 1 - w4).toNat + 1) from by omega]; exact r_ρ8)
    exact L33 123 (((σ 7 l 6) - 1)) ρ2 (by omega) (by omega) (by omega)  (t_ρ2) (by rw [show (((σ 7 l 6 - 1 - ((σ 7 l 6) - 1) : Int)).toNat : Nat) = 0 from by omega]; exact z_ρ2 (tuU σ l))
  · refine r_astoreN_n hC dX5_turned_6 rfl ?_
    refine r_aloadN_n hC dX5_turned_7 rfl ?_
    refine r_ifnonnullN hC dX5_turned_8 ?_
    refine r_ldc hC dX5_turned_11 co_RX5_175 rfl ?_
    refine y_iret hK rfl dX5_turned_13 ?_
    have hR : tuR σ l w = (-2147483648) := by
      exact if_neg (by unfold lwC opV; omega)
    rw [hR] at k
    exact k _ (fun _ _ _ _ => rfl) hI
theorem x_turned {eb : Bool} {d : Nat} {P : Option Vl → Mm → Prop} {σ : Mm} {l w : Int} (hG : GI σ) (k : P (some (vI (tuR σ l w))) σ) : WT (true, false, eb) (d + 5) 83 [vR 2 0, vI l, vI w] σ P := WT_fold fun ρ e hI => x_turned_S hI (hG.fo e) (fun ρ2 gq hI2 => ⟨hI2, σ, by
    have hc : tuR ρ l w = tuR σ l w := by (delta tuR tuU lwC opV; simp only [e 7 (by decide), e 8 (by decide), e 9 (by decide), e 15 (by decide), e 16 (by decide)])
    rw [hc]
    exact k, fun c x y hc => (gq c x y hc).trans (by rw [e c hc])⟩)
theorem x_reachBack_S {eb : Bool} {d : Nat} {P : Option Vl → Mm → Prop} {σ : Mm} {l w b : Int}  (hI : InF σ) (hG : GI σ)  (k : ∀ (r : Int) (ρ : Mm), rbA σ l w b r → (∀ (c : Nat) (x y : Int), ¬ Fo c → ρ c x y = σ c x y) → InF ρ → P (some (vI r)) ρ) : WT (true, true, eb) (d + 5) 78 [vR 2 0, vI l, vI w, vI b] σ P := by
  refine WT_in fun K hK => ?_
  have hK : StpY (true, true, eb) cX5_reachBack RX5 (some .int) (WT (true, true, eb) (d + 4)) P K := hK
  have hM := hK.1
  have hC := hK.1.1
  show K 0 [some (vR 2 0), some (vI l), some (vI w), some (vI b), none, none] [] σ
  refine z_ok hM (fun hok => ?_)
  refine r_rngz hC (fun g0 => ?_)
  have r_l : -2147483648 ≤ l ∧ l ≤ 2147483647 := inR_le (g0 (vI l) (by simp))
  have r_w : -2147483648 ≤ w ∧ w ≤ 2147483647 := inR_le (g0 (vI w) (by simp))
  have r_b : -2147483648 ≤ b ∧ b ≤ 2147483647 := inR_le (g0 (vI b) (by simp))
  have hcl := hG.2.1.2.2.2.2.2.2.2
  have hrow := hG.2.1.2.2.1
  refine r_aload_n hC dX5_reachBack_0 rfl ?_
  refine r_iload_n hC dX5_reachBack_1 rfl ?_
  refine r_iload_n hC dX5_reachBack_2 rfl ?_
  refine z_inv2 hM dX5_reachBack_3 vl_RX5_248 rfl rfl rfl (Nat.le_of_ble_eq_true rfl) (Nat.le_of_ble_eq_true rfl) ?_
  refine x_laneWith (fun hl_3 => ?_) (fun hl_3 => ?_)
  · have h6_3 := hG.1.h7 (l := l) (by omega) (by omega)
    have hN_3 := numF_rng (σ 7 l 2)
    have hO_3 := (hG.2.1.2.2.2.1 l (by omega) (by omega)).2
    refine r_astore hC dX5_reachBack_6 rfl ?_
    refine r_aload hC dX5_reachBack_8 rfl ?_
    refine r_ifnonnullR (tgt := 15) hC dX5_reachBack_10 rfl ?_
    refine r_iconst hC dX5_reachBack_15 rfl ?_
    refine r_istore hC dX5_reachBack_16 rfl ?_
    have L18 : ∀ (n18 : Nat) (w1 : Int) (ρ2 : Mm), 1 ≤ w1 ∧ w1 ≤ 122 → (∀ n : Int, 1 ≤ n → n < (w1) → ¬ rchV σ l (σ 7 l 6 - n) (σ 7 l 6) w b) → 122 - w1 < (n18 : Int) → (∀ (c : Nat) (p q : Int), ¬ Fo c → ρ2 c p q = σ c p q) → (InF ρ2) → K 18 [some (vR 2 0), some (vI l), some (vI w), some (vI b), some (vR 7 l), some (vI w1)] [] ρ2 := by
      intro n18
      induction n18 with
      | zero => intro w1 ρ2 f_w1 i0_18 hm  m0_18 m1_18; omega
      | succ n18 ih18 =>
        intro w1 ρ2 f_w1 i0_18 hm18  m0_18 m1_18
        refine r_iload hC dX5_reachBack_18 rfl ?_
        refine r_aload hC dX5_reachBack_20 rfl ?_
        refine z_getI (jz := 6) hM dX5_reachBack_22 fl_RX5_154 rfl rfl rfl (fun v3 h_v3 o_v3 t_v3 => ?_)
        have w_v3 := ((t_v3 (Or.inl (by first | exact trivial | exact tb7_ (by decide) | simp [Tb]))).trans (m0_18 7 l 6 (by decide))).symm
        clear t_v3
        subst w_v3
        have q_v3 : 0 ≤ (σ 7 l 6) ∧ (σ 7 l 6) ≤ 121 := o_v3.1 rfl
        refine r_icmp_gt (tgt := 68) hC dX5_reachBack_25 rfl (fun h4 => ?_) (fun h4 => ?_)
        · refine r_iconst hC dX5_reachBack_68 rfl ?_
          refine y_iret hK rfl dX5_reachBack_69 ?_
          have hA : rbA σ l w b (-1) := by
            exact ⟨fun _ => rfl, fun _ => Or.inl ⟨rfl, fun n n0 n1 => i0_18 n n0 (by omega)⟩⟩
          exact k _ _ hA (m0_18) m1_18
        · refine r_aload_n hC dX5_reachBack_28 rfl ?_
          refine r_aload hC dX5_reachBack_29 rfl ?_
          refine r_aload hC dX5_reachBack_31 rfl ?_
          refine z_getI (jz := 6) hM dX5_reachBack_33 fl_RX5_154 rfl rfl rfl (fun v5 h_v5 o_v5 t_v5 => ?_)
          have w_v5 := ((t_v5 (Or.inl (by first | exact trivial | exact tb7_ (by decide) | simp [Tb]))).trans (m0_18 7 l 6 (by decide))).symm
          clear t_v5
          subst w_v5
          have q_v5 : 0 ≤ (σ 7 l 6) ∧ (σ 7 l 6) ≤ 121 := o_v5.1 rfl
          refine r_iload hC dX5_reachBack_36 rfl ?_
          refine r_isubE hC (((σ 7 l 6) - w1)) dX5_reachBack_38 (by omega) (by unfold inR; omega) ?_
          refine r_aload hC dX5_reachBack_39 rfl ?_
          refine z_getI (jz := 6) hM dX5_reachBack_41 fl_RX5_154 rfl rfl rfl (fun v6 h_v6 o_v6 t_v6 => ?_)
          have w_v6 := ((t_v6 (Or.inl (by first | exact trivial | exact tb7_ (by decide) | simp [Tb]))).trans (m0_18 7 l 6 (by decide))).symm
          clear t_v6
          subst w_v6
          have q_v6 : 0 ≤ (σ 7 l 6) ∧ (σ 7 l 6) ≤ 121 := o_v6.1 rfl
          refine z_inv3 hM dX5_reachBack_44 vl_RX5_259 rfl rfl rfl (Nat.le_of_ble_eq_true rfl) (Nat.le_of_ble_eq_true rfl) ?_
          refine x_foldPart (i := l) (f := ((σ 7 l 6) - w1)) (z := (σ 7 l 6)) (by omega) (by omega) (by omega) (fun ρ7 g_ρ7 r_ρ7 => ?_)
          have t_ρ7 : ∀ (c : Nat) (p q : Int), ¬ Fo c → ρ7 c p q = σ c p q := fun c p q hc => (g_ρ7 c p q (by omega)).trans (m0_18 c p q hc)
          rw [show ρ2 7 l 2 = σ 7 l 2 from m0_18 7 l 2 (by decide), show ρ2 9 l = σ 9 l from funext fun y => m0_18 9 l y (by decide)] at r_ρ7
          refine r_aload_n hC dX5_reachBack_47 rfl ?_
          refine z_getR hM dX5_reachBack_48 fl_RX5_40 rfl rfl (vld_of (n := 1) rfl (by omega) (by omega)) ?_
          refine r_iload_n hC dX5_reachBack_51 rfl ?_
          refine r_iload_n hC dX5_reachBack_52 rfl ?_
          refine z_inv2 hM dX5_reachBack_53 vl_RX5_256 rfl rfl rfl (Nat.le_of_ble_eq_true rfl) (Nat.le_of_ble_eq_true rfl) ?_
          refine x_reaches (o := (σ 7 l 2)) (u := (fun j => σ 9 l (((σ 7 l 6) - w1) + j))) (n := ((σ 7 l 6) - ((σ 7 l 6) - w1)).toNat) (by omega) (by omega) r_ρ7 (fun hr_53 => ?_) (fun hr_53 => ?_)
          · rw [show ρ7 16 0 = σ 16 0 from funext fun y => t_ρ7 16 0 y (by decide), show ρ7 15 0 = σ 15 0 from funext fun y => t_ρ7 15 0 y (by decide)] at hr_53
            refine r_if_eq (tgt := 62) hC dX5_reachBack_56 rfl (fun h8 => by omega) (fun h8 => ?_)
            refine r_iload hC dX5_reachBack_59 rfl ?_
            refine y_iret hK rfl dX5_reachBack_61 ?_
            have hA : rbA σ l w b w1 := by
              exact ⟨fun q => absurd ⟨by unfold opV; omega, by omega, by omega⟩ q, fun _ => Or.inr ⟨by omega, hr_53, fun n n0 n1 => i0_18 n n0 (by omega)⟩⟩
            exact k _ _ hA (t_ρ7) (FRc.inF r_ρ7 (fun j h0 h1 => by rw [t_ρ7 15 0 j (by decide)]; exact hcl j h0 h1))
          · rw [show ρ7 16 0 = σ 16 0 from funext fun y => t_ρ7 16 0 y (by decide), show ρ7 15 0 = σ 15 0 from funext fun y => t_ρ7 15 0 y (by decide)] at hr_53
            refine r_if_eq (tgt := 62) hC dX5_reachBack_56 rfl (fun h9 => ?_) (fun h9 => by omega)
            refine r_iincE hC ((w1 + 1)) dX5_reachBack_62 rfl rfl (by omega) (by unfold inR; omega) ?_
            refine r_goto (tgt := 18) hC dX5_reachBack_65 rfl ?_
            exact ih18 ((w1 + 1)) ρ7 (by omega) (by intro n n0 n1; first | omega | (rcases (by omega : n < w1 ∨ n = w1) with z | z; exact i0_18 n n0 z; subst z; exact hr_53)) (by omega)  (t_ρ7) ((FRc.inF r_ρ7 (fun j h0 h1 => by rw [t_ρ7 15 0 j (by decide)]; exact hcl j h0 h1)))
    exact L18 124 (1) σ (by omega) (by intro n n0 n1; first | omega | (rcases (by omega : n < w1 ∨ n = w1) with z | z; exact i0_18 n n0 z; subst z; exact hr_53)) (by omega)  ((fun _ _ _ _ => rfl)) (hI)
  · refine r_astoreN hC dX5_reachBack_6 rfl ?_
    refine r_aloadN hC dX5_reachBack_8 rfl ?_
    refine r_ifnonnullN hC dX5_reachBack_10 ?_
    refine r_iconst hC dX5_reachBack_13 rfl ?_
    refine y_iret hK rfl dX5_reachBack_14 ?_
    have hA : rbA σ l w b (-1) := by
      exact ⟨fun _ => rfl, fun q => by unfold lwC opV at q; omega⟩
    exact k _ _ hA (fun _ _ _ _ => rfl) hI
theorem x_reachBack {eb : Bool} {d : Nat} {P : Option Vl → Mm → Prop} {σ : Mm} {l w b : Int} (hG : GI σ) (k : ∀ r : Int, rbA σ l w b r → P (some (vI r)) σ) : WT (true, false, eb) (d + 5) 78 [vR 2 0, vI l, vI w, vI b] σ P := WT_fold fun ρ e hI => x_reachBack_S hI (hG.fo e) (fun r ρ2 hA gq hI2 => ⟨hI2, σ, k r (by
    have hc : rbA ρ l w b r = rbA σ l w b r := by (delta rbA Fst rchV ptV lwC opV; simp only [e 7 (by decide), e 8 (by decide), e 9 (by decide), e 15 (by decide), e 16 (by decide)])
    rw [← hc]
    exact hA), fun c x y hc => (gq c x y hc).trans (by rw [e c hc])⟩)
theorem FRc.cg {ρ : Mm} {o : Int} {u v : Int → Int} {n : Nat} (h : FRc ρ o u n) (e : ∀ j : Int, 0 ≤ j → j < (n : Int) → v j = u j) : FRc ρ o v n := ⟨h.1, h.2.1, fun q => by rw [stp_c e]; exact h.2.2.1 q, fun k a b => by rw [cmN_c e]; exact h.2.2.2 k a b⟩
theorem x_joined_S {eb : Bool} {d : Nat} {P : Option Vl → Mm → Prop} {σ : Mm} {l o w : Int}  (hI : InF σ) (hG : GI σ)  (k : ∀ ρ : Mm, (∀ (c : Nat) (x y : Int), ¬ Fo c → ρ c x y = σ c x y) → InF ρ → P (some (vI (jnR σ l o w))) ρ) : WT (true, true, eb) (d + 5) 86 [vR 2 0, vI l, vI o, vI w] σ P := by
  refine WT_in fun K hK => ?_
  have hK : StpY (true, true, eb) cX5_joined RX5 (some .int) (WT (true, true, eb) (d + 4)) P K := hK
  have hM := hK.1
  have hC := hK.1.1
  show K 0 [some (vR 2 0), some (vI l), some (vI o), some (vI w), none, none, none] [] σ
  refine z_ok hM (fun hok => ?_)
  refine r_rngz hC (fun g0 => ?_)
  have r_l : -2147483648 ≤ l ∧ l ≤ 2147483647 := inR_le (g0 (vI l) (by simp))
  have r_o : -2147483648 ≤ o ∧ o ≤ 2147483647 := inR_le (g0 (vI o) (by simp))
  have r_w : -2147483648 ≤ w ∧ w ≤ 2147483647 := inR_le (g0 (vI w) (by simp))
  have hcl := hG.2.1.2.2.2.2.2.2.2
  have hrow := hG.2.1.2.2.1
  refine r_aload_n hC dX5_joined_0 rfl ?_
  refine r_iload_n hC dX5_joined_1 rfl ?_
  refine r_iload_n hC dX5_joined_2 rfl ?_
  refine z_inv2 hM dX5_joined_3 vl_RX5_248 rfl rfl rfl (Nat.le_of_ble_eq_true rfl) (Nat.le_of_ble_eq_true rfl) ?_
  refine x_laneWith (fun hl_3 => ?_) (fun hl_3 => ?_)
  · have h6_3 := hG.1.h7 (l := l) (by omega) (by omega)
    have hN_3 := numF_rng (σ 7 l 2)
    have hO_3 := (hG.2.1.2.2.2.1 l (by omega) (by omega)).2
    refine r_astore hC dX5_joined_6 rfl ?_
    refine r_aload_n hC dX5_joined_8 rfl ?_
    refine r_iload_n hC dX5_joined_9 rfl ?_
    refine z_inv1 hM dX5_joined_10 vl_RX5_123 rfl rfl rfl (Nat.le_of_ble_eq_true rfl) (Nat.le_of_ble_eq_true rfl) ?_
    refine x_openLane (fun hl_10 => ?_) (fun hl_10 => ?_)
    · have h6_10 := hG.1.h7 (l := o) (by omega) (by omega)
      have hN_10 := numF_rng (σ 7 o 2)
      have hO_10 := (hG.2.1.2.2.2.1 o (by omega) (by omega)).2
      refine r_astore hC dX5_joined_13 rfl ?_
      refine r_aload hC dX5_joined_15 rfl ?_
      refine r_ifnullR hC dX5_joined_17 ?_
      refine r_aload hC dX5_joined_20 rfl ?_
      refine r_ifnullR hC dX5_joined_22 ?_
      refine r_aload hC dX5_joined_25 rfl ?_
      refine z_getI (jz := 2) hM dX5_joined_27 fl_RX5_98 rfl rfl rfl (fun v1 h_v1 o_v1 t_v1 => ?_)
      have w_v1 := ((t_v1 (Or.inl (by first | exact trivial | exact tb7_ (by decide) | simp [Tb]))).trans (rfl)).symm
      clear t_v1
      subst w_v1
      have q_v1 : 0 ≤ (σ 7 l 2) ∧ (σ 7 l 2) ≤ 9 := o_v1.2.2 rfl
      refine r_aload hC dX5_joined_30 rfl ?_
      refine z_getI (jz := 2) hM dX5_joined_32 fl_RX5_98 rfl rfl rfl (fun v2 h_v2 o_v2 t_v2 => ?_)
      have w_v2 := ((t_v2 (Or.inl (by first | exact trivial | exact tb7_ (by decide) | simp [Tb]))).trans (rfl)).symm
      clear t_v2
      subst w_v2
      have q_v2 : 0 ≤ (σ 7 o 2) ∧ (σ 7 o 2) ≤ 9 := o_v2.2.2 rfl
      refine r_icmp_eq (tgt := 41) hC dX5_joined_35 rfl (fun h3 => ?_) (fun h3 => ?_)
      · refine r_aload_n hC dX5_joined_41 rfl ?_
        refine r_aload hC dX5_joined_42 rfl ?_
        refine r_iconst hC dX5_joined_44 rfl ?_
        refine r_aload hC dX5_joined_45 rfl ?_
        refine z_getI (jz := 6) hM dX5_joined_47 fl_RX5_154 rfl rfl rfl (fun v4 h_v4 o_v4 t_v4 => ?_)
        have w_v4 := ((t_v4 (Or.inl (by first | exact trivial | exact tb7_ (by decide) | simp [Tb]))).trans (rfl)).symm
        clear t_v4
        subst w_v4
        have q_v4 : 0 ≤ (σ 7 l 6) ∧ (σ 7 l 6) ≤ 121 := o_v4.1 rfl
        refine z_inv3 hM dX5_joined_50 vl_RX5_259 rfl rfl rfl (Nat.le_of_ble_eq_true rfl) (Nat.le_of_ble_eq_true rfl) ?_
        refine x_foldPart (i := l) (f := 0) (z := (σ 7 l 6)) (by omega) (by omega) (by omega) (fun ρ5 g_ρ5 r_ρ5 => ?_)
        have t_ρ5 : ∀ (c : Nat) (p q : Int), ¬ Fo c → ρ5 c p q = σ c p q := fun c p q hc => (g_ρ5 c p q (by omega)).trans ((fun _ _ _ _ => rfl) c p q hc)
        refine r_iconst hC dX5_joined_53 rfl ?_
        refine r_istore hC dX5_joined_54 rfl ?_
        have L56 : ∀ (n56 : Nat) (w6 : Int) (ρ7 : Mm), 0 ≤ w6 ∧ w6 ≤ 121 → ((w6) ≤ σ 7 o 6) → 121 - w6 < (n56 : Int) → (∀ (c : Nat) (p q : Int), ¬ Fo c → ρ7 c p q = σ c p q) → (FRc ρ7 (σ 7 l 2) (jnU σ l o) ((σ 7 l 6 + w6).toNat)) → K 56 [some (vR 2 0), some (vI l), some (vI o), some (vI w), some (vR 7 l), some (vR 7 o), some (vI w6)] [] ρ7 := by
          intro n56
          induction n56 with
          | zero => intro w6 ρ7 f_w6 i0_56 hm  m0_56 m1_56; omega
          | succ n56 ih56 =>
            intro w6 ρ7 f_w6 i0_56 hm56  m0_56 m1_56
            refine r_iload hC dX5_joined_56 rfl ?_
            refine r_aload hC dX5_joined_58 rfl ?_
            refine z_getI (jz := 6) hM dX5_joined_60 fl_RX5_154 rfl rfl rfl (fun v8 h_v8 o_v8 t_v8 => ?_)
            have w_v8 := ((t_v8 (Or.inl (by first | exact trivial | exact tb7_ (by decide) | simp [Tb]))).trans (m0_56 7 o 6 (by decide))).symm
            clear t_v8
            subst w_v8
            have q_v8 : 0 ≤ (σ 7 o 6) ∧ (σ 7 o 6) ≤ 121 := o_v8.1 rfl
            refine r_icmp_ge (tgt := 87) hC dX5_joined_63 rfl (fun h9 => ?_) (fun h9 => ?_)
            · refine r_aload_n hC dX5_joined_87 rfl ?_
              refine z_getR hM dX5_joined_88 fl_RX5_40 rfl rfl (vld_of (n := 1) rfl (by omega) (by omega)) ?_
              refine r_iload_n hC dX5_joined_91 rfl ?_
              refine z_inv1 hM dX5_joined_92 vl_RX5_273 rfl rfl rfl (Nat.le_of_ble_eq_true rfl) (Nat.le_of_ble_eq_true rfl) ?_
              refine x_number (n := (σ 7 l 6 + w6).toNat) (by omega) m1_56.1 m1_56.2.1 (by omega) m1_56 ?_
              rw [show ρ7 16 0 = σ 16 0 from funext fun y => m0_56 16 0 y (by decide), show ρ7 15 0 = σ 15 0 from funext fun y => m0_56 15 0 y (by decide)]
              refine y_iret hK rfl dX5_joined_95 ?_
              have hR : jnR σ l o w = (cm (σ 16 0) (σ 15 0) (σ 7 l 2) (jnU σ l o) (σ 7 l 6 + w6).toNat w) := by
                unfold jnR
                rw [if_pos (by unfold lkC2 lwC opV; omega), show (σ 7 l 6 + σ 7 o 6).toNat = (σ 7 l 6 + w6).toNat from by omega]
              rw [hR] at k
              exact k _ (m0_56) (FRc.inF m1_56 (fun j h0 h1 => by rw [m0_56 15 0 j (by decide)]; exact hcl j h0 h1))
            · refine r_aload_n hC dX5_joined_66 rfl ?_
              refine z_getR hM dX5_joined_67 fl_RX5_40 rfl rfl (vld_of (n := 1) rfl (by omega) (by omega)) ?_
              refine r_aload hC dX5_joined_70 rfl ?_
              refine z_getR hM dX5_joined_72 fl_RX5_176 rfl rfl (vld_of (n := 7) rfl (by omega) (by omega)) ?_
              refine r_iload hC dX5_joined_75 rfl ?_
              refine z_iald hM dX5_joined_77 rfl (by omega) (by omega) (fun v10 h_v10 o_v10 t_v10 => ?_)
              have w_v10 := ((t_v10 (Or.inl (by first | exact trivial | exact tb7_ (by decide) | simp [Tb]))).trans (m0_56 9 o w6 (by decide))).symm
              clear t_v10
              subst w_v10
              have q_v10 : -1000 ≤ (σ 9 o w6) ∧ (σ 9 o w6) ≤ 1000 := o_v10
              refine z_inv1 hM dX5_joined_78 vl_RX5_253 rfl rfl rfl (Nat.le_of_ble_eq_true rfl) (Nat.le_of_ble_eq_true rfl) ?_
              refine x_append2 (u := (jnU σ l o)) (n := (σ 7 l 6 + w6).toNat) (by show (σ 9 o w6) = jnU σ l o (((σ 7 l 6 + w6).toNat : Nat) : Int); unfold jnU; rw [if_neg (by omega)]; exact congrArg (σ 9 o) (by omega)) (by omega) (by omega) (by omega) (fun j h0 h1 => by unfold jnU; split; exact (hrow l j (by omega) (by omega) (by omega) (by omega)).2; exact (hrow o (j - σ 7 l 6) (by omega) (by omega) (by omega) (by omega)).2) m1_56 (fun j h0 h1 => by rw [m0_56 15 0 j (by decide)]; exact hcl j h0 h1) (fun ρ11 g_ρ11 r_ρ11 => ?_)
              have t_ρ11 : ∀ (c : Nat) (p q : Int), ¬ Fo c → ρ11 c p q = σ c p q := fun c p q hc => (g_ρ11 c p q (by omega)).trans (m0_56 c p q hc)
              refine r_iincE hC ((w6 + 1)) dX5_joined_81 rfl rfl (by omega) (by unfold inR; omega) ?_
              refine r_goto (tgt := 56) hC dX5_joined_84 rfl ?_
              exact ih56 ((w6 + 1)) ρ11 (by omega) (by omega) (by omega)  (t_ρ11) (by rw [show (((σ 7 l 6 + (w6 + 1) : Int)).toNat : Nat) = ((σ 7 l 6 + w6).toNat + 1) from by omega]; exact r_ρ11)
        exact L56 123 (0) ρ5 (by omega) (by omega) (by omega)  (t_ρ5) (by rw [show (σ 7 l 6 + 0).toNat = (σ 7 l 6 - 0).toNat from by omega]; exact r_ρ5.cg (fun j a b => by show jnU σ l o j = σ 9 l (0 + j); unfold jnU; rw [if_pos (by omega), Int.zero_add]))
      · refine r_ldc hC dX5_joined_38 co_RX5_175 rfl ?_
        refine y_iret hK rfl dX5_joined_40 ?_
        have hR : jnR σ l o w = (-2147483648) := by
          exact if_neg (by unfold lkC2 lwC opV; omega)
        rw [hR] at k
        exact k _ (fun _ _ _ _ => rfl) hI
    · refine r_astoreN hC dX5_joined_13 rfl ?_
      refine r_aload hC dX5_joined_15 rfl ?_
      refine r_ifnullR hC dX5_joined_17 ?_
      refine r_aloadN hC dX5_joined_20 rfl ?_
      refine r_ifnullN (tgt := 38) hC dX5_joined_22 rfl ?_
      refine r_ldc hC dX5_joined_38 co_RX5_175 rfl ?_
      refine y_iret hK rfl dX5_joined_40 ?_
      have hR : jnR σ l o w = (-2147483648) := by
        exact if_neg (by unfold lkC2 lwC opV; omega)
      rw [hR] at k
      exact k _ (fun _ _ _ _ => rfl) hI
  · refine r_astoreN hC dX5_joined_6 rfl ?_
    refine r_aload_n hC dX5_joined_8 rfl ?_
    refine r_iload_n hC dX5_joined_9 rfl ?_
    refine z_inv1 hM dX5_joined_10 vl_RX5_123 rfl rfl rfl (Nat.le_of_ble_eq_true rfl) (Nat.le_of_ble_eq_true rfl) ?_
    refine x_openLane (fun hl_10 => ?_) (fun hl_10 => ?_)
    · have h6_10 := hG.1.h7 (l := o) (by omega) (by omega)
      have hN_10 := numF_rng (σ 7 o 2)
      have hO_10 := (hG.2.1.2.2.2.1 o (by omega) (by omega)).2
      refine r_astore hC dX5_joined_13 rfl ?_
      refine r_aloadN hC dX5_joined_15 rfl ?_
      refine r_ifnullN (tgt := 38) hC dX5_joined_17 rfl ?_
      refine r_ldc hC dX5_joined_38 co_RX5_175 rfl ?_
      refine y_iret hK rfl dX5_joined_40 ?_
      have hR : jnR σ l o w = (-2147483648) := by
        exact if_neg (by unfold lkC2 lwC opV; omega)
      rw [hR] at k
      exact k _ (fun _ _ _ _ => rfl) hI
    · refine r_astoreN hC dX5_joined_13 rfl ?_
      refine r_aloadN hC dX5_joined_15 rfl ?_
      refine r_ifnullN (tgt := 38) hC dX5_joined_17 rfl ?_
      refine r_ldc hC dX5_joined_38 co_RX5_175 rfl ?_
      refine y_iret hK rfl dX5_joined_40 ?_
      have hR : jnR σ l o w = (-2147483648) := by
        exact if_neg (by unfold lkC2 lwC opV; omega)
      rw [hR] at k
      exact k _ (fun _ _ _ _ => rfl) hI
theorem x_joined {eb : Bool} {d : Nat} {P : Option Vl → Mm → Prop} {σ : Mm} {l o w : Int} (hG : GI σ) (k : P (some (vI (jnR σ l o w))) σ) : WT (true, false, eb) (d + 5) 86 [vR 2 0, vI l, vI o, vI w] σ P := WT_fold fun ρ e hI => x_joined_S hI (hG.fo e) (fun ρ2 gq hI2 => ⟨hI2, σ, by
    have hc : jnR ρ l o w = jnR σ l o w := by (delta jnR jnU lkC2 lwC opV; simp only [e 7 (by decide), e 8 (by decide), e 9 (by decide), e 15 (by decide), e 16 (by decide)])
    rw [hc]
    exact k, fun c x y hc => (gq c x y hc).trans (by rw [e c hc])⟩)
theorem x_comesToWithout_S {eb : Bool} {d : Nat} {P : Option Vl → Mm → Prop} {σ : Mm} {l x w : Int} (b_l : 0 ≤ l ∧ l ≤ 3) (b_x : 0 ≤ x ∧ x ≤ 119) (hI : InF σ) (hG : GI σ) (hx : x < σ 7 l 6)  (k : ∀ ρ : Mm, (∀ (c : Nat) (x y : Int), ¬ Fo c → ρ c x y = σ c x y) → InF ρ → P (some (vI (woV σ l x w))) ρ) : WT (true, true, eb) (d + 5) 133 [vR 2 0, vR 7 l, vI x, vI w] σ P := by
  refine WT_in fun K hK => ?_
  have hK : StpY (true, true, eb) cX5_comesToWithout RX5 (some .int) (WT (true, true, eb) (d + 4)) P K := hK
  have hM := hK.1
  have hC := hK.1.1
  show K 0 [some (vR 2 0), some (vR 7 l), some (vI x), some (vI w), none] [] σ
  refine z_ok hM (fun hok => ?_)
  refine r_rngz hC (fun g0 => ?_)
  have r_w : -2147483648 ≤ w ∧ w ≤ 2147483647 := inR_le (g0 (vI w) (by simp))
  have hcl := hG.2.1.2.2.2.2.2.2.2
  have hrow := hG.2.1.2.2.1
  have h6_0 := hG.1.h7 (l := l) (by omega) (by omega)
  have hO_0 := (hG.2.1.2.2.2.1 l (by omega) (by omega)).2
  refine r_aload_n hC dX5_comesToWithout_0 rfl ?_
  refine r_aload_n hC dX5_comesToWithout_1 rfl ?_
  refine r_iconst hC dX5_comesToWithout_2 rfl ?_
  refine r_iload_n hC dX5_comesToWithout_3 rfl ?_
  refine z_inv3 hM dX5_comesToWithout_4 vl_RX5_259 rfl rfl rfl (Nat.le_of_ble_eq_true rfl) (Nat.le_of_ble_eq_true rfl) ?_
  refine x_foldPart (i := l) (f := 0) (z := x) (by omega) (by omega) (by omega) (fun ρ1 g_ρ1 r_ρ1 => ?_)
  have t_ρ1 : ∀ (c : Nat) (p q : Int), ¬ Fo c → ρ1 c p q = σ c p q := fun c p q hc => (g_ρ1 c p q (by omega)).trans ((fun _ _ _ _ => rfl) c p q hc)
  refine r_iload_n hC dX5_comesToWithout_7 rfl ?_
  refine r_iconst hC dX5_comesToWithout_8 rfl ?_
  refine r_iaddE hC ((x + 1)) dX5_comesToWithout_9 (by omega) (by unfold inR; omega) ?_
  refine r_istore hC dX5_comesToWithout_10 rfl ?_
  have L12 : ∀ (n12 : Nat) (w2 : Int) (ρ3 : Mm), 1 ≤ w2 ∧ w2 ≤ 121 → ((w2) ≤ σ 7 l 6) → (x + 1 ≤ (w2)) → 121 - w2 < (n12 : Int) → (∀ (c : Nat) (p q : Int), ¬ Fo c → ρ3 c p q = σ c p q) → (FRc ρ3 (σ 7 l 2) (woU σ l x) ((w2 - 1).toNat)) → K 12 [some (vR 2 0), some (vR 7 l), some (vI x), some (vI w), some (vI w2)] [] ρ3 := by
    intro n12
    induction n12 with
    | zero => intro w2 ρ3 f_w2 i0_12 i1_12 hm  m0_12 m1_12; omega
    | succ n12 ih12 =>
      intro w2 ρ3 f_w2 i0_12 i1_12 hm12  m0_12 m1_12
      refine r_iload hC dX5_comesToWithout_12 rfl ?_
      refine r_aload_n hC dX5_comesToWithout_14 rfl ?_
      refine z_getI (jz := 6) hM dX5_comesToWithout_15 fl_RX5_154 rfl rfl rfl (fun v4 h_v4 o_v4 t_v4 => ?_)
      have w_v4 := ((t_v4 (Or.inl (by first | exact trivial | exact tb7_ (by decide) | simp [Tb]))).trans (m0_12 7 l 6 (by decide))).symm
      clear t_v4
      subst w_v4
      have q_v4 : 0 ≤ (σ 7 l 6) ∧ (σ 7 l 6) ≤ 121 := o_v4.1 rfl
      refine r_icmp_ge (tgt := 41) hC dX5_comesToWithout_18 rfl (fun h5 => ?_) (fun h5 => ?_)
      · refine r_aload_n hC dX5_comesToWithout_41 rfl ?_
        refine z_getR hM dX5_comesToWithout_42 fl_RX5_40 rfl rfl (vld_of (n := 1) rfl (by omega) (by omega)) ?_
        refine r_iload_n hC dX5_comesToWithout_45 rfl ?_
        refine z_inv1 hM dX5_comesToWithout_46 vl_RX5_273 rfl rfl rfl (Nat.le_of_ble_eq_true rfl) (Nat.le_of_ble_eq_true rfl) ?_
        refine x_number (n := (w2 - 1).toNat) (by omega) m1_12.1 m1_12.2.1 (by omega) m1_12 ?_
        rw [show ρ3 16 0 = σ 16 0 from funext fun y => m0_12 16 0 y (by decide), show ρ3 15 0 = σ 15 0 from funext fun y => m0_12 15 0 y (by decide)]
        refine y_iret hK rfl dX5_comesToWithout_49 ?_
        have hR : woV σ l x w = (cm (σ 16 0) (σ 15 0) (σ 7 l 2) (woU σ l x) (w2 - 1).toNat w) := by
          unfold woV
          rw [show (σ 7 l 6 - 1).toNat = (w2 - 1).toNat from by omega]
        rw [hR] at k
        exact k _ (m0_12) (FRc.inF m1_12 (fun j h0 h1 => by rw [m0_12 15 0 j (by decide)]; exact hcl j h0 h1))
      · refine r_aload_n hC dX5_comesToWithout_21 rfl ?_
        refine z_getR hM dX5_comesToWithout_22 fl_RX5_40 rfl rfl (vld_of (n := 1) rfl (by omega) (by omega)) ?_
        refine r_aload_n hC dX5_comesToWithout_25 rfl ?_
        refine z_getR hM dX5_comesToWithout_26 fl_RX5_176 rfl rfl (vld_of (n := 7) rfl (by omega) (by omega)) ?_
        refine r_iload hC dX5_comesToWithout_29 rfl ?_
        refine z_iald hM dX5_comesToWithout_31 rfl (by omega) (by omega) (fun v6 h_v6 o_v6 t_v6 => ?_)
        have w_v6 := ((t_v6 (Or.inl (by first | exact trivial | exact tb7_ (by decide) | simp [Tb]))).trans (m0_12 9 l w2 (by decide))).symm
        clear t_v6
        subst w_v6
        have q_v6 : -1000 ≤ (σ 9 l w2) ∧ (σ 9 l w2) ≤ 1000 := o_v6
        refine z_inv1 hM dX5_comesToWithout_32 vl_RX5_253 rfl rfl rfl (Nat.le_of_ble_eq_true rfl) (Nat.le_of_ble_eq_true rfl) ?_
        refine x_append2 (u := (woU σ l x)) (n := (w2 - 1).toNat) (by show (σ 9 l w2) = woU σ l x (((w2 - 1).toNat : Nat) : Int); unfold woU; rw [if_neg (by omega)]; exact congrArg (σ 9 l) (by omega)) (by omega) (by omega) (by omega) (fun j h0 h1 => by unfold woU; split; exact (hrow l j (by omega) (by omega) (by omega) (by omega)).2; exact (hrow l (j + 1) (by omega) (by omega) (by omega) (by omega)).2) m1_12 (fun j h0 h1 => by rw [m0_12 15 0 j (by decide)]; exact hcl j h0 h1) (fun ρ7 g_ρ7 r_ρ7 => ?_)
        have t_ρ7 : ∀ (c : Nat) (p q : Int), ¬ Fo c → ρ7 c p q = σ c p q := fun c p q hc => (g_ρ7 c p q (by omega)).trans (m0_12 c p q hc)
        refine r_iincE hC ((w2 + 1)) dX5_comesToWithout_35 rfl rfl (by omega) (by unfold inR; omega) ?_
        refine r_goto (tgt := 12) hC dX5_comesToWithout_38 rfl ?_
        exact ih12 ((w2 + 1)) ρ7 (by omega) (by omega) (by omega) (by omega)  (t_ρ7) (by rw [show ((((w2 + 1) - 1 : Int)).toNat : Nat) = ((w2 - 1).toNat + 1) from by omega]; exact r_ρ7)
  exact L12 123 ((x + 1)) ρ1 (by omega) (by omega) (by omega) (by omega)  (t_ρ1) (by rw [show (x + 1 - 1).toNat = (x - 0).toNat from by omega]; exact r_ρ1.cg (fun j a b => by show woU σ l x j = σ 9 l (0 + j); unfold woU; rw [if_pos (by omega), Int.zero_add]))
theorem x_comesToWithout {eb : Bool} {d : Nat} {P : Option Vl → Mm → Prop} {σ : Mm} {x w l : Int} (b_l : 0 ≤ l ∧ l ≤ 3) (b_x : 0 ≤ x ∧ x ≤ 119) (hx : x < σ 7 l 6) (hG : GI σ) (k : P (some (vI (woV σ l x w))) σ) : WT (true, false, eb) (d + 5) 133 [vR 2 0, vR 7 l, vI x, vI w] σ P := WT_fold fun ρ e hI => x_comesToWithout_S b_l b_x hI (hG.fo e) (by rw [e 7 (by decide)]; exact hx) (fun ρ2 gq hI2 => ⟨hI2, σ, by
    have hc : woV ρ l x w = woV σ l x w := by (delta woV woU; simp only [e 7 (by decide), e 8 (by decide), e 9 (by decide), e 15 (by decide), e 16 (by decide)])
    rw [hc]
    exact k, fun c x y hc => (gq c x y hc).trans (by rw [e c hc])⟩)
-- B: the class: what is asked, III
theorem x_peakAt {eb : Bool} {d : Nat} {P : Option Vl → Mm → Prop} {σ : Mm} {l m w : Int}  (hG : GI σ)  (k : ∀ r : Int, paA σ l m w r → P (some (vI r)) σ) : WT (true, false, eb) (d + 6) 80 [vR 2 0, vI l, vI m, vI w] σ P := by
  refine WT_in fun K hK => ?_
  have hK : StpY (true, false, eb) cX5_peakAt RX5 (some .int) (WT (true, false, eb) (d + 5)) P K := hK
  have hM := hK.1
  have hC := hK.1.1
  show K 0 [some (vR 2 0), some (vI l), some (vI m), some (vI w), none, none, none, none, none] [] σ
  refine r_rngz hC (fun g0 => ?_)
  have r_l : -2147483648 ≤ l ∧ l ≤ 2147483647 := inR_le (g0 (vI l) (by simp))
  have r_m : -2147483648 ≤ m ∧ m ≤ 2147483647 := inR_le (g0 (vI m) (by simp))
  have r_w : -2147483648 ≤ w ∧ w ≤ 2147483647 := inR_le (g0 (vI w) (by simp))
  have hcl := hG.2.1.2.2.2.2.2.2.2
  have hrow := hG.2.1.2.2.1
  refine r_aload_n hC dX5_peakAt_0 rfl ?_
  refine r_iload_n hC dX5_peakAt_1 rfl ?_
  refine r_iload_n hC dX5_peakAt_2 rfl ?_
  refine z_inv2 hM dX5_peakAt_3 vl_RX5_248 rfl rfl rfl (Nat.le_of_ble_eq_true rfl) (Nat.le_of_ble_eq_true rfl) ?_
  refine x_laneWith (fun hl_3 => ?_) (fun hl_3 => ?_)
  · have h6_3 := hG.1.h7 (l := l) (by omega) (by omega)
    have hN_3 := numF_rng (σ 7 l 2)
    have hO_3 := (hG.2.1.2.2.2.1 l (by omega) (by omega)).2
    refine r_astore hC dX5_peakAt_6 rfl ?_
    refine r_aload hC dX5_peakAt_8 rfl ?_
    refine r_ifnullR hC dX5_peakAt_10 ?_
    refine r_iload_n hC dX5_peakAt_13 rfl ?_
    refine r_iconst hC dX5_peakAt_14 rfl ?_
    refine r_aload hC dX5_peakAt_15 rfl ?_
    refine z_getI (jz := 6) hM dX5_peakAt_17 fl_RX5_154 rfl rfl rfl (fun v1 h_v1 o_v1 t_v1 => ?_)
    have w_v1 := ((t_v1 (Or.inl (by first | exact trivial | exact tb7_ (by decide) | simp [Tb]))).trans (rfl)).symm
    clear t_v1
    subst w_v1
    have q_v1 : 0 ≤ (σ 7 l 6) ∧ (σ 7 l 6) ≤ 121 := o_v1.1 rfl
    refine z_ins3 hM dX5_peakAt_20 tl_RX5_59 rfl (Nat.le_of_ble_eq_true rfl) (Nat.le_of_ble_eq_true rfl) ?_
    refine s_within (fun h3 => ?_) (fun h3 => ?_)
    · refine r_if_ne (tgt := 28) hC dX5_peakAt_23 rfl (fun h4 => ?_) (fun h4 => by omega)
      refine r_iconst hC dX5_peakAt_28 rfl ?_
      refine r_istore hC dX5_peakAt_29 rfl ?_
      refine r_ldc hC dX5_peakAt_31 co_RX5_175 rfl ?_
      refine r_istore hC dX5_peakAt_33 rfl ?_
      refine r_iconst hC dX5_peakAt_35 rfl ?_
      refine r_istore hC dX5_peakAt_36 rfl ?_
      have L38 : ∀ (n38 : Nat) (w5 w6 w7 : Int), 0 ≤ w5 ∧ w5 ≤ 121 → -2147483648 ≤ w6 ∧ w6 ≤ 2147483647 → 0 ≤ w7 ∧ w7 ≤ 120 → (BestQ (fun i => ptV σ l i (i + m) w) (w5) (w7) (w6)) → ((w5) + m ≤ σ 7 l 6 + 1) → 121 - w5 < (n38 : Int) → K 38 [some (vR 2 0), some (vI l), some (vI m), some (vI w), some (vR 7 l), some (vI w7), some (vI w6), some (vI w5), none] [] σ := by
        intro n38
        induction n38 with
        | zero => intro w5 w6 w7  f_w5 f_w6 f_w7 i0_38 i1_38 hm  ; omega
        | succ n38 ih38 =>
          intro w5 w6 w7  f_w5 f_w6 f_w7 i0_38 i1_38 hm38  
          refine r_iload hC dX5_peakAt_38 rfl ?_
          refine r_iload_n hC dX5_peakAt_40 rfl ?_
          refine r_iaddE hC ((w5 + m)) dX5_peakAt_41 (by omega) (by unfold inR; omega) ?_
          refine r_aload hC dX5_peakAt_42 rfl ?_
          refine z_getI (jz := 6) hM dX5_peakAt_44 fl_RX5_154 rfl rfl rfl (fun v8 h_v8 o_v8 t_v8 => ?_)
          have w_v8 := ((t_v8 (Or.inl (by first | exact trivial | exact tb7_ (by decide) | simp [Tb]))).trans (rfl)).symm
          clear t_v8
          subst w_v8
          have q_v8 : 0 ≤ (σ 7 l 6) ∧ (σ 7 l 6) ≤ 121 := o_v8.1 rfl
          refine r_icmp_gt (tgt := 86) hC dX5_peakAt_47 rfl (fun h9 => ?_) (fun h9 => ?_)
          · refine r_iload hC dX5_peakAt_86 rfl ?_
            refine y_iret hK rfl dX5_peakAt_88 ?_
            have hA : paA σ l m w w7 := by
              exact ⟨fun z => absurd (by unfold pkC lwC opV; omega) z, fun _ => BestQ.done (n := w5) i0_38 (by omega) (by omega)⟩
            exact k _ hA
          · refine r_aload_n hC dX5_peakAt_50 rfl ?_
            refine r_aload hC dX5_peakAt_51 rfl ?_
            refine r_iload hC dX5_peakAt_53 rfl ?_
            refine r_iload hC dX5_peakAt_55 rfl ?_
            refine r_iload_n hC dX5_peakAt_57 rfl ?_
            refine r_iaddE hC ((w5 + m)) dX5_peakAt_58 (by omega) (by unfold inR; omega) ?_
            refine r_iload_n hC dX5_peakAt_59 rfl ?_
            refine z_inv4 hM dX5_peakAt_60 vl_RX5_227 rfl rfl rfl (Nat.le_of_ble_eq_true rfl) (Nat.le_of_ble_eq_true rfl) ?_
            refine x_comesTo (by omega) (by omega) (by omega) ?_
            refine r_istore hC dX5_peakAt_63 rfl ?_
            refine r_rngz hC (fun g1 => ?_)
            have r8_ : -2147483648 ≤ (cm (σ 16 0) (σ 15 0) (σ 7 l 2) (fun j => σ 9 l (w5 + j)) ((w5 + m) - w5).toNat w) ∧ (cm (σ 16 0) (σ 15 0) (σ 7 l 2) (fun j => σ 9 l (w5 + j)) ((w5 + m) - w5).toNat w) ≤ 2147483647 := inR_le (g1 (vI (cm (σ 16 0) (σ 15 0) (σ 7 l 2) (fun j => σ 9 l (w5 + j)) ((w5 + m) - w5).toNat w)) (by simp))
            refine r_iload hC dX5_peakAt_65 rfl ?_
            refine r_iload hC dX5_peakAt_67 rfl ?_
            refine r_icmp_le (tgt := 80) hC dX5_peakAt_69 rfl (fun h10 => ?_) (fun h10 => ?_)
            · refine r_iincE hC ((w5 + 1)) dX5_peakAt_80 rfl rfl (by omega) (by unfold inR; omega) ?_
              refine r_goto (tgt := 38) hC dX5_peakAt_83 rfl ?_
              refine r_forget hC (ls2 := [some (vR 2 0), some (vI l), some (vI m), some (vI w), some (vR 7 l), some (vI w7), some (vI w6), some (vI (w5 + 1)), none]) (lsub_some (lsub_some (lsub_some (lsub_some (lsub_some (lsub_some (lsub_some (lsub_some (lsub_none lsub_nil))))))))) ?_
              exact ih38 ((w5 + 1)) (w6) (w7)  (by omega) (by omega) (by omega) (by first | exact Or.inl ⟨rfl, rfl, rfl⟩ | exact BestQ.no i0_38 (by show ptV σ l w5 (w5 + m) w ≤ _; unfold ptV; omega) (by show (-2147483648 : Int) ≤ ptV σ l w5 (w5 + m) w; unfold ptV; omega) | exact BestQ.yes i0_38 (by show _ < ptV σ l w5 (w5 + m) w; unfold ptV; omega)) (by omega) (by omega)  
            · refine r_iload hC dX5_peakAt_72 rfl ?_
              refine r_istore hC dX5_peakAt_74 rfl ?_
              refine r_iload hC dX5_peakAt_76 rfl ?_
              refine r_istore hC dX5_peakAt_78 rfl ?_
              refine r_iincE hC ((w5 + 1)) dX5_peakAt_80 rfl rfl (by omega) (by unfold inR; omega) ?_
              show K _ [_, _, _, _, _, _, _, _, _] _ _
              refine r_goto (tgt := 38) hC dX5_peakAt_83 rfl ?_
              refine r_forget hC (ls2 := [some (vR 2 0), some (vI l), some (vI m), some (vI w), some (vR 7 l), some (vI w5), some (vI (cm (σ 16 0) (σ 15 0) (σ 7 l 2) (fun j => σ 9 l (w5 + j)) ((w5 + m) - w5).toNat w)), some (vI (w5 + 1)), none]) (lsub_some (lsub_some (lsub_some (lsub_some (lsub_some (lsub_some (lsub_some (lsub_some (lsub_none lsub_nil))))))))) ?_
              exact ih38 ((w5 + 1)) ((cm (σ 16 0) (σ 15 0) (σ 7 l 2) (fun j => σ 9 l (w5 + j)) ((w5 + m) - w5).toNat w)) (w5)  (by omega) (by omega) (by omega) (by first | exact Or.inl ⟨rfl, rfl, rfl⟩ | exact BestQ.no i0_38 (by show ptV σ l w5 (w5 + m) w ≤ _; unfold ptV; omega) (by show (-2147483648 : Int) ≤ ptV σ l w5 (w5 + m) w; unfold ptV; omega) | exact BestQ.yes i0_38 (by show _ < ptV σ l w5 (w5 + m) w; unfold ptV; omega)) (by omega) (by omega)  
      exact L38 123 (0) ((-2147483648)) (0)  (by omega) (by omega) (by omega) (by first | exact Or.inl ⟨rfl, rfl, rfl⟩ | exact BestQ.no i0_38 (by show ptV σ l w5 (w5 + m) w ≤ _; unfold ptV; omega) (by show (-2147483648 : Int) ≤ ptV σ l w5 (w5 + m) w; unfold ptV; omega) | exact BestQ.yes i0_38 (by show _ < ptV σ l w5 (w5 + m) w; unfold ptV; omega)) (by omega) (by omega)  
    · refine r_if_ne (tgt := 28) hC dX5_peakAt_23 rfl (fun h11 => by omega) (fun h11 => ?_)
      refine r_iconst hC dX5_peakAt_26 rfl ?_
      refine y_iret hK rfl dX5_peakAt_27 ?_
      have hA : paA σ l m w (-1) := by
        exact ⟨fun _ => rfl, fun q => by unfold pkC lwC opV at q; omega⟩
      exact k _ hA
  · refine r_astoreN hC dX5_peakAt_6 rfl ?_
    refine r_aloadN hC dX5_peakAt_8 rfl ?_
    refine r_ifnullN (tgt := 26) hC dX5_peakAt_10 rfl ?_
    refine r_iconst hC dX5_peakAt_26 rfl ?_
    refine y_iret hK rfl dX5_peakAt_27 ?_
    have hA : paA σ l m w (-1) := by
      exact ⟨fun _ => rfl, fun q => by unfold pkC lwC opV at q; omega⟩
    exact k _ hA
theorem x_peak {eb : Bool} {d : Nat} {P : Option Vl → Mm → Prop} {σ : Mm} {l m w : Int}  (hG : GI σ)  (k : ∀ r : Int, pkA σ l m w r → P (some (vI r)) σ) : WT (true, false, eb) (d + 7) 79 [vR 2 0, vI l, vI m, vI w] σ P := by
  refine WT_in fun K hK => ?_
  have hK : StpY (true, false, eb) cX5_peak RX5 (some .int) (WT (true, false, eb) (d + 6)) P K := hK
  have hM := hK.1
  have hC := hK.1.1
  show K 0 [some (vR 2 0), some (vI l), some (vI m), some (vI w), none] [] σ
  refine r_rngz hC (fun g0 => ?_)
  have r_l : -2147483648 ≤ l ∧ l ≤ 2147483647 := inR_le (g0 (vI l) (by simp))
  have r_m : -2147483648 ≤ m ∧ m ≤ 2147483647 := inR_le (g0 (vI m) (by simp))
  have r_w : -2147483648 ≤ w ∧ w ≤ 2147483647 := inR_le (g0 (vI w) (by simp))
  have hcl := hG.2.1.2.2.2.2.2.2.2
  have hrow := hG.2.1.2.2.1
  refine r_aload_n hC dX5_peak_0 rfl ?_
  refine r_iload_n hC dX5_peak_1 rfl ?_
  refine r_iload_n hC dX5_peak_2 rfl ?_
  refine r_iload_n hC dX5_peak_3 rfl ?_
  refine z_inv3 hM dX5_peak_4 vl_RX5_262 rfl rfl rfl (Nat.le_of_ble_eq_true rfl) (Nat.le_of_ble_eq_true rfl) ?_
  refine x_peakAt hG (fun a1 hA_a1 => ?_)
  have hB : a1 = -1 ∨ ((opV σ l ∧ 0 ≤ w ∧ w < numF (σ 7 l 2)) ∧ (1 ≤ m ∧ m ≤ σ 7 l 6) ∧ 0 ≤ a1 ∧ a1 ≤ σ 7 l 6 - m) := by
    by_cases c : pkC σ l m w
    · exact Or.inr ⟨c.1, c.2, (hA_a1.2 c).1⟩
    · exact Or.inl (hA_a1.1 c)
  unfold opV at hB
  have n_b := numF_rng (σ 7 l 2)
  have h6b : 0 ≤ l → l ≤ 3 → 0 ≤ σ 7 l 6 ∧ σ 7 l 6 ≤ 120 := fun a b => hG.1.h7 (l := l) a (by omega)
  have hrg : -1 ≤ a1 ∧ a1 ≤ 120 := by omega
  refine r_istore hC dX5_peak_7 rfl ?_
  refine r_iload hC dX5_peak_9 rfl ?_
  refine r_iconst hC dX5_peak_11 rfl ?_
  refine r_icmp_ne (tgt := 20) hC dX5_peak_12 rfl (fun h2 => ?_) (fun h2 => ?_)
  · refine r_aload_n hC dX5_peak_20 rfl ?_
    refine r_aload_n hC dX5_peak_21 rfl ?_
    refine z_getR hM dX5_peak_22 fl_RX5_13 rfl rfl (vld_of (n := 1) rfl (by omega) (by omega)) ?_
    refine r_iload_n hC dX5_peak_25 rfl ?_
    have hl3 : 0 ≤ l ∧ l ≤ 3 := by omega
    have hm120 : 1 ≤ m ∧ m ≤ 120 := by have := h6b (by omega) (by omega); omega
    refine z_aald hM dX5_peak_26 rfl (by decide) (by omega) (by omega) (vld_of (n := 7) rfl (by omega) (by omega)) ?_
    refine r_iload hC dX5_peak_27 rfl ?_
    refine r_iload hC dX5_peak_29 rfl ?_
    refine r_iload_n hC dX5_peak_31 rfl ?_
    refine r_iaddE hC ((a1 + m)) dX5_peak_32 (by omega) (by unfold inR; omega) ?_
    refine r_iload_n hC dX5_peak_33 rfl ?_
    refine z_inv4 hM dX5_peak_34 vl_RX5_227 rfl rfl rfl (Nat.le_of_ble_eq_true rfl) (Nat.le_of_ble_eq_true rfl) ?_
    refine x_comesTo (by omega) (by omega) (by omega) ?_
    refine y_iret hK rfl dX5_peak_37 ?_
    have hA : pkA σ l m w (cm (σ 16 0) (σ 15 0) (σ 7 l 2) (fun j => σ 9 l (a1 + j)) ((a1 + m) - a1).toNat w) := by
      refine ⟨a1, hA_a1, ?_⟩
      first | (rw [if_pos (by omega)]; done) | (rw [if_neg (by omega)]; rfl) | (rw [if_neg (by omega)])
    exact k _ hA
  · refine r_ldc hC dX5_peak_15 co_RX5_175 rfl ?_
    refine r_goto (tgt := 37) hC dX5_peak_17 rfl ?_
    refine y_iret hK rfl dX5_peak_37 ?_
    have hA : pkA σ l m w (-2147483648) := by
      refine ⟨a1, hA_a1, ?_⟩
      first | (rw [if_pos (by omega)]; done) | (rw [if_neg (by omega)]; rfl) | (rw [if_neg (by omega)])
    exact k _ hA
theorem x_spare {eb : Bool} {d : Nat} {P : Option Vl → Mm → Prop} {σ : Mm} {l w : Int}  (hG : GI σ)  (k : ∀ r : Int, spA σ l w r → P (some (vI r)) σ) : WT (true, false, eb) (d + 6) 82 [vR 2 0, vI l, vI w] σ P := by
  refine WT_in fun K hK => ?_
  have hK : StpY (true, false, eb) cX5_spare RX5 (some .int) (WT (true, false, eb) (d + 5)) P K := hK
  have hM := hK.1
  have hC := hK.1.1
  show K 0 [some (vR 2 0), some (vI l), some (vI w), none, none, none, none, none] [] σ
  refine r_rngz hC (fun g0 => ?_)
  have r_l : -2147483648 ≤ l ∧ l ≤ 2147483647 := inR_le (g0 (vI l) (by simp))
  have r_w : -2147483648 ≤ w ∧ w ≤ 2147483647 := inR_le (g0 (vI w) (by simp))
  have hcl := hG.2.1.2.2.2.2.2.2.2
  have hrow := hG.2.1.2.2.1
  refine r_aload_n hC dX5_spare_0 rfl ?_
  refine r_iload_n hC dX5_spare_1 rfl ?_
  refine r_iload_n hC dX5_spare_2 rfl ?_
  refine z_inv2 hM dX5_spare_3 vl_RX5_248 rfl rfl rfl (Nat.le_of_ble_eq_true rfl) (Nat.le_of_ble_eq_true rfl) ?_
  refine x_laneWith (fun hl_3 => ?_) (fun hl_3 => ?_)
  · have h6_3 := hG.1.h7 (l := l) (by omega) (by omega)
    have hN_3 := numF_rng (σ 7 l 2)
    have hO_3 := (hG.2.1.2.2.2.1 l (by omega) (by omega)).2
    refine r_astore_n hC dX5_spare_6 rfl ?_
    refine r_aload_n hC dX5_spare_7 rfl ?_
    refine r_ifnullR hC dX5_spare_8 ?_
    refine r_aload_n hC dX5_spare_11 rfl ?_
    refine z_getI (jz := 6) hM dX5_spare_12 fl_RX5_154 rfl rfl rfl (fun v1 h_v1 o_v1 t_v1 => ?_)
    have w_v1 := ((t_v1 (Or.inl (by first | exact trivial | exact tb7_ (by decide) | simp [Tb]))).trans (rfl)).symm
    clear t_v1
    subst w_v1
    have q_v1 : 0 ≤ (σ 7 l 6) ∧ (σ 7 l 6) ≤ 121 := o_v1.1 rfl
    refine r_iconst hC dX5_spare_15 rfl ?_
    refine r_icmp_ge (tgt := 21) hC dX5_spare_16 rfl (fun h2 => ?_) (fun h2 => ?_)
    · refine r_iconst hC dX5_spare_21 rfl ?_
      refine r_istore hC dX5_spare_22 rfl ?_
      refine r_ldc hC dX5_spare_24 co_RX5_175 rfl ?_
      refine r_istore hC dX5_spare_26 rfl ?_
      refine r_iconst hC dX5_spare_28 rfl ?_
      refine r_istore hC dX5_spare_29 rfl ?_
      have L31 : ∀ (n31 : Nat) (w3 w4 w5 : Int), 0 ≤ w3 ∧ w3 ≤ 121 → -2147483648 ≤ w4 ∧ w4 ≤ 2147483647 → 0 ≤ w5 ∧ w5 ≤ 120 → (BestQ (fun i => woV σ l i w) (w3) (w5) (w4)) → ((w3) ≤ σ 7 l 6) → 121 - w3 < (n31 : Int) → K 31 [some (vR 2 0), some (vI l), some (vI w), some (vR 7 l), some (vI w5), some (vI w4), some (vI w3), none] [] σ := by
        intro n31
        induction n31 with
        | zero => intro w3 w4 w5  f_w3 f_w4 f_w5 i0_31 i1_31 hm  ; omega
        | succ n31 ih31 =>
          intro w3 w4 w5  f_w3 f_w4 f_w5 i0_31 i1_31 hm31  
          refine r_iload hC dX5_spare_31 rfl ?_
          refine r_aload_n hC dX5_spare_33 rfl ?_
          refine z_getI (jz := 6) hM dX5_spare_34 fl_RX5_154 rfl rfl rfl (fun v6 h_v6 o_v6 t_v6 => ?_)
          have w_v6 := ((t_v6 (Or.inl (by first | exact trivial | exact tb7_ (by decide) | simp [Tb]))).trans (rfl)).symm
          clear t_v6
          subst w_v6
          have q_v6 : 0 ≤ (σ 7 l 6) ∧ (σ 7 l 6) ≤ 121 := o_v6.1 rfl
          refine r_icmp_ge (tgt := 71) hC dX5_spare_37 rfl (fun h7 => ?_) (fun h7 => ?_)
          · refine r_iload hC dX5_spare_71 rfl ?_
            refine y_iret hK rfl dX5_spare_73 ?_
            have hA : spA σ l w w5 := by
              exact ⟨fun z => absurd (by unfold spC lwC opV; omega) z, fun _ => BestQ.done (n := w3) i0_31 (by omega) (by omega)⟩
            exact k _ hA
          · refine r_aload_n hC dX5_spare_40 rfl ?_
            refine r_aload_n hC dX5_spare_41 rfl ?_
            refine r_iload hC dX5_spare_42 rfl ?_
            refine r_iload_n hC dX5_spare_44 rfl ?_
            refine z_inv3 hM dX5_spare_45 vl_RX5_269 rfl rfl rfl (Nat.le_of_ble_eq_true rfl) (Nat.le_of_ble_eq_true rfl) ?_
            refine x_comesToWithout (by omega) (by omega) (by omega) hG ?_
            refine r_istore hC dX5_spare_48 rfl ?_
            refine r_rngz hC (fun g1 => ?_)
            have r8_ : -2147483648 ≤ (woV σ l w3 w) ∧ (woV σ l w3 w) ≤ 2147483647 := inR_le (g1 (vI (woV σ l w3 w)) (by simp))
            refine r_iload hC dX5_spare_50 rfl ?_
            refine r_iload hC dX5_spare_52 rfl ?_
            refine r_icmp_le (tgt := 65) hC dX5_spare_54 rfl (fun h8 => ?_) (fun h8 => ?_)
            · refine r_iincE hC ((w3 + 1)) dX5_spare_65 rfl rfl (by omega) (by unfold inR; omega) ?_
              refine r_goto (tgt := 31) hC dX5_spare_68 rfl ?_
              refine r_forget hC (ls2 := [some (vR 2 0), some (vI l), some (vI w), some (vR 7 l), some (vI w5), some (vI w4), some (vI (w3 + 1)), none]) (lsub_some (lsub_some (lsub_some (lsub_some (lsub_some (lsub_some (lsub_some (lsub_none lsub_nil)))))))) ?_
              exact ih31 ((w3 + 1)) (w4) (w5)  (by omega) (by omega) (by omega) (by first | exact Or.inl ⟨rfl, rfl, rfl⟩ | exact BestQ.no i0_31 (by show woV σ l w3 w ≤ _; omega) (by show (-2147483648 : Int) ≤ woV σ l w3 w; omega) | exact BestQ.yes i0_31 (by show _ < woV σ l w3 w; omega)) (by omega) (by omega)  
            · refine r_iload hC dX5_spare_57 rfl ?_
              refine r_istore hC dX5_spare_59 rfl ?_
              refine r_iload hC dX5_spare_61 rfl ?_
              refine r_istore hC dX5_spare_63 rfl ?_
              refine r_iincE hC ((w3 + 1)) dX5_spare_65 rfl rfl (by omega) (by unfold inR; omega) ?_
              show K _ [_, _, _, _, _, _, _, _] _ _
              refine r_goto (tgt := 31) hC dX5_spare_68 rfl ?_
              refine r_forget hC (ls2 := [some (vR 2 0), some (vI l), some (vI w), some (vR 7 l), some (vI w3), some (vI (woV σ l w3 w)), some (vI (w3 + 1)), none]) (lsub_some (lsub_some (lsub_some (lsub_some (lsub_some (lsub_some (lsub_some (lsub_none lsub_nil)))))))) ?_
              exact ih31 ((w3 + 1)) ((woV σ l w3 w)) (w3)  (by omega) (by omega) (by omega) (by first | exact Or.inl ⟨rfl, rfl, rfl⟩ | exact BestQ.no i0_31 (by show woV σ l w3 w ≤ _; omega) (by show (-2147483648 : Int) ≤ woV σ l w3 w; omega) | exact BestQ.yes i0_31 (by show _ < woV σ l w3 w; omega)) (by omega) (by omega)  
      exact L31 123 (0) ((-2147483648)) (0)  (by omega) (by omega) (by omega) (by first | exact Or.inl ⟨rfl, rfl, rfl⟩ | exact BestQ.no i0_31 (by show woV σ l w3 w ≤ _; omega) (by show (-2147483648 : Int) ≤ woV σ l w3 w; omega) | exact BestQ.yes i0_31 (by show _ < woV σ l w3 w; omega)) (by omega) (by omega)  
    · refine r_iconst hC dX5_spare_19 rfl ?_
      refine y_iret hK rfl dX5_spare_20 ?_
      have hA : spA σ l w (-1) := by
        exact ⟨fun _ => rfl, fun q => by unfold spC lwC opV at q; omega⟩
      exact k _ hA
  · refine r_astoreN_n hC dX5_spare_6 rfl ?_
    refine r_aloadN_n hC dX5_spare_7 rfl ?_
    refine r_ifnullN (tgt := 19) hC dX5_spare_8 rfl ?_
    refine r_iconst hC dX5_spare_19 rfl ?_
    refine y_iret hK rfl dX5_spare_20 ?_
    have hA : spA σ l w (-1) := by
      exact ⟨fun _ => rfl, fun q => by unfold spC lwC opV at q; omega⟩
    exact k _ hA
theorem x_without {eb : Bool} {d : Nat} {P : Option Vl → Mm → Prop} {σ : Mm} {l x w : Int}  (hG : GI σ)  (k : P (some (vI (woR σ l x w))) σ) : WT (true, false, eb) (d + 6) 81 [vR 2 0, vI l, vI x, vI w] σ P := by
  refine WT_in fun K hK => ?_
  have hK : StpY (true, false, eb) cX5_without RX5 (some .int) (WT (true, false, eb) (d + 5)) P K := hK
  have hM := hK.1
  have hC := hK.1.1
  show K 0 [some (vR 2 0), some (vI l), some (vI x), some (vI w), none] [] σ
  refine r_rngz hC (fun g0 => ?_)
  have r_l : -2147483648 ≤ l ∧ l ≤ 2147483647 := inR_le (g0 (vI l) (by simp))
  have r_x : -2147483648 ≤ x ∧ x ≤ 2147483647 := inR_le (g0 (vI x) (by simp))
  have r_w : -2147483648 ≤ w ∧ w ≤ 2147483647 := inR_le (g0 (vI w) (by simp))
  have hcl := hG.2.1.2.2.2.2.2.2.2
  have hrow := hG.2.1.2.2.1
  refine r_aload_n hC dX5_without_0 rfl ?_
  refine r_iload_n hC dX5_without_1 rfl ?_
  refine r_iload_n hC dX5_without_2 rfl ?_
  refine z_inv2 hM dX5_without_3 vl_RX5_171 rfl rfl rfl (Nat.le_of_ble_eq_true rfl) (Nat.le_of_ble_eq_true rfl) ?_
  refine x_laneHolding (fun hl_3 => ?_) (fun hl_3 => ?_)
  · have h6_3 := hG.1.h7 (l := l) (by omega) (by omega)
    have hN_3 := numF_rng (σ 7 l 2)
    have hO_3 := (hG.2.1.2.2.2.1 l (by omega) (by omega)).2
    refine r_astore hC dX5_without_6 rfl ?_
    refine r_aload hC dX5_without_8 rfl ?_
    refine r_ifnullR hC dX5_without_10 ?_
    refine r_aload hC dX5_without_13 rfl ?_
    refine r_iload_n hC dX5_without_15 rfl ?_
    refine z_inv1 hM dX5_without_16 vl_RX5_266 rfl rfl rfl (Nat.le_of_ble_eq_true rfl) (Nat.le_of_ble_eq_true rfl) ?_
    refine x_hasNumber (by omega) (fun h1 => ?_) (fun h1 => ?_)
    · refine r_if_ne (tgt := 27) hC dX5_without_19 rfl (fun h2 => ?_) (fun h2 => by omega)
      refine r_aload_n hC dX5_without_27 rfl ?_
      refine r_aload hC dX5_without_28 rfl ?_
      refine r_iload_n hC dX5_without_30 rfl ?_
      refine r_iload_n hC dX5_without_31 rfl ?_
      refine z_inv3 hM dX5_without_32 vl_RX5_269 rfl rfl rfl (Nat.le_of_ble_eq_true rfl) (Nat.le_of_ble_eq_true rfl) ?_
      refine x_comesToWithout (by omega) (by omega) (by omega) hG ?_
      refine y_iret hK rfl dX5_without_35 ?_
      have hR : woR σ l x w = (woV σ l x w) := by
        unfold woR
        first | exact if_pos (by unfold lwC opV; omega) | exact if_neg (by unfold lwC opV; omega)
      rw [hR] at k
      exact k
    · refine r_if_ne (tgt := 27) hC dX5_without_19 rfl (fun h3 => by omega) (fun h3 => ?_)
      refine r_ldc hC dX5_without_22 co_RX5_175 rfl ?_
      refine r_goto (tgt := 35) hC dX5_without_24 rfl ?_
      refine y_iret hK rfl dX5_without_35 ?_
      have hR : woR σ l x w = (-2147483648) := by
        unfold woR
        first | exact if_pos (by unfold lwC opV; omega) | exact if_neg (by unfold lwC opV; omega)
      rw [hR] at k
      exact k
  · refine r_astoreN hC dX5_without_6 rfl ?_
    refine r_aloadN hC dX5_without_8 rfl ?_
    refine r_ifnullN (tgt := 22) hC dX5_without_10 rfl ?_
    refine r_ldc hC dX5_without_22 co_RX5_175 rfl ?_
    refine r_goto (tgt := 35) hC dX5_without_24 rfl ?_
    refine y_iret hK rfl dX5_without_35 ?_
    have hR : woR σ l x w = (-2147483648) := by
      unfold woR
      first | exact if_pos (by unfold lwC opV; omega) | exact if_neg (by unfold lwC opV; omega)
    rw [hR] at k
    exact k
theorem x_panes {eb : Bool} {d : Nat} {P : Option Vl → Mm → Prop} {σ : Mm} {l w : Int}  (hG : GI σ)  (k : P (some (vI (pnR σ l w))) σ) : WT (true, false, eb) (d + 4) 89 [vR 2 0, vI l, vI w] σ P := by
  refine WT_in fun K hK => ?_
  have hK : StpY (true, false, eb) cX5_panes RX5 (some .int) (WT (true, false, eb) (d + 3)) P K := hK
  have hM := hK.1
  have hC := hK.1.1
  show K 0 [some (vR 2 0), some (vI l), some (vI w), none, none, none, none, none] [] σ
  refine r_rngz hC (fun g0 => ?_)
  have r_l : -2147483648 ≤ l ∧ l ≤ 2147483647 := inR_le (g0 (vI l) (by simp))
  have r_w : -2147483648 ≤ w ∧ w ≤ 2147483647 := inR_le (g0 (vI w) (by simp))
  have hcl := hG.2.1.2.2.2.2.2.2.2
  have hrow := hG.2.1.2.2.1
  refine r_aload_n hC dX5_panes_0 rfl ?_
  refine r_iload_n hC dX5_panes_1 rfl ?_
  refine z_inv1 hM dX5_panes_2 vl_RX5_123 rfl rfl rfl (Nat.le_of_ble_eq_true rfl) (Nat.le_of_ble_eq_true rfl) ?_
  refine x_openLane (fun hl_2 => ?_) (fun hl_2 => ?_)
  · have h6_2 := hG.1.h7 (l := l) (by omega) (by omega)
    have hN_2 := numF_rng (σ 7 l 2)
    have hO_2 := (hG.2.1.2.2.2.1 l (by omega) (by omega)).2
    refine r_astore_n hC dX5_panes_5 rfl ?_
    refine r_aload_n hC dX5_panes_6 rfl ?_
    refine r_ifnullR hC dX5_panes_7 ?_
    refine r_iload_n hC dX5_panes_10 rfl ?_
    refine r_iconst hC dX5_panes_11 rfl ?_
    refine r_ldcw hC dX5_panes_12 co_RX5_284 rfl ?_
    refine z_ins3 hM dX5_panes_15 tl_RX5_59 rfl (Nat.le_of_ble_eq_true rfl) (Nat.le_of_ble_eq_true rfl) ?_
    refine s_within (fun h2 => ?_) (fun h2 => ?_)
    · refine r_if_ne (tgt := 23) hC dX5_panes_18 rfl (fun h3 => ?_) (fun h3 => by omega)
      refine r_iconst hC dX5_panes_23 rfl ?_
      refine r_istore hC dX5_panes_24 rfl ?_
      refine r_iconst hC dX5_panes_26 rfl ?_
      refine r_istore hC dX5_panes_27 rfl ?_
      refine r_iconst hC dX5_panes_29 rfl ?_
      refine r_istore hC dX5_panes_30 rfl ?_
      have L32 : ∀ (n32 : Nat) (w4 w5 w6 : Int), 0 ≤ w4 ∧ w4 ≤ 121 → -1 ≤ w5 ∧ w5 ≤ 100000 → 0 ≤ w6 ∧ w6 ≤ 121 → ((w4) = pnN (σ 8 l) w ((w6)).toNat) → (((w6) = 0 ∧ (w5) = -1) ∨ (1 ≤ (w6) ∧ (w5) = σ 8 l ((w6) - 1) / w)) → ((w4) ≤ (w6)) → ((w6) ≤ σ 7 l 6) → 121 - w6 < (n32 : Int) → K 32 [some (vR 2 0), some (vI l), some (vI w), some (vR 7 l), some (vI w4), some (vI w5), some (vI w6), none] [] σ := by
        intro n32
        induction n32 with
        | zero => intro w4 w5 w6  f_w4 f_w5 f_w6 i0_32 i1_32 i2_32 i3_32 hm  ; omega
        | succ n32 ih32 =>
          intro w4 w5 w6  f_w4 f_w5 f_w6 i0_32 i1_32 i2_32 i3_32 hm32  
          refine r_iload hC dX5_panes_32 rfl ?_
          refine r_aload_n hC dX5_panes_34 rfl ?_
          refine z_getI (jz := 6) hM dX5_panes_35 fl_RX5_154 rfl rfl rfl (fun v7 h_v7 o_v7 t_v7 => ?_)
          have w_v7 := ((t_v7 (Or.inl (by first | exact trivial | exact tb7_ (by decide) | simp [Tb]))).trans (rfl)).symm
          clear t_v7
          subst w_v7
          have q_v7 : 0 ≤ (σ 7 l 6) ∧ (σ 7 l 6) ≤ 121 := o_v7.1 rfl
          refine r_icmp_ge (tgt := 79) hC dX5_panes_38 rfl (fun h8 => ?_) (fun h8 => ?_)
          · refine r_iload hC dX5_panes_79 rfl ?_
            refine y_iret hK rfl dX5_panes_81 ?_
            have hR : pnR σ l w = w4 := by
              unfold pnR
              rw [if_pos (by unfold pnC opV; omega), show (σ 7 l 6).toNat = (w6).toNat from by omega]
              exact i0_32.symm
            rw [hR] at k
            exact k
          · refine r_aload_n hC dX5_panes_41 rfl ?_
            refine z_getR hM dX5_panes_42 fl_RX5_198 rfl rfl (vld_of (n := 7) rfl (by omega) (by omega)) ?_
            refine r_iload hC dX5_panes_45 rfl ?_
            refine z_iald hM dX5_panes_47 rfl (by omega) (by omega) (fun v9 h_v9 o_v9 t_v9 => ?_)
            have w_v9 := ((t_v9 (Or.inl (by first | exact trivial | exact tb7_ (by decide) | simp [Tb]))).trans (rfl)).symm
            clear t_v9
            subst w_v9
            have ht_ := (hrow l w6 (by omega) (by omega) (by omega) (by omega)).1
            refine r_iload_n hC dX5_panes_48 rfl ?_
            refine r_idivN hC dX5_panes_49 (by omega) (by omega) ?_
            have f_v10 := idiv_fr (a := (σ 8 l w6)) (b := w) (by omega) (by omega)
            refine r_istore hC dX5_panes_50 rfl ?_
            refine r_iload hC dX5_panes_52 rfl ?_
            refine r_iload hC dX5_panes_54 rfl ?_
            refine r_iload hC dX5_panes_56 rfl ?_
            refine r_icmp_eq (tgt := 65) hC dX5_panes_58 rfl (fun h11 => ?_) (fun h11 => ?_)
            · refine r_iconst hC dX5_panes_65 rfl ?_
              refine r_iaddE hC (w4) dX5_panes_66 (by omega) (by unfold inR; omega) ?_
              refine r_istore hC dX5_panes_67 rfl ?_
              refine r_iload hC dX5_panes_69 rfl ?_
              refine r_istore hC dX5_panes_71 rfl ?_
              refine r_iincE hC ((w6 + 1)) dX5_panes_73 rfl rfl (by omega) (by unfold inR; omega) ?_
              show K _ [_, _, _, _, _, _, _, _] _ _
              refine r_goto (tgt := 32) hC dX5_panes_76 rfl ?_
              refine r_forget hC (ls2 := [some (vR 2 0), some (vI l), some (vI w), some (vR 7 l), some (vI w4), some (vI ((σ 8 l w6) / w)), some (vI (w6 + 1)), none]) (lsub_some (lsub_some (lsub_some (lsub_some (lsub_some (lsub_some (lsub_some (lsub_none lsub_nil)))))))) ?_
              exact ih32 (w4) (((σ 8 l w6) / w)) ((w6 + 1))  (by omega) (by omega) (by omega) (by first | rfl | (rw [pnN_I (by omega), ← i0_32]; first | (rw [if_pos (by omega)]; done) | (rw [if_neg (by omega)]; done) | (rw [if_pos (by omega)]; omega) | (rw [if_neg (by omega)]; omega))) (by first | exact Or.inl ⟨rfl, rfl⟩ | exact Or.inr ⟨by omega, by rw [show (w6 + 1 - 1 : Int) = w6 from by omega]⟩) (by omega) (by omega) (by omega)  
            · refine r_iconst hC dX5_panes_61 rfl ?_
              refine r_goto (tgt := 66) hC dX5_panes_62 rfl ?_
              refine r_iaddE hC ((w4 + 1)) dX5_panes_66 (by omega) (by unfold inR; omega) ?_
              refine r_istore hC dX5_panes_67 rfl ?_
              refine r_iload hC dX5_panes_69 rfl ?_
              refine r_istore hC dX5_panes_71 rfl ?_
              refine r_iincE hC ((w6 + 1)) dX5_panes_73 rfl rfl (by omega) (by unfold inR; omega) ?_
              show K _ [_, _, _, _, _, _, _, _] _ _
              refine r_goto (tgt := 32) hC dX5_panes_76 rfl ?_
              refine r_forget hC (ls2 := [some (vR 2 0), some (vI l), some (vI w), some (vR 7 l), some (vI (w4 + 1)), some (vI ((σ 8 l w6) / w)), some (vI (w6 + 1)), none]) (lsub_some (lsub_some (lsub_some (lsub_some (lsub_some (lsub_some (lsub_some (lsub_none lsub_nil)))))))) ?_
              exact ih32 ((w4 + 1)) (((σ 8 l w6) / w)) ((w6 + 1))  (by omega) (by omega) (by omega) (by first | rfl | (rw [pnN_I (by omega), ← i0_32]; first | (rw [if_pos (by omega)]; done) | (rw [if_neg (by omega)]; done) | (rw [if_pos (by omega)]; omega) | (rw [if_neg (by omega)]; omega))) (by first | exact Or.inl ⟨rfl, rfl⟩ | exact Or.inr ⟨by omega, by rw [show (w6 + 1 - 1 : Int) = w6 from by omega]⟩) (by omega) (by omega) (by omega)  
      exact L32 123 (0) ((-1)) (0)  (by omega) (by omega) (by omega) (by first | rfl | (rw [pnN_I (by omega), ← i0_32]; first | (rw [if_pos (by omega)]; done) | (rw [if_neg (by omega)]; done) | (rw [if_pos (by omega)]; omega) | (rw [if_neg (by omega)]; omega))) (by first | exact Or.inl ⟨rfl, rfl⟩ | exact Or.inr ⟨by omega, by rw [show (w6 + 1 - 1 : Int) = w6 from by omega]⟩) (by omega) (by omega) (by omega)  
    · refine r_if_ne (tgt := 23) hC dX5_panes_18 rfl (fun h12 => by omega) (fun h12 => ?_)
      refine r_iconst hC dX5_panes_21 rfl ?_
      refine y_iret hK rfl dX5_panes_22 ?_
      have hR : pnR σ l w = (-1) := by
        exact if_neg (by unfold pnC opV; omega)
      rw [hR] at k
      exact k
  · refine r_astoreN_n hC dX5_panes_5 rfl ?_
    refine r_aloadN_n hC dX5_panes_6 rfl ?_
    refine r_ifnullN (tgt := 21) hC dX5_panes_7 rfl ?_
    refine r_iconst hC dX5_panes_21 rfl ?_
    refine y_iret hK rfl dX5_panes_22 ?_
    have hR : pnR σ l w = (-1) := by
      exact if_neg (by unfold pnC opV; omega)
    rw [hR] at k
    exact k
theorem x_fullest {eb : Bool} {d : Nat} {P : Option Vl → Mm → Prop} {σ : Mm} {l w : Int}  (hG : GI σ)  (k : P (some (vI (flR σ l w))) σ) : WT (true, false, eb) (d + 4) 90 [vR 2 0, vI l, vI w] σ P := by
  refine WT_in fun K hK => ?_
  have hK : StpY (true, false, eb) cX5_fullest RX5 (some .int) (WT (true, false, eb) (d + 3)) P K := hK
  have hM := hK.1
  have hC := hK.1.1
  show K 0 [some (vR 2 0), some (vI l), some (vI w), none, none, none, none, none, none, none] [] σ
  refine r_rngz hC (fun g0 => ?_)
  have r_l : -2147483648 ≤ l ∧ l ≤ 2147483647 := inR_le (g0 (vI l) (by simp))
  have r_w : -2147483648 ≤ w ∧ w ≤ 2147483647 := inR_le (g0 (vI w) (by simp))
  have hcl := hG.2.1.2.2.2.2.2.2.2
  have hrow := hG.2.1.2.2.1
  refine r_aload_n hC dX5_fullest_0 rfl ?_
  refine r_iload_n hC dX5_fullest_1 rfl ?_
  refine z_inv1 hM dX5_fullest_2 vl_RX5_123 rfl rfl rfl (Nat.le_of_ble_eq_true rfl) (Nat.le_of_ble_eq_true rfl) ?_
  refine x_openLane (fun hl_2 => ?_) (fun hl_2 => ?_)
  · have h6_2 := hG.1.h7 (l := l) (by omega) (by omega)
    have hN_2 := numF_rng (σ 7 l 2)
    have hO_2 := (hG.2.1.2.2.2.1 l (by omega) (by omega)).2
    refine r_astore_n hC dX5_fullest_5 rfl ?_
    refine r_aload_n hC dX5_fullest_6 rfl ?_
    refine r_ifnullR hC dX5_fullest_7 ?_
    refine r_iload_n hC dX5_fullest_10 rfl ?_
    refine r_iconst hC dX5_fullest_11 rfl ?_
    refine r_ldcw hC dX5_fullest_12 co_RX5_284 rfl ?_
    refine z_ins3 hM dX5_fullest_15 tl_RX5_59 rfl (Nat.le_of_ble_eq_true rfl) (Nat.le_of_ble_eq_true rfl) ?_
    refine s_within (fun h2 => ?_) (fun h2 => ?_)
    · refine r_if_ne (tgt := 23) hC dX5_fullest_18 rfl (fun h3 => ?_) (fun h3 => by omega)
      refine r_iconst hC dX5_fullest_23 rfl ?_
      refine r_istore hC dX5_fullest_24 rfl ?_
      refine r_iconst hC dX5_fullest_26 rfl ?_
      refine r_istore hC dX5_fullest_27 rfl ?_
      refine r_iconst hC dX5_fullest_29 rfl ?_
      refine r_istore hC dX5_fullest_30 rfl ?_
      show K _ [_, _, _, _, _, _, _, _, _, _] _ _
      refine r_iconst hC dX5_fullest_32 rfl ?_
      refine r_istore hC dX5_fullest_33 rfl ?_
      refine r_iconst hC dX5_fullest_35 rfl ?_
      refine r_istore hC dX5_fullest_36 rfl ?_
      have L38 : ∀ (n38 : Nat) (w4 w5 w6 w7 w8 : Int), -1 ≤ w4 ∧ w4 ≤ 100000 → 0 ≤ w5 ∧ w5 ≤ 121 → -1 ≤ w6 ∧ w6 ≤ 100000 → 0 ≤ w7 ∧ w7 ≤ 121 → 0 ≤ w8 ∧ w8 ≤ 121 → ((w7) = (flN (σ 8 l) w ((w8)).toNat).1) → ((w5) = (flN (σ 8 l) w ((w8)).toNat).2.1) → ((w4) = (flN (σ 8 l) w ((w8)).toNat).2.2) → (((w8) = 0 ∧ (w6) = -1) ∨ (1 ≤ (w8) ∧ (w6) = σ 8 l ((w8) - 1) / w)) → ((w7) ≤ (w8)) → ((w5) ≤ (w8)) → ((w8) ≤ σ 7 l 6) → 121 - w8 < (n38 : Int) → K 38 [some (vR 2 0), some (vI l), some (vI w), some (vR 7 l), some (vI w4), some (vI w5), some (vI w6), some (vI w7), some (vI w8), none] [] σ := by
        intro n38
        induction n38 with
        | zero => intro w4 w5 w6 w7 w8  f_w4 f_w5 f_w6 f_w7 f_w8 i0_38 i1_38 i2_38 i3_38 i4_38 i5_38 i6_38 hm  ; omega
        | succ n38 ih38 =>
          intro w4 w5 w6 w7 w8  f_w4 f_w5 f_w6 f_w7 f_w8 i0_38 i1_38 i2_38 i3_38 i4_38 i5_38 i6_38 hm38  
          refine r_iload hC dX5_fullest_38 rfl ?_
          refine r_aload_n hC dX5_fullest_40 rfl ?_
          refine z_getI (jz := 6) hM dX5_fullest_41 fl_RX5_154 rfl rfl rfl (fun v9 h_v9 o_v9 t_v9 => ?_)
          have w_v9 := ((t_v9 (Or.inl (by first | exact trivial | exact tb7_ (by decide) | simp [Tb]))).trans (rfl)).symm
          clear t_v9
          subst w_v9
          have q_v9 : 0 ≤ (σ 7 l 6) ∧ (σ 7 l 6) ≤ 121 := o_v9.1 rfl
          refine r_icmp_ge (tgt := 100) hC dX5_fullest_44 rfl (fun h10 => ?_) (fun h10 => ?_)
          · refine r_iload hC dX5_fullest_100 rfl ?_
            refine y_iret hK rfl dX5_fullest_102 ?_
            have hR : flR σ l w = w4 := by
              unfold flR
              rw [if_pos (by unfold pnC opV; omega), show (σ 7 l 6).toNat = (w8).toNat from by omega]
              exact i2_38.symm
            rw [hR] at k
            exact k
          · refine r_aload_n hC dX5_fullest_47 rfl ?_
            refine z_getR hM dX5_fullest_48 fl_RX5_198 rfl rfl (vld_of (n := 7) rfl (by omega) (by omega)) ?_
            refine r_iload hC dX5_fullest_51 rfl ?_
            refine z_iald hM dX5_fullest_53 rfl (by omega) (by omega) (fun v11 h_v11 o_v11 t_v11 => ?_)
            have w_v11 := ((t_v11 (Or.inl (by first | exact trivial | exact tb7_ (by decide) | simp [Tb]))).trans (rfl)).symm
            clear t_v11
            subst w_v11
            have ht_ := (hrow l w8 (by omega) (by omega) (by omega) (by omega)).1
            refine r_iload_n hC dX5_fullest_54 rfl ?_
            refine r_idivN hC dX5_fullest_55 (by omega) (by omega) ?_
            have f_v12 := idiv_fr (a := (σ 8 l w8)) (b := w) (by omega) (by omega)
            refine r_istore hC dX5_fullest_56 rfl ?_
            refine r_iload hC dX5_fullest_58 rfl ?_
            refine r_iload hC dX5_fullest_60 rfl ?_
            refine r_icmp_ne (tgt := 72) hC dX5_fullest_62 rfl (fun h13 => ?_) (fun h13 => ?_)
            · refine r_iconst hC dX5_fullest_72 rfl ?_
              refine r_istore hC dX5_fullest_73 rfl ?_
              refine r_iload hC dX5_fullest_75 rfl ?_
              refine r_istore hC dX5_fullest_77 rfl ?_
              refine r_iload hC dX5_fullest_79 rfl ?_
              refine r_iload hC dX5_fullest_81 rfl ?_
              refine r_icmp_le (tgt := 94) hC dX5_fullest_83 rfl (fun h14 => ?_) (fun h14 => ?_)
              · refine r_iincE hC ((w8 + 1)) dX5_fullest_94 rfl rfl (by omega) (by unfold inR; omega) ?_
                refine r_goto (tgt := 38) hC dX5_fullest_97 rfl ?_
                refine r_forget hC (ls2 := [some (vR 2 0), some (vI l), some (vI w), some (vR 7 l), some (vI w4), some (vI w5), some (vI ((σ 8 l w8) / w)), some (vI 1), some (vI (w8 + 1)), none]) (lsub_some (lsub_some (lsub_some (lsub_some (lsub_some (lsub_some (lsub_some (lsub_some (lsub_some (lsub_none lsub_nil)))))))))) ?_
                exact ih38 (w4) (w5) (((σ 8 l w8) / w)) (1) ((w8 + 1))  (by omega) (by omega) (by omega) (by omega) (by omega) (by first | rfl | (rw [flN_I (by omega)]; dsimp only; simp only [← i0_38, ← i1_38, ← i2_38]; (repeat' split) <;> first | rfl | omega)) (by first | rfl | (rw [flN_I (by omega)]; dsimp only; simp only [← i0_38, ← i1_38, ← i2_38]; (repeat' split) <;> first | rfl | omega)) (by first | rfl | (rw [flN_I (by omega)]; dsimp only; simp only [← i0_38, ← i1_38, ← i2_38]; (repeat' split) <;> first | rfl | omega)) (by first | exact Or.inl ⟨rfl, rfl⟩ | exact Or.inr ⟨by omega, by rw [show (w8 + 1 - 1 : Int) = w8 from by omega]⟩) (by omega) (by omega) (by omega) (by omega)  
              · refine r_iload hC dX5_fullest_86 rfl ?_
                refine r_istore hC dX5_fullest_88 rfl ?_
                refine r_iload hC dX5_fullest_90 rfl ?_
                refine r_istore hC dX5_fullest_92 rfl ?_
                refine r_iincE hC ((w8 + 1)) dX5_fullest_94 rfl rfl (by omega) (by unfold inR; omega) ?_
                show K _ [_, _, _, _, _, _, _, _, _, _] _ _
                refine r_goto (tgt := 38) hC dX5_fullest_97 rfl ?_
                refine r_forget hC (ls2 := [some (vR 2 0), some (vI l), some (vI w), some (vR 7 l), some (vI ((σ 8 l w8) / w)), some (vI 1), some (vI ((σ 8 l w8) / w)), some (vI 1), some (vI (w8 + 1)), none]) (lsub_some (lsub_some (lsub_some (lsub_some (lsub_some (lsub_some (lsub_some (lsub_some (lsub_some (lsub_none lsub_nil)))))))))) ?_
                exact ih38 (((σ 8 l w8) / w)) (1) (((σ 8 l w8) / w)) (1) ((w8 + 1))  (by omega) (by omega) (by omega) (by omega) (by omega) (by first | rfl | (rw [flN_I (by omega)]; dsimp only; simp only [← i0_38, ← i1_38, ← i2_38]; (repeat' split) <;> first | rfl | omega)) (by first | rfl | (rw [flN_I (by omega)]; dsimp only; simp only [← i0_38, ← i1_38, ← i2_38]; (repeat' split) <;> first | rfl | omega)) (by first | rfl | (rw [flN_I (by omega)]; dsimp only; simp only [← i0_38, ← i1_38, ← i2_38]; (repeat' split) <;> first | rfl | omega)) (by first | exact Or.inl ⟨rfl, rfl⟩ | exact Or.inr ⟨by omega, by rw [show (w8 + 1 - 1 : Int) = w8 from by omega]⟩) (by omega) (by omega) (by omega) (by omega)  
            · refine r_iload hC dX5_fullest_65 rfl ?_
              refine r_iconst hC dX5_fullest_67 rfl ?_
              refine r_iaddE hC ((w7 + 1)) dX5_fullest_68 (by omega) (by unfold inR; omega) ?_
              refine r_goto (tgt := 73) hC dX5_fullest_69 rfl ?_
              refine r_istore hC dX5_fullest_73 rfl ?_
              refine r_iload hC dX5_fullest_75 rfl ?_
              refine r_istore hC dX5_fullest_77 rfl ?_
              refine r_iload hC dX5_fullest_79 rfl ?_
              refine r_iload hC dX5_fullest_81 rfl ?_
              refine r_icmp_le (tgt := 94) hC dX5_fullest_83 rfl (fun h15 => ?_) (fun h15 => ?_)
              · refine r_iincE hC ((w8 + 1)) dX5_fullest_94 rfl rfl (by omega) (by unfold inR; omega) ?_
                refine r_goto (tgt := 38) hC dX5_fullest_97 rfl ?_
                refine r_forget hC (ls2 := [some (vR 2 0), some (vI l), some (vI w), some (vR 7 l), some (vI w4), some (vI w5), some (vI ((σ 8 l w8) / w)), some (vI (w7 + 1)), some (vI (w8 + 1)), none]) (lsub_some (lsub_some (lsub_some (lsub_some (lsub_some (lsub_some (lsub_some (lsub_some (lsub_some (lsub_none lsub_nil)))))))))) ?_
                exact ih38 (w4) (w5) (((σ 8 l w8) / w)) ((w7 + 1)) ((w8 + 1))  (by omega) (by omega) (by omega) (by omega) (by omega) (by first | rfl | (rw [flN_I (by omega)]; dsimp only; simp only [← i0_38, ← i1_38, ← i2_38]; (repeat' split) <;> first | rfl | omega)) (by first | rfl | (rw [flN_I (by omega)]; dsimp only; simp only [← i0_38, ← i1_38, ← i2_38]; (repeat' split) <;> first | rfl | omega)) (by first | rfl | (rw [flN_I (by omega)]; dsimp only; simp only [← i0_38, ← i1_38, ← i2_38]; (repeat' split) <;> first | rfl | omega)) (by first | exact Or.inl ⟨rfl, rfl⟩ | exact Or.inr ⟨by omega, by rw [show (w8 + 1 - 1 : Int) = w8 from by omega]⟩) (by omega) (by omega) (by omega) (by omega)  
              · refine r_iload hC dX5_fullest_86 rfl ?_
                refine r_istore hC dX5_fullest_88 rfl ?_
                refine r_iload hC dX5_fullest_90 rfl ?_
                refine r_istore hC dX5_fullest_92 rfl ?_
                refine r_iincE hC ((w8 + 1)) dX5_fullest_94 rfl rfl (by omega) (by unfold inR; omega) ?_
                show K _ [_, _, _, _, _, _, _, _, _, _] _ _
                refine r_goto (tgt := 38) hC dX5_fullest_97 rfl ?_
                refine r_forget hC (ls2 := [some (vR 2 0), some (vI l), some (vI w), some (vR 7 l), some (vI ((σ 8 l w8) / w)), some (vI (w7 + 1)), some (vI ((σ 8 l w8) / w)), some (vI (w7 + 1)), some (vI (w8 + 1)), none]) (lsub_some (lsub_some (lsub_some (lsub_some (lsub_some (lsub_some (lsub_some (lsub_some (lsub_some (lsub_none lsub_nil)))))))))) ?_
                exact ih38 (((σ 8 l w8) / w)) ((w7 + 1)) (((σ 8 l w8) / w)) ((w7 + 1)) ((w8 + 1))  (by omega) (by omega) (by omega) (by omega) (by omega) (by first | rfl | (rw [flN_I (by omega)]; dsimp only; simp only [← i0_38, ← i1_38, ← i2_38]; (repeat' split) <;> first | rfl | omega)) (by first | rfl | (rw [flN_I (by omega)]; dsimp only; simp only [← i0_38, ← i1_38, ← i2_38]; (repeat' split) <;> first | rfl | omega)) (by first | rfl | (rw [flN_I (by omega)]; dsimp only; simp only [← i0_38, ← i1_38, ← i2_38]; (repeat' split) <;> first | rfl | omega)) (by first | exact Or.inl ⟨rfl, rfl⟩ | exact Or.inr ⟨by omega, by rw [show (w8 + 1 - 1 : Int) = w8 from by omega]⟩) (by omega) (by omega) (by omega) (by omega)  
      exact L38 123 ((-1)) (0) ((-1)) (0) (0)  (by omega) (by omega) (by omega) (by omega) (by omega) (by first | rfl | (rw [flN_I (by omega)]; dsimp only; simp only [← i0_38, ← i1_38, ← i2_38]; (repeat' split) <;> first | rfl | omega)) (by first | rfl | (rw [flN_I (by omega)]; dsimp only; simp only [← i0_38, ← i1_38, ← i2_38]; (repeat' split) <;> first | rfl | omega)) (by first | rfl | (rw [flN_I (by omega)]; dsimp only; simp only [← i0_38, ← i1_38, ← i2_38]; (repeat' split) <;> first | rfl | omega)) (by first | exact Or.inl ⟨rfl, rfl⟩ | exact Or.inr ⟨by omega, by rw [show (w8 + 1 - 1 : Int) = w8 from by omega]⟩) (by omega) (by omega) (by omega) (by omega)  
    · refine r_if_ne (tgt := 23) hC dX5_fullest_18 rfl (fun h16 => by omega) (fun h16 => ?_)
      refine r_iconst hC dX5_fullest_21 rfl ?_
      refine y_iret hK rfl dX5_fullest_22 ?_
      have hR : flR σ l w = (-1) := by
        exact if_neg (by unfold pnC opV; omega)
      rw [hR] at k
      exact k
  · refine r_astoreN_n hC dX5_fullest_5 rfl ?_
    refine r_aloadN_n hC dX5_fullest_6 rfl ?_
    refine r_ifnullN (tgt := 21) hC dX5_fullest_7 rfl ?_
    refine r_iconst hC dX5_fullest_21 rfl ?_
    refine y_iret hK rfl dX5_fullest_22 ?_
    have hR : flR σ l w = (-1) := by
      exact if_neg (by unfold pnC opV; omega)
    rw [hR] at k
    exact k
theorem x_sessions {eb : Bool} {d : Nat} {P : Option Vl → Mm → Prop} {σ : Mm} {l g : Int}  (hG : GI σ)  (k : P (some (vI (ssR σ l g))) σ) : WT (true, false, eb) (d + 4) 91 [vR 2 0, vI l, vI g] σ P := by
  refine WT_in fun K hK => ?_
  have hK : StpY (true, false, eb) cX5_sessions RX5 (some .int) (WT (true, false, eb) (d + 3)) P K := hK
  have hM := hK.1
  have hC := hK.1.1
  show K 0 [some (vR 2 0), some (vI l), some (vI g), none, none, none] [] σ
  refine r_rngz hC (fun g0 => ?_)
  have r_l : -2147483648 ≤ l ∧ l ≤ 2147483647 := inR_le (g0 (vI l) (by simp))
  have r_g : -2147483648 ≤ g ∧ g ≤ 2147483647 := inR_le (g0 (vI g) (by simp))
  have hcl := hG.2.1.2.2.2.2.2.2.2
  have hrow := hG.2.1.2.2.1
  refine r_aload_n hC dX5_sessions_0 rfl ?_
  refine r_iload_n hC dX5_sessions_1 rfl ?_
  refine z_inv1 hM dX5_sessions_2 vl_RX5_123 rfl rfl rfl (Nat.le_of_ble_eq_true rfl) (Nat.le_of_ble_eq_true rfl) ?_
  refine x_openLane (fun hl_2 => ?_) (fun hl_2 => ?_)
  · have h6_2 := hG.1.h7 (l := l) (by omega) (by omega)
    have hN_2 := numF_rng (σ 7 l 2)
    have hO_2 := (hG.2.1.2.2.2.1 l (by omega) (by omega)).2
    refine r_astore_n hC dX5_sessions_5 rfl ?_
    refine r_aload_n hC dX5_sessions_6 rfl ?_
    refine r_ifnullR hC dX5_sessions_7 ?_
    refine r_iload_n hC dX5_sessions_10 rfl ?_
    refine z_ins1 hM dX5_sessions_11 tl_RX5_285 rfl (Nat.le_of_ble_eq_true rfl) (Nat.le_of_ble_eq_true rfl) ?_
    refine s_isGap (fun h2 => ?_) (fun h2 => ?_)
    · refine r_if_ne (tgt := 19) hC dX5_sessions_14 rfl (fun h3 => ?_) (fun h3 => by omega)
      refine r_iconst hC dX5_sessions_19 rfl ?_
      refine r_istore hC dX5_sessions_20 rfl ?_
      refine r_iconst hC dX5_sessions_22 rfl ?_
      refine r_istore hC dX5_sessions_23 rfl ?_
      have L25 : ∀ (n25 : Nat) (w4 w5 : Int), 0 ≤ w4 ∧ w4 ≤ 121 → 0 ≤ w5 ∧ w5 ≤ 121 → ((w4) = ssN (σ 8 l) g ((w5)).toNat) → ((w4) ≤ (w5)) → ((w5) ≤ σ 7 l 6) → 121 - w5 < (n25 : Int) → K 25 [some (vR 2 0), some (vI l), some (vI g), some (vR 7 l), some (vI w4), some (vI w5)] [] σ := by
        intro n25
        induction n25 with
        | zero => intro w4 w5  f_w4 f_w5 i0_25 i1_25 i2_25 hm  ; omega
        | succ n25 ih25 =>
          intro w4 w5  f_w4 f_w5 i0_25 i1_25 i2_25 hm25  
          refine r_iload hC dX5_sessions_25 rfl ?_
          refine r_aload_n hC dX5_sessions_27 rfl ?_
          refine z_getI (jz := 6) hM dX5_sessions_28 fl_RX5_154 rfl rfl rfl (fun v6 h_v6 o_v6 t_v6 => ?_)
          have w_v6 := ((t_v6 (Or.inl (by first | exact trivial | exact tb7_ (by decide) | simp [Tb]))).trans (rfl)).symm
          clear t_v6
          subst w_v6
          have q_v6 : 0 ≤ (σ 7 l 6) ∧ (σ 7 l 6) ≤ 121 := o_v6.1 rfl
          refine r_icmp_ge (tgt := 60) hC dX5_sessions_31 rfl (fun h7 => ?_) (fun h7 => ?_)
          · refine r_iload hC dX5_sessions_60 rfl ?_
            refine y_iret hK rfl dX5_sessions_62 ?_
            have hR : ssR σ l g = w4 := by
              unfold ssR
              rw [if_pos (by unfold gaC opV; omega), show (σ 7 l 6).toNat = (w5).toNat from by omega]
              exact i0_25.symm
            rw [hR] at k
            exact k
          · refine r_iload hC dX5_sessions_34 rfl ?_
            refine r_aload_n hC dX5_sessions_36 rfl ?_
            refine r_iload hC dX5_sessions_37 rfl ?_
            refine r_iload_n hC dX5_sessions_39 rfl ?_
            refine z_inv2 hM dX5_sessions_40 vl_RX5_221 rfl rfl rfl (Nat.le_of_ble_eq_true rfl) (Nat.le_of_ble_eq_true rfl) ?_
            refine x_startsSession (by omega) (by omega) (fun h8 => ?_) (fun h8 => ?_)
            · refine r_if_eq (tgt := 50) hC dX5_sessions_43 rfl (fun h9 => by omega) (fun h9 => ?_)
              refine r_iconst hC dX5_sessions_46 rfl ?_
              refine r_goto (tgt := 51) hC dX5_sessions_47 rfl ?_
              refine r_iaddE hC ((w4 + 1)) dX5_sessions_51 (by omega) (by unfold inR; omega) ?_
              refine r_istore hC dX5_sessions_52 rfl ?_
              refine r_iincE hC ((w5 + 1)) dX5_sessions_54 rfl rfl (by omega) (by unfold inR; omega) ?_
              refine r_goto (tgt := 25) hC dX5_sessions_57 rfl ?_
              exact ih25 ((w4 + 1)) ((w5 + 1))  (by omega) (by omega) (by first | rfl | (rw [ssN_I (by omega), ← i0_25]; first | (rw [if_pos (by omega)]; done) | (rw [if_neg (by omega)]; done) | (rw [if_pos (by omega)]; omega) | (rw [if_neg (by omega)]; omega))) (by omega) (by omega) (by omega)  
            · refine r_if_eq (tgt := 50) hC dX5_sessions_43 rfl (fun h10 => ?_) (fun h10 => by omega)
              refine r_iconst hC dX5_sessions_50 rfl ?_
              refine r_iaddE hC (w4) dX5_sessions_51 (by omega) (by unfold inR; omega) ?_
              refine r_istore hC dX5_sessions_52 rfl ?_
              refine r_iincE hC ((w5 + 1)) dX5_sessions_54 rfl rfl (by omega) (by unfold inR; omega) ?_
              refine r_goto (tgt := 25) hC dX5_sessions_57 rfl ?_
              exact ih25 (w4) ((w5 + 1))  (by omega) (by omega) (by first | rfl | (rw [ssN_I (by omega), ← i0_25]; first | (rw [if_pos (by omega)]; done) | (rw [if_neg (by omega)]; done) | (rw [if_pos (by omega)]; omega) | (rw [if_neg (by omega)]; omega))) (by omega) (by omega) (by omega)  
      exact L25 123 (0) (0)  (by omega) (by omega) (by first | rfl | (rw [ssN_I (by omega), ← i0_25]; first | (rw [if_pos (by omega)]; done) | (rw [if_neg (by omega)]; done) | (rw [if_pos (by omega)]; omega) | (rw [if_neg (by omega)]; omega))) (by omega) (by omega) (by omega)  
    · refine r_if_ne (tgt := 19) hC dX5_sessions_14 rfl (fun h11 => by omega) (fun h11 => ?_)
      refine r_iconst hC dX5_sessions_17 rfl ?_
      refine y_iret hK rfl dX5_sessions_18 ?_
      have hR : ssR σ l g = (-1) := by
        exact if_neg (by unfold gaC opV; omega)
      rw [hR] at k
      exact k
  · refine r_astoreN_n hC dX5_sessions_5 rfl ?_
    refine r_aloadN_n hC dX5_sessions_6 rfl ?_
    refine r_ifnullN (tgt := 17) hC dX5_sessions_7 rfl ?_
    refine r_iconst hC dX5_sessions_17 rfl ?_
    refine y_iret hK rfl dX5_sessions_18 ?_
    have hR : ssR σ l g = (-1) := by
      exact if_neg (by unfold gaC opV; omega)
    rw [hR] at k
    exact k
theorem x_longest {eb : Bool} {d : Nat} {P : Option Vl → Mm → Prop} {σ : Mm} {l g : Int}  (hG : GI σ)  (k : P (some (vI (loR σ l g))) σ) : WT (true, false, eb) (d + 4) 93 [vR 2 0, vI l, vI g] σ P := by
  refine WT_in fun K hK => ?_
  have hK : StpY (true, false, eb) cX5_longest RX5 (some .int) (WT (true, false, eb) (d + 3)) P K := hK
  have hM := hK.1
  have hC := hK.1.1
  show K 0 [some (vR 2 0), some (vI l), some (vI g), none, none, none, none, none, none, none] [] σ
  refine r_rngz hC (fun g0 => ?_)
  have r_l : -2147483648 ≤ l ∧ l ≤ 2147483647 := inR_le (g0 (vI l) (by simp))
  have r_g : -2147483648 ≤ g ∧ g ≤ 2147483647 := inR_le (g0 (vI g) (by simp))
  have hcl := hG.2.1.2.2.2.2.2.2.2
  have hrow := hG.2.1.2.2.1
  refine r_aload_n hC dX5_longest_0 rfl ?_
  refine r_iload_n hC dX5_longest_1 rfl ?_
  refine z_inv1 hM dX5_longest_2 vl_RX5_123 rfl rfl rfl (Nat.le_of_ble_eq_true rfl) (Nat.le_of_ble_eq_true rfl) ?_
  refine x_openLane (fun hl_2 => ?_) (fun hl_2 => ?_)
  · have h6_2 := hG.1.h7 (l := l) (by omega) (by omega)
    have hN_2 := numF_rng (σ 7 l 2)
    have hO_2 := (hG.2.1.2.2.2.1 l (by omega) (by omega)).2
    refine r_astore_n hC dX5_longest_5 rfl ?_
    refine r_aload_n hC dX5_longest_6 rfl ?_
    refine r_ifnullR hC dX5_longest_7 ?_
    refine r_iload_n hC dX5_longest_10 rfl ?_
    refine z_ins1 hM dX5_longest_11 tl_RX5_285 rfl (Nat.le_of_ble_eq_true rfl) (Nat.le_of_ble_eq_true rfl) ?_
    refine s_isGap (fun h2 => ?_) (fun h2 => ?_)
    · refine r_if_ne (tgt := 19) hC dX5_longest_14 rfl (fun h3 => ?_) (fun h3 => by omega)
      refine r_iconst hC dX5_longest_19 rfl ?_
      refine r_istore hC dX5_longest_20 rfl ?_
      refine r_iconst hC dX5_longest_22 rfl ?_
      refine r_istore hC dX5_longest_23 rfl ?_
      refine r_iconst hC dX5_longest_25 rfl ?_
      refine r_istore hC dX5_longest_26 rfl ?_
      show K _ [_, _, _, _, _, _, _, _, _, _] _ _
      refine r_iconst hC dX5_longest_28 rfl ?_
      refine r_istore hC dX5_longest_29 rfl ?_
      refine r_iconst hC dX5_longest_31 rfl ?_
      refine r_istore hC dX5_longest_32 rfl ?_
      have L34 : ∀ (n34 : Nat) (w4 w5 w6 w7 w8 : Int), -1 ≤ w4 ∧ w4 ≤ 121 → 0 ≤ w5 ∧ w5 ≤ 121 → -1 ≤ w6 ∧ w6 ≤ 120 → 0 ≤ w7 ∧ w7 ≤ 121 → 0 ≤ w8 ∧ w8 ≤ 121 → ((w6) = (loN (σ 8 l) g ((w8)).toNat).1 - 1) → ((w7) = (loN (σ 8 l) g ((w8)).toNat).2.1) → ((w5) = (loN (σ 8 l) g ((w8)).toNat).2.2.1) → ((w4) = (loN (σ 8 l) g ((w8)).toNat).2.2.2) → ((w6) + 1 ≤ (w8)) → ((w7) ≤ (w8)) → ((w5) ≤ (w8)) → ((w4) ≤ (w6)) → ((w8) ≤ σ 7 l 6) → 121 - w8 < (n34 : Int) → K 34 [some (vR 2 0), some (vI l), some (vI g), some (vR 7 l), some (vI w4), some (vI w5), some (vI w6), some (vI w7), some (vI w8), none] [] σ := by
        intro n34
        induction n34 with
        | zero => intro w4 w5 w6 w7 w8  f_w4 f_w5 f_w6 f_w7 f_w8 i0_34 i1_34 i2_34 i3_34 i4_34 i5_34 i6_34 i7_34 i8_34 hm  ; omega
        | succ n34 ih34 =>
          intro w4 w5 w6 w7 w8  f_w4 f_w5 f_w6 f_w7 f_w8 i0_34 i1_34 i2_34 i3_34 i4_34 i5_34 i6_34 i7_34 i8_34 hm34  
          refine r_iload hC dX5_longest_34 rfl ?_
          refine r_aload_n hC dX5_longest_36 rfl ?_
          refine z_getI (jz := 6) hM dX5_longest_37 fl_RX5_154 rfl rfl rfl (fun v9 h_v9 o_v9 t_v9 => ?_)
          have w_v9 := ((t_v9 (Or.inl (by first | exact trivial | exact tb7_ (by decide) | simp [Tb]))).trans (rfl)).symm
          clear t_v9
          subst w_v9
          have q_v9 : 0 ≤ (σ 7 l 6) ∧ (σ 7 l 6) ≤ 121 := o_v9.1 rfl
          refine r_icmp_ge (tgt := 103) hC dX5_longest_40 rfl (fun h10 => ?_) (fun h10 => ?_)
          · refine r_iload hC dX5_longest_103 rfl ?_
            refine y_iret hK rfl dX5_longest_105 ?_
            have hR : loR σ l g = w4 := by
              unfold loR
              rw [if_pos (by unfold gaC opV; omega), show (σ 7 l 6).toNat = (w8).toNat from by omega]
              exact i3_34.symm
            rw [hR] at k
            exact k
          · refine r_aload_n hC dX5_longest_43 rfl ?_
            refine r_iload hC dX5_longest_44 rfl ?_
            refine r_iload_n hC dX5_longest_46 rfl ?_
            refine z_inv2 hM dX5_longest_47 vl_RX5_221 rfl rfl rfl (Nat.le_of_ble_eq_true rfl) (Nat.le_of_ble_eq_true rfl) ?_
            refine x_startsSession (by omega) (by omega) (fun h11 => ?_) (fun h11 => ?_)
            · refine r_istore hC dX5_longest_50 rfl ?_
              refine r_iload hC dX5_longest_52 rfl ?_
              refine r_iload hC dX5_longest_54 rfl ?_
              refine r_if_eq (tgt := 63) hC dX5_longest_56 rfl (fun h12 => by omega) (fun h12 => ?_)
              refine r_iconst hC dX5_longest_59 rfl ?_
              refine r_goto (tgt := 64) hC dX5_longest_60 rfl ?_
              refine r_iaddE hC ((w6 + 1)) dX5_longest_64 (by omega) (by unfold inR; omega) ?_
              refine r_istore hC dX5_longest_65 rfl ?_
              refine r_iload hC dX5_longest_67 rfl ?_
              refine r_if_eq (tgt := 76) hC dX5_longest_69 rfl (fun h13 => by omega) (fun h13 => ?_)
              refine r_iconst hC dX5_longest_72 rfl ?_
              refine r_goto (tgt := 80) hC dX5_longest_73 rfl ?_
              refine r_istore hC dX5_longest_80 rfl ?_
              show K _ [_, _, _, _, _, _, _, _, _, _] _ _
              refine r_iload hC dX5_longest_82 rfl ?_
              refine r_iload hC dX5_longest_84 rfl ?_
              refine r_icmp_le (tgt := 97) hC dX5_longest_86 rfl (fun h14 => ?_) (fun h14 => ?_)
              · refine r_iincE hC ((w8 + 1)) dX5_longest_97 rfl rfl (by omega) (by unfold inR; omega) ?_
                refine r_goto (tgt := 34) hC dX5_longest_100 rfl ?_
                refine r_forget hC (ls2 := [some (vR 2 0), some (vI l), some (vI g), some (vR 7 l), some (vI w4), some (vI w5), some (vI (w6 + 1)), some (vI 1), some (vI (w8 + 1)), none]) (lsub_some (lsub_some (lsub_some (lsub_some (lsub_some (lsub_some (lsub_some (lsub_some (lsub_some (lsub_none lsub_nil)))))))))) ?_
                exact ih34 (w4) (w5) ((w6 + 1)) (1) ((w8 + 1))  (by omega) (by omega) (by omega) (by omega) (by omega) (by first | rfl | (rw [loN_I (by omega)]; dsimp only; simp only [show (loN (σ 8 l) g (w8).toNat).1 = w6 + 1 from by omega, ← i1_34, ← i2_34, ← i3_34]; (repeat' split) <;> first | rfl | omega)) (by first | rfl | (rw [loN_I (by omega)]; dsimp only; simp only [show (loN (σ 8 l) g (w8).toNat).1 = w6 + 1 from by omega, ← i1_34, ← i2_34, ← i3_34]; (repeat' split) <;> first | rfl | omega)) (by first | rfl | (rw [loN_I (by omega)]; dsimp only; simp only [show (loN (σ 8 l) g (w8).toNat).1 = w6 + 1 from by omega, ← i1_34, ← i2_34, ← i3_34]; (repeat' split) <;> first | rfl | omega)) (by first | rfl | (rw [loN_I (by omega)]; dsimp only; simp only [show (loN (σ 8 l) g (w8).toNat).1 = w6 + 1 from by omega, ← i1_34, ← i2_34, ← i3_34]; (repeat' split) <;> first | rfl | omega)) (by omega) (by omega) (by omega) (by omega) (by omega) (by omega)  
              · refine r_iload hC dX5_longest_89 rfl ?_
                refine r_istore hC dX5_longest_91 rfl ?_
                refine r_iload hC dX5_longest_93 rfl ?_
                refine r_istore hC dX5_longest_95 rfl ?_
                refine r_iincE hC ((w8 + 1)) dX5_longest_97 rfl rfl (by omega) (by unfold inR; omega) ?_
                show K _ [_, _, _, _, _, _, _, _, _, _] _ _
                refine r_goto (tgt := 34) hC dX5_longest_100 rfl ?_
                refine r_forget hC (ls2 := [some (vR 2 0), some (vI l), some (vI g), some (vR 7 l), some (vI (w6 + 1)), some (vI 1), some (vI (w6 + 1)), some (vI 1), some (vI (w8 + 1)), none]) (lsub_some (lsub_some (lsub_some (lsub_some (lsub_some (lsub_some (lsub_some (lsub_some (lsub_some (lsub_none lsub_nil)))))))))) ?_
                exact ih34 ((w6 + 1)) (1) ((w6 + 1)) (1) ((w8 + 1))  (by omega) (by omega) (by omega) (by omega) (by omega) (by first | rfl | (rw [loN_I (by omega)]; dsimp only; simp only [show (loN (σ 8 l) g (w8).toNat).1 = w6 + 1 from by omega, ← i1_34, ← i2_34, ← i3_34]; (repeat' split) <;> first | rfl | omega)) (by first | rfl | (rw [loN_I (by omega)]; dsimp only; simp only [show (loN (σ 8 l) g (w8).toNat).1 = w6 + 1 from by omega, ← i1_34, ← i2_34, ← i3_34]; (repeat' split) <;> first | rfl | omega)) (by first | rfl | (rw [loN_I (by omega)]; dsimp only; simp only [show (loN (σ 8 l) g (w8).toNat).1 = w6 + 1 from by omega, ← i1_34, ← i2_34, ← i3_34]; (repeat' split) <;> first | rfl | omega)) (by first | rfl | (rw [loN_I (by omega)]; dsimp only; simp only [show (loN (σ 8 l) g (w8).toNat).1 = w6 + 1 from by omega, ← i1_34, ← i2_34, ← i3_34]; (repeat' split) <;> first | rfl | omega)) (by omega) (by omega) (by omega) (by omega) (by omega) (by omega)  
            · refine r_istore hC dX5_longest_50 rfl ?_
              refine r_iload hC dX5_longest_52 rfl ?_
              refine r_iload hC dX5_longest_54 rfl ?_
              refine r_if_eq (tgt := 63) hC dX5_longest_56 rfl (fun h15 => ?_) (fun h15 => by omega)
              refine r_iconst hC dX5_longest_63 rfl ?_
              refine r_iaddE hC (w6) dX5_longest_64 (by omega) (by unfold inR; omega) ?_
              refine r_istore hC dX5_longest_65 rfl ?_
              refine r_iload hC dX5_longest_67 rfl ?_
              refine r_if_eq (tgt := 76) hC dX5_longest_69 rfl (fun h16 => ?_) (fun h16 => by omega)
              refine r_iload hC dX5_longest_76 rfl ?_
              refine r_iconst hC dX5_longest_78 rfl ?_
              refine r_iaddE hC ((w7 + 1)) dX5_longest_79 (by omega) (by unfold inR; omega) ?_
              refine r_istore hC dX5_longest_80 rfl ?_
              show K _ [_, _, _, _, _, _, _, _, _, _] _ _
              refine r_iload hC dX5_longest_82 rfl ?_
              refine r_iload hC dX5_longest_84 rfl ?_
              refine r_icmp_le (tgt := 97) hC dX5_longest_86 rfl (fun h17 => ?_) (fun h17 => ?_)
              · refine r_iincE hC ((w8 + 1)) dX5_longest_97 rfl rfl (by omega) (by unfold inR; omega) ?_
                refine r_goto (tgt := 34) hC dX5_longest_100 rfl ?_
                refine r_forget hC (ls2 := [some (vR 2 0), some (vI l), some (vI g), some (vR 7 l), some (vI w4), some (vI w5), some (vI w6), some (vI (w7 + 1)), some (vI (w8 + 1)), none]) (lsub_some (lsub_some (lsub_some (lsub_some (lsub_some (lsub_some (lsub_some (lsub_some (lsub_some (lsub_none lsub_nil)))))))))) ?_
                exact ih34 (w4) (w5) (w6) ((w7 + 1)) ((w8 + 1))  (by omega) (by omega) (by omega) (by omega) (by omega) (by first | rfl | (rw [loN_I (by omega)]; dsimp only; simp only [show (loN (σ 8 l) g (w8).toNat).1 = w6 + 1 from by omega, ← i1_34, ← i2_34, ← i3_34]; (repeat' split) <;> first | rfl | omega)) (by first | rfl | (rw [loN_I (by omega)]; dsimp only; simp only [show (loN (σ 8 l) g (w8).toNat).1 = w6 + 1 from by omega, ← i1_34, ← i2_34, ← i3_34]; (repeat' split) <;> first | rfl | omega)) (by first | rfl | (rw [loN_I (by omega)]; dsimp only; simp only [show (loN (σ 8 l) g (w8).toNat).1 = w6 + 1 from by omega, ← i1_34, ← i2_34, ← i3_34]; (repeat' split) <;> first | rfl | omega)) (by first | rfl | (rw [loN_I (by omega)]; dsimp only; simp only [show (loN (σ 8 l) g (w8).toNat).1 = w6 + 1 from by omega, ← i1_34, ← i2_34, ← i3_34]; (repeat' split) <;> first | rfl | omega)) (by omega) (by omega) (by omega) (by omega) (by omega) (by omega)  
              · refine r_iload hC dX5_longest_89 rfl ?_
                refine r_istore hC dX5_longest_91 rfl ?_
                refine r_iload hC dX5_longest_93 rfl ?_
                refine r_istore hC dX5_longest_95 rfl ?_
                refine r_iincE hC ((w8 + 1)) dX5_longest_97 rfl rfl (by omega) (by unfold inR; omega) ?_
                show K _ [_, _, _, _, _, _, _, _, _, _] _ _
                refine r_goto (tgt := 34) hC dX5_longest_100 rfl ?_
                refine r_forget hC (ls2 := [some (vR 2 0), some (vI l), some (vI g), some (vR 7 l), some (vI w6), some (vI (w7 + 1)), some (vI w6), some (vI (w7 + 1)), some (vI (w8 + 1)), none]) (lsub_some (lsub_some (lsub_some (lsub_some (lsub_some (lsub_some (lsub_some (lsub_some (lsub_some (lsub_none lsub_nil)))))))))) ?_
                exact ih34 (w6) ((w7 + 1)) (w6) ((w7 + 1)) ((w8 + 1))  (by omega) (by omega) (by omega) (by omega) (by omega) (by first | rfl | (rw [loN_I (by omega)]; dsimp only; simp only [show (loN (σ 8 l) g (w8).toNat).1 = w6 + 1 from by omega, ← i1_34, ← i2_34, ← i3_34]; (repeat' split) <;> first | rfl | omega)) (by first | rfl | (rw [loN_I (by omega)]; dsimp only; simp only [show (loN (σ 8 l) g (w8).toNat).1 = w6 + 1 from by omega, ← i1_34, ← i2_34, ← i3_34]; (repeat' split) <;> first | rfl | omega)) (by first | rfl | (rw [loN_I (by omega)]; dsimp only; simp only [show (loN (σ 8 l) g (w8).toNat).1 = w6 + 1 from by omega, ← i1_34, ← i2_34, ← i3_34]; (repeat' split) <;> first | rfl | omega)) (by first | rfl | (rw [loN_I (by omega)]; dsimp only; simp only [show (loN (σ 8 l) g (w8).toNat).1 = w6 + 1 from by omega, ← i1_34, ← i2_34, ← i3_34]; (repeat' split) <;> first | rfl | omega)) (by omega) (by omega) (by omega) (by omega) (by omega) (by omega)  
      exact L34 123 ((-1)) (0) ((-1)) (0) (0)  (by omega) (by omega) (by omega) (by omega) (by omega) (by first | rfl | (rw [loN_I (by omega)]; dsimp only; simp only [show (loN (σ 8 l) g (w8).toNat).1 = w6 + 1 from by omega, ← i1_34, ← i2_34, ← i3_34]; (repeat' split) <;> first | rfl | omega)) (by first | rfl | (rw [loN_I (by omega)]; dsimp only; simp only [show (loN (σ 8 l) g (w8).toNat).1 = w6 + 1 from by omega, ← i1_34, ← i2_34, ← i3_34]; (repeat' split) <;> first | rfl | omega)) (by first | rfl | (rw [loN_I (by omega)]; dsimp only; simp only [show (loN (σ 8 l) g (w8).toNat).1 = w6 + 1 from by omega, ← i1_34, ← i2_34, ← i3_34]; (repeat' split) <;> first | rfl | omega)) (by first | rfl | (rw [loN_I (by omega)]; dsimp only; simp only [show (loN (σ 8 l) g (w8).toNat).1 = w6 + 1 from by omega, ← i1_34, ← i2_34, ← i3_34]; (repeat' split) <;> first | rfl | omega)) (by omega) (by omega) (by omega) (by omega) (by omega) (by omega)  
    · refine r_if_ne (tgt := 19) hC dX5_longest_14 rfl (fun h18 => by omega) (fun h18 => ?_)
      refine r_iconst hC dX5_longest_17 rfl ?_
      refine y_iret hK rfl dX5_longest_18 ?_
      have hR : loR σ l g = (-1) := by
        exact if_neg (by unfold gaC opV; omega)
      rw [hR] at k
      exact k
  · refine r_astoreN_n hC dX5_longest_5 rfl ?_
    refine r_aloadN_n hC dX5_longest_6 rfl ?_
    refine r_ifnullN (tgt := 17) hC dX5_longest_7 rfl ?_
    refine r_iconst hC dX5_longest_17 rfl ?_
    refine y_iret hK rfl dX5_longest_18 ?_
    have hR : loR σ l g = (-1) := by
      exact if_neg (by unfold gaC opV; omega)
    rw [hR] at k
    exact k
theorem x_heldInAll {eb : Bool} {d : Nat} {P : Option Vl → Mm → Prop} {σ : Mm}  (hG : GI σ)  (k : P (some (vI (htN σ 4))) σ) : WT (true, false, eb) (d + 1) 118 [vR 2 0] σ P := by
  refine WT_in fun K hK => ?_
  have hK : StpY (true, false, eb) cX5_heldInAll RX5 (some .int) (WT (true, false, eb) (d + 0)) P K := hK
  have hM := hK.1
  have hC := hK.1.1
  show K 0 [some (vR 2 0), none, none] [] σ
  refine r_iconst hC dX5_heldInAll_0 rfl ?_
  refine r_istore_n hC dX5_heldInAll_1 rfl ?_
  refine r_iconst hC dX5_heldInAll_2 rfl ?_
  refine r_istore_n hC dX5_heldInAll_3 rfl ?_
  have L4 : ∀ (n4 : Nat) (w1 w2 : Int), 0 ≤ w1 ∧ w1 ≤ 4 → 0 ≤ w2 ∧ w2 ≤ 484 → ((w2) = htN σ ((w1)).toNat) → ((w2) ≤ 121 * (w1)) → 4 - w1 < (n4 : Int) → K 4 [some (vR 2 0), some (vI w2), some (vI w1)] [] σ := by
    intro n4
    induction n4 with
    | zero => intro w1 w2  f_w1 f_w2 i0_4 i1_4 hm  ; omega
    | succ n4 ih4 =>
      intro w1 w2  f_w1 f_w2 i0_4 i1_4 hm4  
      refine r_iload_n hC dX5_heldInAll_4 rfl ?_
      refine r_iconst hC dX5_heldInAll_5 rfl ?_
      refine r_icmp_ge (tgt := 43) hC dX5_heldInAll_6 rfl (fun h3 => ?_) (fun h3 => ?_)
      · refine r_iload_n hC dX5_heldInAll_43 rfl ?_
        refine y_iret hK rfl dX5_heldInAll_44 ?_
        have e_ : (w1).toNat = 4 := by omega
        rw [← e_, ← i0_4] at k
        exact k
      · refine r_iload_n hC dX5_heldInAll_9 rfl ?_
        refine r_aload_n hC dX5_heldInAll_10 rfl ?_
        refine z_getR hM dX5_heldInAll_11 fl_RX5_13 rfl rfl (vld_of (n := 1) rfl (by omega) (by omega)) ?_
        refine r_iload_n hC dX5_heldInAll_14 rfl ?_
        refine z_aald hM dX5_heldInAll_15 rfl (by decide) (by omega) (by omega) (vld_of (n := 7) rfl (by omega) (by omega)) ?_
        refine z_getI (jz := 1) hM dX5_heldInAll_16 fl_RX5_94 rfl rfl rfl (fun v4 h_v4 o_v4 t_v4 => ?_)
        have w_v4 := ((t_v4 (Or.inl (by first | exact trivial | exact tb7_ (by decide) | simp [Tb]))).trans (rfl)).symm
        clear t_v4
        subst w_v4
        have q_v4 : 0 ≤ (σ 7 w1 1) ∧ (σ 7 w1 1) ≤ 1 := by have := o_v4.2.1 rfl; omega
        refine r_if_eq (tgt := 34) hC dX5_heldInAll_19 rfl (fun h5 => ?_) (fun h5 => ?_)
        · refine r_iconst hC dX5_heldInAll_34 rfl ?_
          refine r_iaddE hC (w2) dX5_heldInAll_35 (by omega) (by unfold inR; omega) ?_
          refine r_istore_n hC dX5_heldInAll_36 rfl ?_
          refine r_iincE hC ((w1 + 1)) dX5_heldInAll_37 rfl rfl (by omega) (by unfold inR; omega) ?_
          refine r_goto (tgt := 4) hC dX5_heldInAll_40 rfl ?_
          exact ih4 ((w1 + 1)) (w2)  (by omega) (by omega) (by first | rfl | (rw [htN_I (by omega), ← i0_4]; first | (rw [if_pos (by omega)]; done) | (rw [if_neg (by omega)]; done) | (rw [if_pos (by omega)]; omega) | (rw [if_neg (by omega)]; omega))) (by omega) (by omega)  
        · refine r_aload_n hC dX5_heldInAll_22 rfl ?_
          refine z_getR hM dX5_heldInAll_23 fl_RX5_13 rfl rfl (vld_of (n := 1) rfl (by omega) (by omega)) ?_
          refine r_iload_n hC dX5_heldInAll_26 rfl ?_
          refine z_aald hM dX5_heldInAll_27 rfl (by decide) (by omega) (by omega) (vld_of (n := 7) rfl (by omega) (by omega)) ?_
          refine z_getI (jz := 6) hM dX5_heldInAll_28 fl_RX5_154 rfl rfl rfl (fun v6 h_v6 o_v6 t_v6 => ?_)
          have w_v6 := ((t_v6 (Or.inl (by first | exact trivial | exact tb7_ (by decide) | simp [Tb]))).trans (rfl)).symm
          clear t_v6
          subst w_v6
          have q_v6 : 0 ≤ (σ 7 w1 6) ∧ (σ 7 w1 6) ≤ 121 := o_v6.1 rfl
          refine r_goto (tgt := 35) hC dX5_heldInAll_31 rfl ?_
          refine r_iaddE hC ((w2 + (σ 7 w1 6))) dX5_heldInAll_35 (by omega) (by unfold inR; omega) ?_
          refine r_istore_n hC dX5_heldInAll_36 rfl ?_
          refine r_iincE hC ((w1 + 1)) dX5_heldInAll_37 rfl rfl (by omega) (by unfold inR; omega) ?_
          refine r_goto (tgt := 4) hC dX5_heldInAll_40 rfl ?_
          exact ih4 ((w1 + 1)) ((w2 + (σ 7 w1 6)))  (by omega) (by omega) (by first | rfl | (rw [htN_I (by omega), ← i0_4]; first | (rw [if_pos (by omega)]; done) | (rw [if_neg (by omega)]; done) | (rw [if_pos (by omega)]; omega) | (rw [if_neg (by omega)]; omega))) (by omega) (by omega)  
  exact L4 6 (0) (0)  (by omega) (by omega) (by first | rfl | (rw [htN_I (by omega), ← i0_4]; first | (rw [if_pos (by omega)]; done) | (rw [if_neg (by omega)]; done) | (rw [if_pos (by omega)]; omega) | (rw [if_neg (by omega)]; omega))) (by omega) (by omega)  
theorem x_spentInAll {eb : Bool} {d : Nat} {P : Option Vl → Mm → Prop} {σ : Mm}  (hG : GI σ)  (k : P (some (vI (spN σ 4))) σ) : WT (true, false, eb) (d + 1) 119 [vR 2 0] σ P := by
  refine WT_in fun K hK => ?_
  have hK : StpY (true, false, eb) cX5_spentInAll RX5 (some .int) (WT (true, false, eb) (d + 0)) P K := hK
  have hM := hK.1
  have hC := hK.1.1
  show K 0 [some (vR 2 0), none, none] [] σ
  refine r_iconst hC dX5_spentInAll_0 rfl ?_
  refine r_istore_n hC dX5_spentInAll_1 rfl ?_
  refine r_iconst hC dX5_spentInAll_2 rfl ?_
  refine r_istore_n hC dX5_spentInAll_3 rfl ?_
  have L4 : ∀ (n4 : Nat) (w1 w2 : Int), 0 ≤ w1 ∧ w1 ≤ 4 → -2147483648 ≤ w2 ∧ w2 ≤ 2147483647 → ((w2) = spN σ ((w1)).toNat) → 4 - w1 < (n4 : Int) → K 4 [some (vR 2 0), some (vI w2), some (vI w1)] [] σ := by
    intro n4
    induction n4 with
    | zero => intro w1 w2  f_w1 f_w2 i0_4 hm  ; omega
    | succ n4 ih4 =>
      intro w1 w2  f_w1 f_w2 i0_4 hm4  
      refine r_iload_n hC dX5_spentInAll_4 rfl ?_
      refine r_iconst hC dX5_spentInAll_5 rfl ?_
      refine r_icmp_ge (tgt := 46) hC dX5_spentInAll_6 rfl (fun h3 => ?_) (fun h3 => ?_)
      · refine r_iload_n hC dX5_spentInAll_46 rfl ?_
        refine y_iret hK rfl dX5_spentInAll_47 ?_
        have e_ : (w1).toNat = 4 := by omega
        rw [← e_, ← i0_4] at k
        exact k
      · refine r_iload_n hC dX5_spentInAll_9 rfl ?_
        refine r_aload_n hC dX5_spentInAll_10 rfl ?_
        refine z_getR hM dX5_spentInAll_11 fl_RX5_13 rfl rfl (vld_of (n := 1) rfl (by omega) (by omega)) ?_
        refine r_iload_n hC dX5_spentInAll_14 rfl ?_
        refine z_aald hM dX5_spentInAll_15 rfl (by decide) (by omega) (by omega) (vld_of (n := 7) rfl (by omega) (by omega)) ?_
        refine z_getI (jz := 1) hM dX5_spentInAll_16 fl_RX5_94 rfl rfl rfl (fun v4 h_v4 o_v4 t_v4 => ?_)
        have w_v4 := ((t_v4 (Or.inl (by first | exact trivial | exact tb7_ (by decide) | simp [Tb]))).trans (rfl)).symm
        clear t_v4
        subst w_v4
        have q_v4 : 0 ≤ (σ 7 w1 1) ∧ (σ 7 w1 1) ≤ 1 := by have := o_v4.2.1 rfl; omega
        refine r_if_eq (tgt := 37) hC dX5_spentInAll_19 rfl (fun h5 => ?_) (fun h5 => ?_)
        · refine r_iconst hC dX5_spentInAll_37 rfl ?_
          refine r_iaddE hC (w2) dX5_spentInAll_38 (by omega) (by unfold inR; omega) ?_
          refine r_istore_n hC dX5_spentInAll_39 rfl ?_
          refine r_iincE hC ((w1 + 1)) dX5_spentInAll_40 rfl rfl (by omega) (by unfold inR; omega) ?_
          refine r_goto (tgt := 4) hC dX5_spentInAll_43 rfl ?_
          exact ih4 ((w1 + 1)) (w2)  (by omega) (by omega) (by first | rfl | (rw [spN_I (by omega), ← i0_4]; first | (rw [if_pos (by omega)]; done) | (rw [if_neg (by omega)]; done) | (rw [if_pos (by omega)]; omega) | (rw [if_neg (by omega)]; omega))) (by omega)  
        · refine r_aload_n hC dX5_spentInAll_22 rfl ?_
          refine z_getR hM dX5_spentInAll_23 fl_RX5_13 rfl rfl (vld_of (n := 1) rfl (by omega) (by omega)) ?_
          refine r_iload_n hC dX5_spentInAll_26 rfl ?_
          refine z_aald hM dX5_spentInAll_27 rfl (by decide) (by omega) (by omega) (vld_of (n := 7) rfl (by omega) (by omega)) ?_
          refine z_getR hM dX5_spentInAll_28 fl_RX5_189 rfl rfl (vld_of (n := 8) rfl (by omega) (by omega)) ?_
          refine z_getI (jz := 5) hM dX5_spentInAll_31 fl_RX5_304 rfl rfl rfl (fun v6 h_v6 o_v6 t_v6 => ?_)
          have w_v6 := ((t_v6 (Or.inl (by first | exact trivial | exact tb7_ (by decide) | simp [Tb]))).trans (rfl)).symm
          clear t_v6
          subst w_v6
          refine r_goto (tgt := 38) hC dX5_spentInAll_34 rfl ?_
          refine r_iadd hC dX5_spentInAll_38 ?_
          have f7 := inR_le (inR_wr (w2 + (σ 11 w1 5)))
          refine r_istore_n hC dX5_spentInAll_39 rfl ?_
          refine r_iincE hC ((w1 + 1)) dX5_spentInAll_40 rfl rfl (by omega) (by unfold inR; omega) ?_
          refine r_goto (tgt := 4) hC dX5_spentInAll_43 rfl ?_
          exact ih4 ((w1 + 1)) ((wr (w2 + (σ 11 w1 5))))  (by omega) (by omega) (by first | rfl | (rw [spN_I (by omega), ← i0_4]; first | (rw [if_pos (by omega)]; done) | (rw [if_neg (by omega)]; done) | (rw [if_pos (by omega)]; omega) | (rw [if_neg (by omega)]; omega))) (by omega)  
  exact L4 6 (0) (0)  (by omega) (by omega) (by first | rfl | (rw [spN_I (by omega), ← i0_4]; first | (rw [if_pos (by omega)]; done) | (rw [if_neg (by omega)]; done) | (rw [if_pos (by omega)]; omega) | (rw [if_neg (by omega)]; omega))) (by omega)  
theorem x_toldWatches {eb : Bool} {d : Nat} {P : Option Vl → Mm → Prop} {σ : Mm}  (hG : GI σ)  (k : P (some (vI (wcN σ 8))) σ) : WT (true, false, eb) (d + 3) 120 [vR 2 0] σ P := by
  refine WT_in fun K hK => ?_
  have hK : StpY (true, false, eb) cX5_toldWatches RX5 (some .int) (WT (true, false, eb) (d + 2)) P K := hK
  have hM := hK.1
  have hC := hK.1.1
  show K 0 [some (vR 2 0), none, none] [] σ
  refine r_iconst hC dX5_toldWatches_0 rfl ?_
  refine r_istore_n hC dX5_toldWatches_1 rfl ?_
  refine r_iconst hC dX5_toldWatches_2 rfl ?_
  refine r_istore_n hC dX5_toldWatches_3 rfl ?_
  have L4 : ∀ (n4 : Nat) (w1 w2 : Int), 0 ≤ w1 ∧ w1 ≤ 8 → 0 ≤ w2 ∧ w2 ≤ 8 → ((w1) = wcN σ ((w2)).toNat) → ((w1) ≤ (w2)) → 8 - w2 < (n4 : Int) → K 4 [some (vR 2 0), some (vI w1), some (vI w2)] [] σ := by
    intro n4
    induction n4 with
    | zero => intro w1 w2  f_w1 f_w2 i0_4 i1_4 hm  ; omega
    | succ n4 ih4 =>
      intro w1 w2  f_w1 f_w2 i0_4 i1_4 hm4  
      refine r_iload_n hC dX5_toldWatches_4 rfl ?_
      refine r_bipush hC dX5_toldWatches_5 rfl ?_
      refine r_icmp_ge (tgt := 32) hC dX5_toldWatches_7 rfl (fun h3 => ?_) (fun h3 => ?_)
      · refine r_iload_n hC dX5_toldWatches_32 rfl ?_
        refine y_iret hK rfl dX5_toldWatches_33 ?_
        have e_ : (w2).toNat = 8 := by omega
        rw [← e_, ← i0_4] at k
        exact k
      · refine r_iload_n hC dX5_toldWatches_10 rfl ?_
        refine r_aload_n hC dX5_toldWatches_11 rfl ?_
        refine r_iload_n hC dX5_toldWatches_12 rfl ?_
        refine z_inv1 hM dX5_toldWatches_13 vl_RX5_312 rfl rfl rfl (Nat.le_of_ble_eq_true rfl) (Nat.le_of_ble_eq_true rfl) ?_
        refine x_isTold (fun h4 => ?_) (fun h4 => ?_)
        · refine r_if_eq (tgt := 23) hC dX5_toldWatches_16 rfl (fun h5 => by omega) (fun h5 => ?_)
          refine r_iconst hC dX5_toldWatches_19 rfl ?_
          refine r_goto (tgt := 24) hC dX5_toldWatches_20 rfl ?_
          refine r_iaddE hC ((w1 + 1)) dX5_toldWatches_24 (by omega) (by unfold inR; omega) ?_
          refine r_istore_n hC dX5_toldWatches_25 rfl ?_
          refine r_iincE hC ((w2 + 1)) dX5_toldWatches_26 rfl rfl (by omega) (by unfold inR; omega) ?_
          refine r_goto (tgt := 4) hC dX5_toldWatches_29 rfl ?_
          exact ih4 ((w1 + 1)) ((w2 + 1))  (by omega) (by omega) (by first | rfl | (rw [wcN_I (by omega), ← i0_4]; first | (rw [if_pos (by omega)]; done) | (rw [if_neg (by omega)]; done) | (rw [if_pos (by omega)]; omega) | (rw [if_neg (by omega)]; omega))) (by omega) (by omega)  
        · refine r_if_eq (tgt := 23) hC dX5_toldWatches_16 rfl (fun h6 => ?_) (fun h6 => by omega)
          refine r_iconst hC dX5_toldWatches_23 rfl ?_
          refine r_iaddE hC (w1) dX5_toldWatches_24 (by omega) (by unfold inR; omega) ?_
          refine r_istore_n hC dX5_toldWatches_25 rfl ?_
          refine r_iincE hC ((w2 + 1)) dX5_toldWatches_26 rfl rfl (by omega) (by unfold inR; omega) ?_
          refine r_goto (tgt := 4) hC dX5_toldWatches_29 rfl ?_
          exact ih4 (w1) ((w2 + 1))  (by omega) (by omega) (by first | rfl | (rw [wcN_I (by omega), ← i0_4]; first | (rw [if_pos (by omega)]; done) | (rw [if_neg (by omega)]; done) | (rw [if_pos (by omega)]; omega) | (rw [if_neg (by omega)]; omega))) (by omega) (by omega)  
  exact L4 10 (0) (0)  (by omega) (by omega) (by first | rfl | (rw [wcN_I (by omega), ← i0_4]; first | (rw [if_pos (by omega)]; done) | (rw [if_neg (by omega)]; done) | (rw [if_pos (by omega)]; omega) | (rw [if_neg (by omega)]; omega))) (by omega) (by omega)  
theorem x_fullBoxes {eb : Bool} {d : Nat} {P : Option Vl → Mm → Prop} {σ : Mm}  (hG : GI σ)  (k : P (some (vI (bxN σ 3))) σ) : WT (true, false, eb) (d + 1) 121 [vR 2 0] σ P := by
  refine WT_in fun K hK => ?_
  have hK : StpY (true, false, eb) cX5_fullBoxes RX5 (some .int) (WT (true, false, eb) (d + 0)) P K := hK
  have hM := hK.1
  have hC := hK.1.1
  show K 0 [some (vR 2 0), none, none] [] σ
  refine r_iconst hC dX5_fullBoxes_0 rfl ?_
  refine r_istore_n hC dX5_fullBoxes_1 rfl ?_
  refine r_iconst hC dX5_fullBoxes_2 rfl ?_
  refine r_istore_n hC dX5_fullBoxes_3 rfl ?_
  have L4 : ∀ (n4 : Nat) (w1 w2 : Int), 0 ≤ w1 ∧ w1 ≤ 3 → 0 ≤ w2 ∧ w2 ≤ 3 → ((w2) = bxN σ ((w1)).toNat) → ((w2) ≤ (w1)) → 3 - w1 < (n4 : Int) → K 4 [some (vR 2 0), some (vI w2), some (vI w1)] [] σ := by
    intro n4
    induction n4 with
    | zero => intro w1 w2  f_w1 f_w2 i0_4 i1_4 hm  ; omega
    | succ n4 ih4 =>
      intro w1 w2  f_w1 f_w2 i0_4 i1_4 hm4  
      refine r_iload_n hC dX5_fullBoxes_4 rfl ?_
      refine r_iconst hC dX5_fullBoxes_5 rfl ?_
      refine r_icmp_ge (tgt := 35) hC dX5_fullBoxes_6 rfl (fun h3 => ?_) (fun h3 => ?_)
      · refine r_iload_n hC dX5_fullBoxes_35 rfl ?_
        refine y_iret hK rfl dX5_fullBoxes_36 ?_
        have e_ : (w1).toNat = 3 := by omega
        rw [← e_, ← i0_4] at k
        exact k
      · refine r_iload_n hC dX5_fullBoxes_9 rfl ?_
        refine r_aload_n hC dX5_fullBoxes_10 rfl ?_
        refine z_getR hM dX5_fullBoxes_11 fl_RX5_27 rfl rfl (vld_of (n := 1) rfl (by omega) (by omega)) ?_
        refine r_iload_n hC dX5_fullBoxes_14 rfl ?_
        refine z_aald hM dX5_fullBoxes_15 rfl (by decide) (by omega) (by omega) (vld_of (n := 7) rfl (by omega) (by omega)) ?_
        rw [show rfa 4 w1 = (7, (w1 + 4)) from by simp [rfa]; try omega]
        refine z_getI (jz := 1) hM dX5_fullBoxes_16 fl_RX5_94 rfl rfl rfl (fun v4 h_v4 o_v4 t_v4 => ?_)
        have w_v4 := ((t_v4 (Or.inl (by first | exact trivial | exact tb7_ (by decide) | simp [Tb]))).trans (rfl)).symm
        clear t_v4
        subst w_v4
        have q_v4 : 0 ≤ (σ 7 (w1 + 4) 1) ∧ (σ 7 (w1 + 4) 1) ≤ 1 := by have := o_v4.2.1 rfl; omega
        refine r_if_eq (tgt := 26) hC dX5_fullBoxes_19 rfl (fun h5 => ?_) (fun h5 => ?_)
        · refine r_iconst hC dX5_fullBoxes_26 rfl ?_
          refine r_iaddE hC (w2) dX5_fullBoxes_27 (by omega) (by unfold inR; omega) ?_
          refine r_istore_n hC dX5_fullBoxes_28 rfl ?_
          refine r_iincE hC ((w1 + 1)) dX5_fullBoxes_29 rfl rfl (by omega) (by unfold inR; omega) ?_
          refine r_goto (tgt := 4) hC dX5_fullBoxes_32 rfl ?_
          exact ih4 ((w1 + 1)) (w2)  (by omega) (by omega) (by first | rfl | (rw [bxN_I (by omega), ← i0_4]; first | (rw [if_pos (by omega)]; done) | (rw [if_neg (by omega)]; done) | (rw [if_pos (by omega)]; omega) | (rw [if_neg (by omega)]; omega))) (by omega) (by omega)  
        · refine r_iconst hC dX5_fullBoxes_22 rfl ?_
          refine r_goto (tgt := 27) hC dX5_fullBoxes_23 rfl ?_
          refine r_iaddE hC ((w2 + 1)) dX5_fullBoxes_27 (by omega) (by unfold inR; omega) ?_
          refine r_istore_n hC dX5_fullBoxes_28 rfl ?_
          refine r_iincE hC ((w1 + 1)) dX5_fullBoxes_29 rfl rfl (by omega) (by unfold inR; omega) ?_
          refine r_goto (tgt := 4) hC dX5_fullBoxes_32 rfl ?_
          exact ih4 ((w1 + 1)) ((w2 + 1))  (by omega) (by omega) (by first | rfl | (rw [bxN_I (by omega), ← i0_4]; first | (rw [if_pos (by omega)]; done) | (rw [if_neg (by omega)]; done) | (rw [if_pos (by omega)]; omega) | (rw [if_neg (by omega)]; omega))) (by omega) (by omega)  
  exact L4 5 (0) (0)  (by omega) (by omega) (by first | rfl | (rw [bxN_I (by omega), ← i0_4]; first | (rw [if_pos (by omega)]; done) | (rw [if_neg (by omega)]; done) | (rw [if_pos (by omega)]; omega) | (rw [if_neg (by omega)]; omega))) (by omega) (by omega)  
theorem x_ringsInAll {eb : Bool} {d : Nat} {P : Option Vl → Mm → Prop} {σ : Mm}  (hG : GI σ)  (k : P (some (vI (rgN σ 8))) σ) : WT (true, false, eb) (d + 3) 122 [vR 2 0] σ P := by
  refine WT_in fun K hK => ?_
  have hK : StpY (true, false, eb) cX5_ringsInAll RX5 (some .int) (WT (true, false, eb) (d + 2)) P K := hK
  have hM := hK.1
  have hC := hK.1.1
  show K 0 [some (vR 2 0), none, none] [] σ
  refine r_iconst hC dX5_ringsInAll_0 rfl ?_
  refine r_istore_n hC dX5_ringsInAll_1 rfl ?_
  refine r_iconst hC dX5_ringsInAll_2 rfl ?_
  refine r_istore_n hC dX5_ringsInAll_3 rfl ?_
  have L4 : ∀ (n4 : Nat) (w1 w2 : Int), -2147483648 ≤ w1 ∧ w1 ≤ 2147483647 → 0 ≤ w2 ∧ w2 ≤ 8 → ((w1) = rgN σ ((w2)).toNat) → 8 - w2 < (n4 : Int) → K 4 [some (vR 2 0), some (vI w1), some (vI w2)] [] σ := by
    intro n4
    induction n4 with
    | zero => intro w1 w2  f_w1 f_w2 i0_4 hm  ; omega
    | succ n4 ih4 =>
      intro w1 w2  f_w1 f_w2 i0_4 hm4  
      refine r_iload_n hC dX5_ringsInAll_4 rfl ?_
      refine r_bipush hC dX5_ringsInAll_5 rfl ?_
      refine r_icmp_ge (tgt := 40) hC dX5_ringsInAll_7 rfl (fun h3 => ?_) (fun h3 => ?_)
      · refine r_iload_n hC dX5_ringsInAll_40 rfl ?_
        refine y_iret hK rfl dX5_ringsInAll_41 ?_
        have e_ : (w2).toNat = 8 := by omega
        rw [← e_, ← i0_4] at k
        exact k
      · refine r_iload_n hC dX5_ringsInAll_10 rfl ?_
        refine r_aload_n hC dX5_ringsInAll_11 rfl ?_
        refine r_iload_n hC dX5_ringsInAll_12 rfl ?_
        refine z_inv1 hM dX5_ringsInAll_13 vl_RX5_312 rfl rfl rfl (Nat.le_of_ble_eq_true rfl) (Nat.le_of_ble_eq_true rfl) ?_
        refine x_isTold (fun h4 => ?_) (fun h4 => ?_)
        · refine r_if_eq (tgt := 31) hC dX5_ringsInAll_16 rfl (fun h5 => by omega) (fun h5 => ?_)
          refine r_aload_n hC dX5_ringsInAll_19 rfl ?_
          refine z_getR hM dX5_ringsInAll_20 fl_RX5_32 rfl rfl (vld_of (n := 1) rfl (by omega) (by omega)) ?_
          refine r_iload_n hC dX5_ringsInAll_23 rfl ?_
          refine z_aald hM dX5_ringsInAll_24 rfl (by decide) (by omega) (by omega) (vld_of (n := 8) rfl (by omega) (by omega)) ?_
          refine z_getI (jz := 4) hM dX5_ringsInAll_25 fl_RX5_315 rfl rfl rfl (fun v6 h_v6 o_v6 t_v6 => ?_)
          have w_v6 := ((t_v6 (Or.inl (by first | exact trivial | exact tb7_ (by decide) | simp [Tb]))).trans (rfl)).symm
          clear t_v6
          subst w_v6
          refine r_goto (tgt := 32) hC dX5_ringsInAll_28 rfl ?_
          refine r_iadd hC dX5_ringsInAll_32 ?_
          have f7 := inR_le (inR_wr (w1 + (σ 12 w2 4)))
          refine r_istore_n hC dX5_ringsInAll_33 rfl ?_
          refine r_iincE hC ((w2 + 1)) dX5_ringsInAll_34 rfl rfl (by omega) (by unfold inR; omega) ?_
          refine r_goto (tgt := 4) hC dX5_ringsInAll_37 rfl ?_
          exact ih4 ((wr (w1 + (σ 12 w2 4)))) ((w2 + 1))  (by omega) (by omega) (by first | rfl | (rw [rgN_I (by omega), ← i0_4]; first | (rw [if_pos (by omega)]; done) | (rw [if_neg (by omega)]; done) | (rw [if_pos (by omega)]; omega) | (rw [if_neg (by omega)]; omega))) (by omega)  
        · refine r_if_eq (tgt := 31) hC dX5_ringsInAll_16 rfl (fun h8 => ?_) (fun h8 => by omega)
          refine r_iconst hC dX5_ringsInAll_31 rfl ?_
          refine r_iaddE hC (w1) dX5_ringsInAll_32 (by omega) (by unfold inR; omega) ?_
          refine r_istore_n hC dX5_ringsInAll_33 rfl ?_
          refine r_iincE hC ((w2 + 1)) dX5_ringsInAll_34 rfl rfl (by omega) (by unfold inR; omega) ?_
          refine r_goto (tgt := 4) hC dX5_ringsInAll_37 rfl ?_
          exact ih4 (w1) ((w2 + 1))  (by omega) (by omega) (by first | rfl | (rw [rgN_I (by omega), ← i0_4]; first | (rw [if_pos (by omega)]; done) | (rw [if_neg (by omega)]; done) | (rw [if_pos (by omega)]; omega) | (rw [if_neg (by omega)]; omega))) (by omega)  
  exact L4 10 (0) (0)  (by omega) (by omega) (by first | rfl | (rw [rgN_I (by omega), ← i0_4]; first | (rw [if_pos (by omega)]; done) | (rw [if_neg (by omega)]; done) | (rw [if_pos (by omega)]; omega) | (rw [if_neg (by omega)]; omega))) (by omega)  
theorem x_linksInAll {eb : Bool} {d : Nat} {P : Option Vl → Mm → Prop} {σ : Mm}  (hG : GI σ)  (k : P (some (vI (lnN σ 4))) σ) : WT (true, false, eb) (d + 1) 123 [vR 2 0] σ P := by
  refine WT_in fun K hK => ?_
  have hK : StpY (true, false, eb) cX5_linksInAll RX5 (some .int) (WT (true, false, eb) (d + 0)) P K := hK
  have hM := hK.1
  have hC := hK.1.1
  show K 0 [some (vR 2 0), none, none] [] σ
  refine r_iconst hC dX5_linksInAll_0 rfl ?_
  refine r_istore_n hC dX5_linksInAll_1 rfl ?_
  refine r_iconst hC dX5_linksInAll_2 rfl ?_
  refine r_istore_n hC dX5_linksInAll_3 rfl ?_
  have L4 : ∀ (n4 : Nat) (w1 w2 : Int), 0 ≤ w1 ∧ w1 ≤ 4 → 0 ≤ w2 ∧ w2 ≤ 4 → ((w2) = lnN σ ((w1)).toNat) → ((w2) ≤ (w1)) → 4 - w1 < (n4 : Int) → K 4 [some (vR 2 0), some (vI w2), some (vI w1)] [] σ := by
    intro n4
    induction n4 with
    | zero => intro w1 w2  f_w1 f_w2 i0_4 i1_4 hm  ; omega
    | succ n4 ih4 =>
      intro w1 w2  f_w1 f_w2 i0_4 i1_4 hm4  
      refine r_iload_n hC dX5_linksInAll_4 rfl ?_
      refine r_iconst hC dX5_linksInAll_5 rfl ?_
      refine r_icmp_ge (tgt := 36) hC dX5_linksInAll_6 rfl (fun h3 => ?_) (fun h3 => ?_)
      · refine r_iload_n hC dX5_linksInAll_36 rfl ?_
        refine y_iret hK rfl dX5_linksInAll_37 ?_
        have e_ : (w1).toNat = 4 := by omega
        rw [← e_, ← i0_4] at k
        exact k
      · refine r_iload_n hC dX5_linksInAll_9 rfl ?_
        refine r_aload_n hC dX5_linksInAll_10 rfl ?_
        refine z_getR hM dX5_linksInAll_11 fl_RX5_19 rfl rfl (vld_of (n := 1) rfl (by omega) (by omega)) ?_
        refine r_iload_n hC dX5_linksInAll_14 rfl ?_
        refine z_aald hM dX5_linksInAll_15 rfl (by decide) (by omega) (by omega) (vld_of (n := 4) rfl (by omega) (by omega)) ?_
        refine z_getI (jz := 0) hM dX5_linksInAll_16 fl_RX5_215 rfl rfl rfl (fun v4 h_v4 o_v4 t_v4 => ?_)
        have w_v4 := ((t_v4 (Or.inl (by first | exact trivial | exact tb7_ (by decide) | simp [Tb]))).trans (rfl)).symm
        clear t_v4
        subst w_v4
        refine r_iconst hC dX5_linksInAll_19 rfl ?_
        refine r_icmp_eq (tgt := 27) hC dX5_linksInAll_20 rfl (fun h5 => ?_) (fun h5 => ?_)
        · refine r_iconst hC dX5_linksInAll_27 rfl ?_
          refine r_iaddE hC (w2) dX5_linksInAll_28 (by omega) (by unfold inR; omega) ?_
          refine r_istore_n hC dX5_linksInAll_29 rfl ?_
          refine r_iincE hC ((w1 + 1)) dX5_linksInAll_30 rfl rfl (by omega) (by unfold inR; omega) ?_
          refine r_goto (tgt := 4) hC dX5_linksInAll_33 rfl ?_
          exact ih4 ((w1 + 1)) (w2)  (by omega) (by omega) (by first | rfl | (rw [lnN_I (by omega), ← i0_4]; first | (rw [if_pos (by omega)]; done) | (rw [if_neg (by omega)]; done) | (rw [if_pos (by omega)]; omega) | (rw [if_neg (by omega)]; omega))) (by omega) (by omega)  
        · refine r_iconst hC dX5_linksInAll_23 rfl ?_
          refine r_goto (tgt := 28) hC dX5_linksInAll_24 rfl ?_
          refine r_iaddE hC ((w2 + 1)) dX5_linksInAll_28 (by omega) (by unfold inR; omega) ?_
          refine r_istore_n hC dX5_linksInAll_29 rfl ?_
          refine r_iincE hC ((w1 + 1)) dX5_linksInAll_30 rfl rfl (by omega) (by unfold inR; omega) ?_
          refine r_goto (tgt := 4) hC dX5_linksInAll_33 rfl ?_
          exact ih4 ((w1 + 1)) ((w2 + 1))  (by omega) (by omega) (by first | rfl | (rw [lnN_I (by omega), ← i0_4]; first | (rw [if_pos (by omega)]; done) | (rw [if_neg (by omega)]; done) | (rw [if_pos (by omega)]; omega) | (rw [if_neg (by omega)]; omega))) (by omega) (by omega)  
  exact L4 6 (0) (0)  (by omega) (by omega) (by first | rfl | (rw [lnN_I (by omega), ← i0_4]; first | (rw [if_pos (by omega)]; done) | (rw [if_neg (by omega)]; done) | (rw [if_pos (by omega)]; omega) | (rw [if_neg (by omega)]; omega))) (by omega) (by omega)  
theorem x_about {eb : Bool} {d : Nat} {P : Option Vl → Mm → Prop} {σ : Mm} {w : Int}  (hG : GI σ)  (k : P (some (vI (abR σ w))) σ) : WT (true, false, eb) (d + 4) 116 [vR 2 0, vI w] σ P := by
  refine WT_in fun K hK => ?_
  have hK : StpY (true, false, eb) cX5_about RX5 (some .int) (WT (true, false, eb) (d + 3)) P K := hK
  have hM := hK.1
  have hC := hK.1.1
  show K 0 [some (vR 2 0), some (vI w)] [] σ
  refine r_rngz hC (fun g0 => ?_)
  have r_w : -2147483648 ≤ w ∧ w ≤ 2147483647 := inR_le (g0 (vI w) (by simp))
  have hcl := hG.2.1.2.2.2.2.2.2.2
  have hrow := hG.2.1.2.2.1
  refine r_iload_n hC dX5_about_0 rfl ?_
  rcases (by omega : (w < 0 ∨ 6 < w) ∨ w = 0 ∨ w = 1 ∨ w = 2 ∨ w = 3 ∨ w = 4 ∨ w = 5 ∨ w = 6) with h1 | h1 | h1 | h1 | h1 | h1 | h1 | h1
  · refine r_tableOut (tgt := 79) hC dX5_about_1 h1 rfl ?_
    refine r_iconst hC dX5_about_79 rfl ?_
    refine y_iret hK rfl dX5_about_80 ?_
    have hR : abR σ w = (-1) := by
      unfold abR
      (repeat' split) <;> first | rfl | omega
    rw [hR] at k
    exact k
  · refine r_tableIn (tgt := 44) (off := 43) hC dX5_about_1 (by omega) (by omega) (by rw [h1]; rfl) rfl ?_
    refine r_aload_n hC dX5_about_44 rfl ?_
    refine z_inv0 hM dX5_about_45 vl_RX5_120 rfl rfl rfl (Nat.le_of_ble_eq_true rfl) (Nat.le_of_ble_eq_true rfl) ?_
    refine x_openLanes ?_
    refine y_iret hK rfl dX5_about_48 ?_
    have hR : abR σ w = (cntO σ) := by
      unfold abR
      (repeat' split) <;> first | rfl | omega
    rw [hR] at k
    exact k
  · refine r_tableIn (tgt := 49) (off := 48) hC dX5_about_1 (by omega) (by omega) (by rw [h1]; rfl) rfl ?_
    refine r_aload_n hC dX5_about_49 rfl ?_
    refine z_inv0 hM dX5_about_50 vl_RX5_351 rfl rfl rfl (Nat.le_of_ble_eq_true rfl) (Nat.le_of_ble_eq_true rfl) ?_
    refine x_heldInAll hG ?_
    refine y_iret hK rfl dX5_about_53 ?_
    have hR : abR σ w = (htN σ 4) := by
      unfold abR
      (repeat' split) <;> first | rfl | omega
    rw [hR] at k
    exact k
  · refine r_tableIn (tgt := 54) (off := 53) hC dX5_about_1 (by omega) (by omega) (by rw [h1]; rfl) rfl ?_
    refine r_aload_n hC dX5_about_54 rfl ?_
    refine z_inv0 hM dX5_about_55 vl_RX5_354 rfl rfl rfl (Nat.le_of_ble_eq_true rfl) (Nat.le_of_ble_eq_true rfl) ?_
    refine x_spentInAll hG ?_
    refine y_iret hK rfl dX5_about_58 ?_
    have hR : abR σ w = (spN σ 4) := by
      unfold abR
      (repeat' split) <;> first | rfl | omega
    rw [hR] at k
    exact k
  · refine r_tableIn (tgt := 59) (off := 58) hC dX5_about_1 (by omega) (by omega) (by rw [h1]; rfl) rfl ?_
    refine r_aload_n hC dX5_about_59 rfl ?_
    refine z_inv0 hM dX5_about_60 vl_RX5_357 rfl rfl rfl (Nat.le_of_ble_eq_true rfl) (Nat.le_of_ble_eq_true rfl) ?_
    refine x_toldWatches hG ?_
    refine y_iret hK rfl dX5_about_63 ?_
    have hR : abR σ w = (wcN σ 8) := by
      unfold abR
      (repeat' split) <;> first | rfl | omega
    rw [hR] at k
    exact k
  · refine r_tableIn (tgt := 64) (off := 63) hC dX5_about_1 (by omega) (by omega) (by rw [h1]; rfl) rfl ?_
    refine r_aload_n hC dX5_about_64 rfl ?_
    refine z_inv0 hM dX5_about_65 vl_RX5_360 rfl rfl rfl (Nat.le_of_ble_eq_true rfl) (Nat.le_of_ble_eq_true rfl) ?_
    refine x_fullBoxes hG ?_
    refine y_iret hK rfl dX5_about_68 ?_
    have hR : abR σ w = (bxN σ 3) := by
      unfold abR
      (repeat' split) <;> first | rfl | omega
    rw [hR] at k
    exact k
  · refine r_tableIn (tgt := 69) (off := 68) hC dX5_about_1 (by omega) (by omega) (by rw [h1]; rfl) rfl ?_
    refine r_aload_n hC dX5_about_69 rfl ?_
    refine z_inv0 hM dX5_about_70 vl_RX5_363 rfl rfl rfl (Nat.le_of_ble_eq_true rfl) (Nat.le_of_ble_eq_true rfl) ?_
    refine x_ringsInAll hG ?_
    refine y_iret hK rfl dX5_about_73 ?_
    have hR : abR σ w = (rgN σ 8) := by
      unfold abR
      (repeat' split) <;> first | rfl | omega
    rw [hR] at k
    exact k
  · refine r_tableIn (tgt := 74) (off := 73) hC dX5_about_1 (by omega) (by omega) (by rw [h1]; rfl) rfl ?_
    refine r_aload_n hC dX5_about_74 rfl ?_
    refine z_inv0 hM dX5_about_75 vl_RX5_366 rfl rfl rfl (Nat.le_of_ble_eq_true rfl) (Nat.le_of_ble_eq_true rfl) ?_
    refine x_linksInAll hG ?_
    refine y_iret hK rfl dX5_about_78 ?_
    have hR : abR σ w = (lnN σ 4) := by
      unfold abR
      (repeat' split) <;> first | rfl | omega
    rw [hR] at k
    exact k
