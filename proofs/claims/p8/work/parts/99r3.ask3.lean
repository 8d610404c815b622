-- B: what is asked: bests, and rows of like ones gone over at once
def BestP (f : Int → Int) (n a b : Int) : Prop := (0 ≤ a ∧ a < n) ∧ b = f a ∧ (∀ i : Int, 0 ≤ i → i < a → f i < f a) ∧ ∀ i : Int, a ≤ i → i < n → f i ≤ f a
theorem BestP.one {f : Int → Int} {b : Int} (h : b = f 0) : BestP f 1 0 b := ⟨by omega, h, fun i a c => by omega, fun i a c => by have e : i = 0 := (by omega); subst e; exact Int.le_refl _⟩
theorem BestP.no {f : Int → Int} {n a b : Int} (p : BestP f n a b) (h : f n ≤ b) : BestP f (n + 1) a b := by
  obtain ⟨p1, p2, p3, p4⟩ := p
  refine ⟨by omega, p2, p3, fun i c d => ?_⟩
  by_cases e : i = n
  · subst e; omega
  · exact p4 i c (by omega)
theorem BestP.yes {f : Int → Int} {n a b : Int} (p : BestP f n a b) (h : b < f n) : BestP f (n + 1) n (f n) := by
  obtain ⟨p1, p2, p3, p4⟩ := p
  refine ⟨by omega, rfl, fun i c d => ?_, fun i c d => by have e : i = n := (by omega); subst e; exact Int.le_refl _⟩
  by_cases e : i < a
  · have := p3 i c e
    omega
  · have := p4 i (by omega) d
    omega
theorem BestP.done {f : Int → Int} {n a b N : Int} (p : BestP f n a b) (h : n = N + 1) : Best f N a := ⟨⟨p.1.1, by have := p.1.2; omega⟩, p.2.2.1, fun i c d => p.2.2.2 i c (by omega)⟩
/-- as the class sees it: nothing yet, or a best one -/
def BestQ (f : Int → Int) (n a b : Int) : Prop := (n = 0 ∧ a = 0 ∧ b = NO) ∨ BestP f n a b
theorem BestQ.no {f : Int → Int} {n a b : Int} (p : BestQ f n a b) (h : f n ≤ b) (hr : NO ≤ f n) : BestQ f (n + 1) a b := by
  rcases p with ⟨rfl, rfl, rfl⟩ | p
  · exact Or.inr (BestP.one (by omega))
  · exact Or.inr (p.no h)
theorem BestQ.yes {f : Int → Int} {n a b : Int} (p : BestQ f n a b) (h : b < f n) : BestQ f (n + 1) n (f n) := by
  rcases p with ⟨rfl, rfl, rfl⟩ | p
  · exact Or.inr (BestP.one rfl)
  · exact Or.inr (p.yes h)
theorem BestQ.done {f : Int → Int} {n a b N : Int} (p : BestQ f n a b) (h : n = N + 1) (hN : 0 ≤ N) : Best f N a := by
  rcases p with p | p
  · omega
  · exact p.done h
-- PANES
abbrev pnB (T : Int → Int) (w i : Int) : Prop := i = 0 ∨ T i / w ≠ T (i - 1) / w
def paneR (T : Int → Int) (w h i r : Int) : Prop := (1 ≤ r ∧ i + r ≤ h) ∧ (∀ j : Int, i ≤ j → j < i + r → T j / w = T i / w) ∧ (i + r < h → T (i + r) / w ≠ T i / w)
theorem paneR.next {T : Int → Int} {w h i r : Int} (p : paneR T w h i r) (q : i + r < h) : pnB T w (i + r) := Or.inr (by
  rw [p.2.1 (i + r - 1) (by have := p.1.1; omega) (by omega)]
  exact p.2.2 q)
theorem pn_run {T : Int → Int} {w h i : Int} (h0 : 0 ≤ i) (b : pnB T w i) {r : Int} (p : paneR T w h i r) : pnN T w (i + r).toNat = pnN T w i.toNat + 1 := by
  have key : ∀ c : Nat, (c : Int) + 1 ≤ r → pnN T w (i + (c + 1)).toNat = pnN T w i.toNat + 1 := fun c => by
    induction c with
    | zero =>
      intro _
      rw [show i + (((0 : Nat) : Int) + 1) = i + 1 from by omega, pnN_I h0, if_pos b]
    | succ c ih =>
      intro q
      rw [show i + (((c + 1 : Nat) : Int) + 1) = (i + (c + 1)) + 1 from by omega, pnN_I (by omega), ih (by omega)]
      have a1 := p.2.1 (i + (c + 1)) (by omega) (by omega)
      have a2 := p.2.1 (i + (c + 1) - 1) (by omega) (by omega)
      rw [if_neg (by rintro (z | z); omega; exact z (a1.trans a2.symm))]
      omega
  have := key (r - 1).toNat (by have := p.1.1; omega)
  rw [show i + (((r - 1).toNat : Int) + 1) = i + r from by have := p.1.1; omega] at this
  exact this
theorem fl_run {T : Int → Int} {w h i : Int} (h0 : 0 ≤ i) (b : pnB T w i) {r : Int} (p : paneR T w h i r) (hm : 0 ≤ (flN T w i.toNat).2.1) : flN T w (i + r).toNat = (r, if r > (flN T w i.toNat).2.1 then r else (flN T w i.toNat).2.1, if r > (flN T w i.toNat).2.1 then T i / w else (flN T w i.toNat).2.2) := by
  have key : ∀ c : Nat, (c : Int) + 1 ≤ r → flN T w (i + (c + 1)).toNat = ((c : Int) + 1, if (c : Int) + 1 > (flN T w i.toNat).2.1 then (c : Int) + 1 else (flN T w i.toNat).2.1, if (c : Int) + 1 > (flN T w i.toNat).2.1 then T i / w else (flN T w i.toNat).2.2) := fun c => by
    induction c with
    | zero =>
      intro _
      rw [show i + (((0 : Nat) : Int) + 1) = i + 1 from by omega, flN_I h0]
      have nb : ¬ (i ≠ 0 ∧ T i / w = T (i - 1) / w) := fun z => by rcases b with q | q; exact z.1 q; exact q z.2
      simp only [if_neg nb]
      rfl
    | succ c ih =>
      intro q
      rw [show i + (((c + 1 : Nat) : Int) + 1) = (i + (c + 1)) + 1 from by omega, flN_I (by omega), ih (by omega)]
      have a1 := p.2.1 (i + (c + 1)) (by omega) (by omega)
      have a2 := p.2.1 (i + (c + 1) - 1) (by omega) (by omega)
      have yb : i + (↑c + 1) ≠ 0 ∧ T (i + (c + 1)) / w = T (i + (c + 1) - 1) / w := ⟨by omega, a1.trans a2.symm⟩
      dsimp only
      simp only [if_pos yb]
      simp only [a1, show ((c + 1 : Nat) : Int) = (c : Int) + 1 from by omega]
      by_cases z : (c : Int) + 1 > (flN T w i.toNat).2.1
      · simp only [if_pos z, if_pos (show (c : Int) + 1 + 1 > (flN T w i.toNat).2.1 by omega), if_pos (show (c : Int) + 1 + 1 > (c : Int) + 1 by omega)]
      · simp only [if_neg z]
  have := key (r - 1).toNat (by have := p.1.1; omega)
  rw [show i + (((r - 1).toNat : Int) + 1) = i + r from by have := p.1.1; omega, show (((r - 1).toNat : Int) + 1) = r from by have := p.1.1; omega] at this
  exact this
theorem flN_b {T : Int → Int} {w : Int} : ∀ n : Nat, (0 ≤ (flN T w n).1 ∧ (flN T w n).1 ≤ n) ∧ 0 ≤ (flN T w n).2.1 ∧ (flN T w n).2.1 ≤ n
  | 0 => by
    have e : flN T w 0 = (0, 0, -1) := rfl
    rw [e]
    dsimp only
    omega
  | n + 1 => by
    have ih := flN_b (T := T) (w := w) n
    have e := flN_I (T := T) (w := w) (show (0 : Int) ≤ n by omega)
    rw [show ((n : Int) + 1).toNat = n + 1 from by omega, Int.toNat_natCast] at e
    rw [e]
    dsimp only
    (repeat' split) <;> omega
-- SESSIONS
abbrev ssB (T : Int → Int) (g i : Int) : Prop := i = 0 ∨ wr (T i - T (i - 1)) > g
def sesR (T : Int → Int) (g h i r : Int) : Prop := (1 ≤ r ∧ i + r ≤ h) ∧ (∀ j : Int, i < j → j < i + r → ¬ wr (T j - T (j - 1)) > g) ∧ (i + r < h → wr (T (i + r) - T (i + r - 1)) > g)
theorem sesR.next {T : Int → Int} {g h i r : Int} (p : sesR T g h i r) (q : i + r < h) : ssB T g (i + r) := Or.inr (p.2.2 q)
theorem ss_run {T : Int → Int} {g h i : Int} (h0 : 0 ≤ i) (b : ssB T g i) {r : Int} (p : sesR T g h i r) : ssN T g (i + r).toNat = ssN T g i.toNat + 1 := by
  have key : ∀ c : Nat, (c : Int) + 1 ≤ r → ssN T g (i + (c + 1)).toNat = ssN T g i.toNat + 1 := fun c => by
    induction c with
    | zero =>
      intro _
      rw [show i + (((0 : Nat) : Int) + 1) = i + 1 from by omega, ssN_I h0, if_pos b]
    | succ c ih =>
      intro q
      rw [show i + (((c + 1 : Nat) : Int) + 1) = (i + (c + 1)) + 1 from by omega, ssN_I (by omega), ih (by omega)]
      have a1 := p.2.1 (i + (c + 1)) (by omega) (by omega)
      rw [if_neg (by rintro (z | z); omega; exact a1 z)]
      omega
  have := key (r - 1).toNat (by have := p.1.1; omega)
  rw [show i + (((r - 1).toNat : Int) + 1) = i + r from by have := p.1.1; omega] at this
  exact this
theorem lo_run {T : Int → Int} {g h i : Int} (h0 : 0 ≤ i) (b : ssB T g i) {r : Int} (p : sesR T g h i r) (hm : 0 ≤ (loN T g i.toNat).2.2.1) : loN T g (i + r).toNat = ((loN T g i.toNat).1 + 1, r, if r > (loN T g i.toNat).2.2.1 then r else (loN T g i.toNat).2.2.1, if r > (loN T g i.toNat).2.2.1 then (loN T g i.toNat).1 else (loN T g i.toNat).2.2.2) := by
  have key : ∀ c : Nat, (c : Int) + 1 ≤ r → loN T g (i + (c + 1)).toNat = ((loN T g i.toNat).1 + 1, (c : Int) + 1, if (c : Int) + 1 > (loN T g i.toNat).2.2.1 then (c : Int) + 1 else (loN T g i.toNat).2.2.1, if (c : Int) + 1 > (loN T g i.toNat).2.2.1 then (loN T g i.toNat).1 else (loN T g i.toNat).2.2.2) := fun c => by
    induction c with
    | zero =>
      intro _
      rw [show i + (((0 : Nat) : Int) + 1) = i + 1 from by omega, loN_I h0]
      simp only [if_pos b, show (loN T g i.toNat).1 + 1 - 1 = (loN T g i.toNat).1 from by omega]
      rfl
    | succ c ih =>
      intro q
      rw [show i + (((c + 1 : Nat) : Int) + 1) = (i + (c + 1)) + 1 from by omega, loN_I (by omega), ih (by omega)]
      have a1 := p.2.1 (i + (c + 1)) (by omega) (by omega)
      have nb : ¬ (i + (↑c + 1) = 0 ∨ wr (T (i + (c + 1)) - T (i + (c + 1) - 1)) > g) := by rintro (z | z); omega; exact a1 z
      simp only [if_neg nb, show ((c + 1 : Nat) : Int) = (c : Int) + 1 from by omega, show (loN T g i.toNat).1 + 1 - 1 = (loN T g i.toNat).1 from by omega]
      by_cases z : (c : Int) + 1 > (loN T g i.toNat).2.2.1
      · simp only [if_pos z, if_pos (show (c : Int) + 1 + 1 > (loN T g i.toNat).2.2.1 by omega), if_pos (show (c : Int) + 1 + 1 > (c : Int) + 1 by omega)]
      · simp only [if_neg z]
  have := key (r - 1).toNat (by have := p.1.1; omega)
  rw [show i + (((r - 1).toNat : Int) + 1) = i + r from by have := p.1.1; omega, show (((r - 1).toNat : Int) + 1) = r from by have := p.1.1; omega] at this
  exact this
theorem loN_b {T : Int → Int} {g : Int} : ∀ n : Nat, (0 ≤ (loN T g n).1 ∧ (loN T g n).1 ≤ n) ∧ (0 ≤ (loN T g n).2.1 ∧ (loN T g n).2.1 ≤ n) ∧ 0 ≤ (loN T g n).2.2.1 ∧ (loN T g n).2.2.1 ≤ n
  | 0 => by
    have e : loN T g 0 = (0, 0, 0, -1) := rfl
    rw [e]
    dsimp only
    omega
  | n + 1 => by
    have ih := loN_b (T := T) (g := g) n
    have e := loN_I (T := T) (g := g) (show (0 : Int) ≤ n by omega)
    rw [show ((n : Int) + 1).toNat = n + 1 from by omega, Int.toNat_natCast] at e
    rw [e]
    dsimp only
    (repeat' split) <;> omega
/-- one SESSION gone over -/
theorem st_run {T : Int → Int} {g s h i : Int} (hs : 0 ≤ s) (h0 : 0 ≤ i) (b : ssB T g i) {r : Int} (p : sesR T g h i r) : (sst T g s (i + r).toNat).1 = (sst T g s i.toNat).1 + 1 ∧ ((sst T g s i.toNat).1 = s → (sst T g s (i + r).toNat).2 = (i, r)) ∧ ((sst T g s i.toNat).1 ≠ s → (sst T g s (i + r).toNat).2 = (sst T g s i.toNat).2) := by
  have key : ∀ c : Nat, (c : Int) + 1 ≤ r → (sst T g s (i + (c + 1)).toNat).1 = (sst T g s i.toNat).1 + 1 ∧ ((sst T g s i.toNat).1 = s → (sst T g s (i + (c + 1)).toNat).2.1 = i ∧ (sst T g s (i + (c + 1)).toNat).2.2 = c + 1) ∧ ((sst T g s i.toNat).1 ≠ s → (sst T g s (i + (c + 1)).toNat).2.1 = (sst T g s i.toNat).2.1 ∧ (sst T g s (i + (c + 1)).toNat).2.2 = (sst T g s i.toNat).2.2) := fun c => by
    induction c with
    | zero =>
      intro _
      have q := sst_y (s := s) h0 b
      have z := sst_b (T := T) (g := g) hs i.toNat
      rw [show i + (((0 : Nat) : Int) + 1) = i + 1 from by omega]
      omega
    | succ c ih =>
      intro q
      have ih := ih (by omega)
      have a1 := p.2.1 (i + (c + 1)) (by omega) (by omega)
      have st := sst_n (T := T) (g := g) (s := s) (i := i + (c + 1)) (by omega) (by rintro (z | z); omega; exact a1 z)
      rw [show i + (((c + 1 : Nat) : Int) + 1) = (i + (c + 1)) + 1 from by omega]
      omega
  have q := key (r - 1).toNat (by have := p.1.1; omega)
  rw [show i + (((r - 1).toNat : Int) + 1) = i + r from by have := p.1.1; omega, show (((r - 1).toNat : Int) + 1) = r from by have := p.1.1; omega] at q
  exact ⟨q.1, fun z => Prod.ext (q.2.1 z).1 (q.2.1 z).2, fun z => Prod.ext (q.2.2 z).1 (q.2.2 z).2⟩
theorem sst_past {T : Int → Int} {g s i : Int} (h0 : 0 ≤ i) (hp : (sst T g s i.toNat).1 - 1 > s) : ∀ k : Nat, (sst T g s (i + k).toNat).1 - 1 > s ∧ (sst T g s (i + k).toNat).2.1 = (sst T g s i.toNat).2.1 ∧ (sst T g s (i + k).toNat).2.2 = (sst T g s i.toNat).2.2
  | 0 => by
    rw [show i + ((0 : Nat) : Int) = i from by omega]
    exact ⟨hp, rfl, rfl⟩
  | k + 1 => by
    have ih := sst_past h0 hp k
    rw [show i + ((k + 1 : Nat) : Int) = i + k + 1 from by omega]
    by_cases c : i + k = 0 ∨ wr (T (i + k) - T (i + k - 1)) > g
    · have q := sst_y (s := s) (show 0 ≤ i + k by omega) c
      omega
    · have q := sst_n (s := s) (show 0 ≤ i + k by omega) c
      omega
/-- the SESSION asked for, gone over: nothing behind it changes it -/
theorem st_fin {T : Int → Int} {g s h i : Int} (hs : 0 ≤ s) (h0 : 0 ≤ i) (b : ssB T g i) (hn : (sst T g s i.toNat).1 = s) {r : Int} (p : sesR T g h i r) : (sst T g s h.toNat).2 = (i, r) := by
  have q := st_run hs h0 b p
  have q2 := q.2.1 hn
  by_cases z : i + r = h
  · rw [← z]; exact q2
  · have p1 := p.1
    have st := sst_y (T := T) (g := g) (s := s) (i := i + r) (by omega) (Or.inr (p.2.2 (by omega)))
    have e1 : (sst T g s (i + r).toNat).2.1 = i := by rw [q2]
    have e2 : (sst T g s (i + r).toNat).2.2 = r := by rw [q2]
    have z2 := sst_past (T := T) (g := g) (s := s) (i := i + r + 1) (by omega) (by omega) (h - (i + r + 1)).toNat
    rw [show i + r + 1 + (((h - (i + r + 1)).toNat : Nat) : Int) = h from by omega] at z2
    exact Prod.ext (by omega) (by omega)
