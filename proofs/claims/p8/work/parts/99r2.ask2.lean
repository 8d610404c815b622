-- B: what is asked of folds: steps
theorem wvS_y {T S : Int → Int} {h g : Int} {n : Nat} (c : wvC T S h g (wvS T S h g n) ((n : Int) - wvS T S h g n)) : wvS T S h g (n + 1) = wvS T S h g n + 1 := if_pos c
theorem wvS_n {T S : Int → Int} {h g : Int} {n : Nat} (c : ¬ wvC T S h g (wvS T S h g n) ((n : Int) - wvS T S h g n)) : wvS T S h g (n + 1) = wvS T S h g n := if_neg c
theorem wvI_y {V : Mm} {l o i k : Int} (h0 : 0 ≤ i + k) (e : i = wvI V l o (i + k).toNat) (c : wvC (V 8 l) (V 8 o) (V 7 l 6) (V 7 o 6) i k) : i + 1 = wvI V l o (i + 1 + k).toNat := by
  unfold wvI at e ⊢
  rw [show (i + 1 + k).toNat = (i + k).toNat + 1 from by omega, wvS_y, ← e]
  rw [← e, show (((i + k).toNat : Nat) : Int) - i = k from by omega]
  exact c
theorem wvI_n {V : Mm} {l o i k : Int} (h0 : 0 ≤ i + k) (e : i = wvI V l o (i + k).toNat) (c : ¬ wvC (V 8 l) (V 8 o) (V 7 l 6) (V 7 o 6) i k) : i = wvI V l o (i + (k + 1)).toNat := by
  unfold wvI at e ⊢
  rw [show (i + (k + 1)).toNat = (i + k).toNat + 1 from by omega, wvS_n, ← e]
  rw [← e, show (((i + k).toNat : Nat) : Int) - i = k from by omega]
  exact c
theorem wvU_y {V : Mm} {l o i k : Int} {n : Nat} (hn : (n : Int) = i + k) (e : i = wvI V l o n) (c : wvC (V 8 l) (V 8 o) (V 7 l 6) (V 7 o 6) i k) : V 9 l i = wvU V l o (n : Int) := by
  unfold wvU
  rw [Int.toNat_natCast, ← e, show ((n : Nat) : Int) - i = k from by omega, if_pos c]
theorem wvU_n {V : Mm} {l o i k : Int} {n : Nat} (hn : (n : Int) = i + k) (e : i = wvI V l o n) (c : ¬ wvC (V 8 l) (V 8 o) (V 7 l 6) (V 7 o 6) i k) : V 9 o k = wvU V l o (n : Int) := by
  unfold wvU
  rw [Int.toNat_natCast, ← e, show ((n : Nat) : Int) - i = k from by omega, if_neg c]
theorem wvS_b (T S : Int → Int) {h g : Int} (h0 : 0 ≤ h) (g0 : 0 ≤ g) : ∀ n : Nat, (n : Int) ≤ h + g → (0 ≤ wvS T S h g n ∧ wvS T S h g n ≤ h) ∧ 0 ≤ (n : Int) - wvS T S h g n ∧ (n : Int) - wvS T S h g n ≤ g
  | 0, _ => by
    have e : wvS T S h g 0 = 0 := rfl
    rw [e]
    omega
  | n + 1, q => by
    have ih := wvS_b T S h0 g0 n (by omega)
    by_cases c : wvC T S h g (wvS T S h g n) ((n : Int) - wvS T S h g n)
    · rw [wvS_y c]
      unfold wvC at c
      omega
    · rw [wvS_n c]
      unfold wvC at c
      omega
theorem wvU_b {V : Mm} {l o : Int} (hl : 0 ≤ V 7 l 6 ∧ V 7 l 6 ≤ 120) (ho : 0 ≤ V 7 o 6 ∧ V 7 o 6 ≤ 120) (bl : ∀ y : Int, 0 ≤ y → y ≤ 120 → -1000 ≤ V 9 l y ∧ V 9 l y ≤ 1000) (bo : ∀ y : Int, 0 ≤ y → y ≤ 120 → -1000 ≤ V 9 o y ∧ V 9 o y ≤ 1000) {j : Int} (j0 : 0 ≤ j) (j1 : j ≤ V 7 l 6 + V 7 o 6) : -1000 ≤ wvU V l o j ∧ wvU V l o j ≤ 1000 := by
  have b := wvS_b (V 8 l) (V 8 o) hl.1 ho.1 j.toNat (by omega)
  unfold wvU
  split
  · exact bl _ b.1.1 (by unfold wvI; omega)
  · exact bo _ (by unfold wvI; omega) (by unfold wvI; omega)
-- SESSIONS
theorem sst_y {T : Int → Int} {g s i : Int} (h : 0 ≤ i) (c : i = 0 ∨ wr (T i - T (i - 1)) > g) : (sst T g s (i + 1).toNat).1 = (sst T g s i.toNat).1 + 1 ∧ ((sst T g s i.toNat).1 = s → (sst T g s i.toNat).2.2 = 0 → (sst T g s (i + 1).toNat).2.1 = i) ∧ (¬ ((sst T g s i.toNat).1 = s ∧ (sst T g s i.toNat).2.2 = 0) → (sst T g s (i + 1).toNat).2.1 = (sst T g s i.toNat).2.1) ∧ ((sst T g s i.toNat).1 = s → (sst T g s (i + 1).toNat).2.2 = (sst T g s i.toNat).2.2 + 1) ∧ ((sst T g s i.toNat).1 ≠ s → (sst T g s (i + 1).toNat).2.2 = (sst T g s i.toNat).2.2) := by
  obtain ⟨n, rfl⟩ := Int.eq_ofNat_of_zero_le h
  have e : ((n : Int) + 1).toNat = n + 1 := by omega
  rw [e, Int.toNat_natCast]
  have c2 : n = 0 ∨ wr (T n - T (n - 1)) > g := by rcases c with q | q; exact Or.inl (by omega); exact Or.inr q
  have d : sst T g s (n + 1) = ((sst T g s n).1 + 1, if (sst T g s n).1 + 1 - 1 = s ∧ (sst T g s n).2.2 = 0 then (n : Int) else (sst T g s n).2.1, if (sst T g s n).1 + 1 - 1 = s then (sst T g s n).2.2 + 1 else (sst T g s n).2.2) := by
    show ((if n = 0 ∨ wr (T n - T (n - 1)) > g then (sst T g s n).1 + 1 else (sst T g s n).1), _, _) = _
    simp only [if_pos c2]
  rw [d, show (sst T g s n).1 + 1 - 1 = (sst T g s n).1 from by omega]
  exact ⟨rfl, fun a b => if_pos ⟨a, b⟩, fun q => if_neg q, fun a => if_pos a, fun a => if_neg a⟩
theorem sst_n {T : Int → Int} {g s i : Int} (h : 0 ≤ i) (c : ¬ (i = 0 ∨ wr (T i - T (i - 1)) > g)) : (sst T g s (i + 1).toNat).1 = (sst T g s i.toNat).1 ∧ ((sst T g s i.toNat).1 - 1 = s → (sst T g s i.toNat).2.2 = 0 → (sst T g s (i + 1).toNat).2.1 = i) ∧ (¬ ((sst T g s i.toNat).1 - 1 = s ∧ (sst T g s i.toNat).2.2 = 0) → (sst T g s (i + 1).toNat).2.1 = (sst T g s i.toNat).2.1) ∧ ((sst T g s i.toNat).1 - 1 = s → (sst T g s (i + 1).toNat).2.2 = (sst T g s i.toNat).2.2 + 1) ∧ ((sst T g s i.toNat).1 - 1 ≠ s → (sst T g s (i + 1).toNat).2.2 = (sst T g s i.toNat).2.2) := by
  obtain ⟨n, rfl⟩ := Int.eq_ofNat_of_zero_le h
  have e : ((n : Int) + 1).toNat = n + 1 := by omega
  rw [e, Int.toNat_natCast]
  have c2 : ¬ (n = 0 ∨ wr (T n - T (n - 1)) > g) := fun q => c (by rcases q with q | q; exact Or.inl (by omega); exact Or.inr q)
  have d : sst T g s (n + 1) = ((sst T g s n).1, if (sst T g s n).1 - 1 = s ∧ (sst T g s n).2.2 = 0 then (n : Int) else (sst T g s n).2.1, if (sst T g s n).1 - 1 = s then (sst T g s n).2.2 + 1 else (sst T g s n).2.2) := by
    show ((if n = 0 ∨ wr (T n - T (n - 1)) > g then (sst T g s n).1 + 1 else (sst T g s n).1), _, _) = _
    simp only [if_neg c2]
  rw [d]
  exact ⟨rfl, fun a b => if_pos ⟨a, b⟩, fun q => if_neg q, fun a => if_pos a, fun a => if_neg a⟩
/-- what always holds of SESSIONS seen one by one -/
theorem sst_b {T : Int → Int} {g s : Int} (hs : 0 ≤ s) : ∀ n : Nat, (0 ≤ (sst T g s n).1 ∧ (sst T g s n).1 ≤ n) ∧ 0 ≤ (sst T g s n).2.1 ∧ 0 ≤ (sst T g s n).2.2 ∧ (sst T g s n).2.1 + (sst T g s n).2.2 ≤ n ∧ ((sst T g s n).1 - 1 < s → (sst T g s n).2.2 = 0) ∧ ((sst T g s n).1 - 1 = s → 1 ≤ (sst T g s n).2.2 ∧ (sst T g s n).2.1 + (sst T g s n).2.2 = n) ∧ (n ≠ 0 → 1 ≤ (sst T g s n).1)
  | 0 => by
    have e : sst T g s 0 = (0, 0, 0) := rfl
    rw [e]
    dsimp only
    omega
  | n + 1 => by
    have ih := sst_b (T := T) (g := g) hs n
    by_cases c : (n : Int) = 0 ∨ wr (T n - T (n - 1)) > g
    · have q := sst_y (s := s) (show (0 : Int) ≤ n by omega) c
      rw [show ((n : Int) + 1).toNat = n + 1 from by omega, Int.toNat_natCast] at q
      omega
    · have q := sst_n (s := s) (show (0 : Int) ≤ n by omega) c
      rw [show ((n : Int) + 1).toNat = n + 1 from by omega, Int.toNat_natCast] at q
      omega
-- the fewest neighbours, seen from one event on after another
def ShP (q : Int → Int → Prop) (h f n i : Int) : Prop := (n = h + 1 ∧ i = -1 ∧ ∀ a m : Int, 0 ≤ a → a < f → 1 ≤ m → a + m ≤ h → ¬ q a m) ∨ ((1 ≤ n ∧ 0 ≤ i ∧ i < f ∧ i + n ≤ h) ∧ q i n ∧ (∀ a m : Int, 0 ≤ a → a < f → 1 ≤ m → a + m ≤ h → m < n → ¬ q a m) ∧ ∀ a : Int, 0 ≤ a → a < i → ¬ q a n)
theorem ShP.zero {q : Int → Int → Prop} {h n : Int} (e : n = h + 1) : ShP q h 0 n (-1) := Or.inl ⟨e, rfl, fun a m a0 a1 => by omega⟩
theorem ShP.next {q : Int → Int → Prop} {h f n i : Int} (p : ShP q h f n i) (e : ∀ m : Int, 1 ≤ m → m < n → f + m ≤ h → ¬ q f m) (hf : 0 ≤ f) : ShP q h (f + 1) n i := by
  rcases p with ⟨p1, p2, p3⟩ | ⟨p1, p2, p3, p4⟩
  · refine Or.inl ⟨p1, p2, fun a m a0 a1 m1 am => ?_⟩
    by_cases z : a = f
    · subst z; exact e m m1 (by omega) am
    · exact p3 a m a0 (by omega) m1 am
  · refine Or.inr ⟨by omega, p2, fun a m a0 a1 m1 am mn => ?_, p4⟩
    by_cases z : a = f
    · subst z; exact e m m1 mn am
    · exact p3 a m a0 (by omega) m1 am mn
theorem ShP.hit {q : Int → Int → Prop} {h f n i m : Int} (p : ShP q h f n i) (hm : 1 ≤ m) (hn : m < n) (hh : f + m ≤ h) (hf : 0 ≤ f) (hq : q f m) (e : ∀ k : Int, 1 ≤ k → k < m → ¬ q f k) : ShP q h (f + 1) m f := by
  have old : ∀ a k : Int, 0 ≤ a → a < f → 1 ≤ k → a + k ≤ h → k < n → ¬ q a k := fun a k a0 a1 k1 ak kn => by
    rcases p with ⟨p1, p2, p3⟩ | ⟨p1, p2, p3, p4⟩
    · exact p3 a k a0 a1 k1 ak
    · exact p3 a k a0 a1 k1 ak kn
  refine Or.inr ⟨by omega, hq, fun a k a0 a1 k1 ak km => ?_, fun a a0 a1 => old a m a0 a1 hm (by omega) hn⟩
  by_cases z : a = f
  · subst z; exact e k k1 km
  · exact old a k a0 (by omega) k1 ak (by omega)
theorem ShP.done {q : Int → Int → Prop} {h f n i : Int} (p : ShP q h f n i) (hf : f = h) : ShB q h n i := by
  rcases p with ⟨p1, p2, p3⟩ | ⟨p1, p2, p3, p4⟩
  · exact Or.inl ⟨p1, p2, fun a m a0 m1 am => p3 a m a0 (by omega) m1 am⟩
  · exact Or.inr ⟨by omega, p2, fun a m a0 m1 am mn => p3 a m a0 (by omega) m1 am mn, p4⟩
theorem ShP.b {q : Int → Int → Prop} {h f n i : Int} (p : ShP q h f n i) (h0 : 0 ≤ h) : 1 ≤ n ∧ n ≤ h + 1 ∧ -1 ≤ i ∧ i ≤ h := by
  rcases p with ⟨p1, p2, p3⟩ | ⟨p1, p2, p3, p4⟩ <;> omega
-- windows
theorem wnR_I {f : Int → Int} {a b i : Int} (h : 0 ≤ i) : wnR f a b (i + 1).toNat = wnR f a b i.toNat + (if f i ≠ NO ∧ a ≤ f i ∧ f i ≤ b then 1 else 0) := by
  obtain ⟨n, rfl⟩ := Int.eq_ofNat_of_zero_le h
  rw [show ((n : Int) + 1).toNat = n + 1 from by omega, Int.toNat_natCast]
  rfl
theorem wnS_I {V : Mm} {l w a b i : Int} (h : 0 ≤ i) : wnS V l w a b (i + 1).toNat = wnS V l w a b i.toNat + wnR (fun k => ptV V l i (i + k + 1) w) a b (V 7 l 6 - i).toNat := by
  obtain ⟨n, rfl⟩ := Int.eq_ofNat_of_zero_le h
  rw [show ((n : Int) + 1).toNat = n + 1 from by omega, Int.toNat_natCast]
  rfl
theorem wnR_b (f : Int → Int) (a b : Int) : ∀ n : Nat, 0 ≤ wnR f a b n ∧ wnR f a b n ≤ n
  | 0 => ⟨Int.le_refl _, Int.le_refl _⟩
  | n + 1 => by
    have ih := wnR_b f a b n
    have e : wnR f a b (n + 1) = wnR f a b n + (if f n ≠ NO ∧ a ≤ f n ∧ f n ≤ b then 1 else 0) := rfl
    rw [e]
    split <;> omega
theorem wnS_b {V : Mm} {l w a b : Int} (h : V 7 l 6 ≤ 120) : ∀ n : Nat, 0 ≤ wnS V l w a b n ∧ wnS V l w a b n ≤ 120 * n
  | 0 => ⟨Int.le_refl _, Int.le_refl _⟩
  | n + 1 => by
    have ih := wnS_b (w := w) (a := a) (b := b) h n
    have e : wnS V l w a b (n + 1) = wnS V l w a b n + wnR (fun k => ptV V l n (n + k + 1) w) a b (V 7 l 6 - n).toNat := rfl
    have q := wnR_b (fun k => ptV V l n (n + k + 1) w) a b (V 7 l 6 - n).toNat
    rw [e]
    omega
-- numbers noted
def NT (σ : Mm) (o : Int) (u : Int → Int) (n : Nat) : Prop := σ 14 0 4 = (n : Int) ∧ ∀ k : Int, 0 ≤ k → k < numF o → σ 18 0 k = cmN (σ 16 0) (σ 15 0) o u n k
theorem NT.e {σ ρ : Mm} {o : Int} {u : Int → Int} {n : Nat} (h : NT σ o u n) (h14 : ρ 14 0 4 = σ 14 0 4) (h18 : ∀ k : Int, ρ 18 0 k = σ 18 0 k) (h16 : ρ 16 0 = σ 16 0) (h15 : ρ 15 0 = σ 15 0) : NT ρ o u n := ⟨h14.trans h.1, fun k a b => by rw [h18, h16, h15]; exact h.2 k a b⟩
-- counting
theorem idiv_fr {a b : Int} (ha : 0 ≤ a) (hb : 0 < b) : 0 ≤ a / b ∧ a / b ≤ a := ⟨Int.ediv_nonneg ha (by omega), Int.ediv_le_self b ha⟩
theorem pnN_I {T : Int → Int} {w i : Int} (h : 0 ≤ i) : pnN T w (i + 1).toNat = pnN T w i.toNat + (if i = 0 ∨ T i / w ≠ T (i - 1) / w then 1 else 0) := by
  obtain ⟨n, rfl⟩ := Int.eq_ofNat_of_zero_le h
  rw [show ((n : Int) + 1).toNat = n + 1 from by omega, Int.toNat_natCast]
  show pnN T w n + (if n = 0 ∨ T n / w ≠ T (n - 1) / w then 1 else 0) = _
  by_cases z : n = 0
  · rw [if_pos (Or.inl z), if_pos (Or.inl (by omega))]
  · by_cases q : T n / w ≠ T (n - 1) / w
    · rw [if_pos (Or.inr q), if_pos (Or.inr q)]
    · rw [if_neg (by rintro (a | a); exact z a; exact q a), if_neg (by rintro (a | a); omega; exact q a)]
theorem ssN_I {T : Int → Int} {g i : Int} (h : 0 ≤ i) : ssN T g (i + 1).toNat = ssN T g i.toNat + (if i = 0 ∨ wr (T i - T (i - 1)) > g then 1 else 0) := by
  obtain ⟨n, rfl⟩ := Int.eq_ofNat_of_zero_le h
  rw [show ((n : Int) + 1).toNat = n + 1 from by omega, Int.toNat_natCast]
  show ssN T g n + (if n = 0 ∨ wr (T n - T (n - 1)) > g then 1 else 0) = _
  by_cases z : n = 0
  · rw [if_pos (Or.inl z), if_pos (Or.inl (by omega))]
  · by_cases q : wr (T n - T (n - 1)) > g
    · rw [if_pos (Or.inr q), if_pos (Or.inr q)]
    · rw [if_neg (by rintro (a | a); exact z a; exact q a), if_neg (by rintro (a | a); omega; exact q a)]
theorem flN_I {T : Int → Int} {w i : Int} (h : 0 ≤ i) : flN T w (i + 1).toNat = (let q := flN T w i.toNat; let c := if i ≠ 0 ∧ T i / w = T (i - 1) / w then q.1 + 1 else 1; (c, if c > q.2.1 then c else q.2.1, if c > q.2.1 then T i / w else q.2.2)) := by
  obtain ⟨n, rfl⟩ := Int.eq_ofNat_of_zero_le h
  rw [show ((n : Int) + 1).toNat = n + 1 from by omega, Int.toNat_natCast]
  have e : (if n ≠ 0 ∧ T n / w = T (n - 1) / w then (flN T w n).1 + 1 else 1) = (if (n : Int) ≠ 0 ∧ T n / w = T (n - 1) / w then (flN T w n).1 + 1 else 1) := by
    by_cases q : n ≠ 0 ∧ T n / w = T (n - 1) / w
    · rw [if_pos q, if_pos ⟨by omega, q.2⟩]
    · rw [if_neg q, if_neg (fun z => q ⟨by omega, z.2⟩)]
  show ((if n ≠ 0 ∧ T n / w = T (n - 1) / w then (flN T w n).1 + 1 else 1), _, _) = _
  simp only [e]
theorem loN_I {T : Int → Int} {g i : Int} (h : 0 ≤ i) : loN T g (i + 1).toNat = (let q := loN T g i.toNat; let c := if i = 0 ∨ wr (T i - T (i - 1)) > g then q.1 + 1 else q.1; let m := if i = 0 ∨ wr (T i - T (i - 1)) > g then 1 else q.2.1 + 1; (c, m, if m > q.2.2.1 then m else q.2.2.1, if m > q.2.2.1 then c - 1 else q.2.2.2)) := by
  obtain ⟨n, rfl⟩ := Int.eq_ofNat_of_zero_le h
  rw [show ((n : Int) + 1).toNat = n + 1 from by omega, Int.toNat_natCast]
  have e : (if n = 0 ∨ wr (T n - T (n - 1)) > g then (loN T g n).1 + 1 else (loN T g n).1) = (if (n : Int) = 0 ∨ wr (T n - T (n - 1)) > g then (loN T g n).1 + 1 else (loN T g n).1) := by
    by_cases q : n = 0 ∨ wr (T n - T (n - 1)) > g
    · rw [if_pos q, if_pos (by rcases q with q | q; exact Or.inl (by omega); exact Or.inr q)]
    · rw [if_neg q, if_neg (by rintro (z | z); exact q (Or.inl (by omega)); exact q (Or.inr z))]
  have e2 : (if n = 0 ∨ wr (T n - T (n - 1)) > g then 1 else (loN T g n).2.1 + 1) = (if (n : Int) = 0 ∨ wr (T n - T (n - 1)) > g then 1 else (loN T g n).2.1 + 1) := by
    by_cases q : n = 0 ∨ wr (T n - T (n - 1)) > g
    · rw [if_pos q, if_pos (by rcases q with q | q; exact Or.inl (by omega); exact Or.inr q)]
    · rw [if_neg q, if_neg (by rintro (z | z); exact q (Or.inl (by omega)); exact q (Or.inr z))]
  show ((if n = 0 ∨ wr (T n - T (n - 1)) > g then (loN T g n).1 + 1 else (loN T g n).1), (if n = 0 ∨ wr (T n - T (n - 1)) > g then 1 else (loN T g n).2.1 + 1), _, _) = _
  simp only [e, e2]
