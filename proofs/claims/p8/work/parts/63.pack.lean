-- what the fold's cells say of a row
def FRc (σ : Mm) (o : Int) (u : Int → Int) (n : Nat) : Prop := σ 14 0 5 = o ∧ σ 14 0 6 = (n : Int) ∧ (o = 7 → σ 14 0 7 = (stp u n).2.2.2) ∧ ∀ k : Int, 0 ≤ k → k < numF o → σ 17 0 k = cmN (σ 16 0) (σ 15 0) o u n k
def Bd (u : Int → Int) (n : Nat) : Prop := ∀ j : Int, 0 ≤ j → j < n → -1000 ≤ u j ∧ u j ≤ 1000
theorem Bd.less {u : Int → Int} {n m : Nat} (h : Bd u n) (hm : m ≤ n) : Bd u m := fun j h0 h1 => h j h0 (by omega)
theorem gr_b (u : Int → Int) : ∀ n : Nat, 0 ≤ (gr u n).2.1 ∧ (gr u n).2.1 ≤ n
  | 0 => ⟨Int.le_refl _, Int.le_refl _⟩
  | n + 1 => by
    have ih := gr_b u n
    have e : gr u (n + 1) = (if n = 0 ∨ u n > (gr u n).1 then (u n, 1, (n : Int)) else if u n = (gr u n).1 then ((gr u n).1, (gr u n).2.1 + 1, (gr u n).2.2) else gr u n) := rfl
    rw [e]
    split
    · show (0 : Int) ≤ 1 ∧ (1 : Int) ≤ _; omega
    · split
      · show 0 ≤ (gr u n).2.1 + 1 ∧ (gr u n).2.1 + 1 ≤ _; omega
      · omega
theorem shr_b (u : Int → Int) : ∀ n : Nat, 0 ≤ (shr u n).2 ∧ (shr u n).2 ≤ n
  | 0 => ⟨Int.le_refl _, Int.le_refl _⟩
  | n + 1 => by
    have ih := shr_b u n
    show 0 ≤ (shr u n).2 + (if u n = 0 then 0 else 1) ∧ (shr u n).2 + (if u n = 0 then 0 else 1) ≤ _
    split <;> omega
theorem lin_b (u : Int → Int) : ∀ n : Nat, (0 ≤ (lin u n).1 ∧ (lin u n).1 ≤ 996) ∧ 0 ≤ (lin u n).2 ∧ (lin u n).2 ≤ 996
  | 0 => by show ((0 : Int) ≤ 1 ∧ (1 : Int) ≤ 996) ∧ (0 : Int) ≤ 0 ∧ (0 : Int) ≤ 996; omega
  | n + 1 => by
    show (0 ≤ (u n % 997) * (lin u n).1 % 997 ∧ (u n % 997) * (lin u n).1 % 997 ≤ 996) ∧ 0 ≤ ((u n % 997) * (lin u n).2 + (7 * u n + 1) % 997) % 997 ∧ ((u n % 997) * (lin u n).2 + (7 * u n + 1) % 997) % 997 ≤ 996
    omega
theorem rnn_b {u : Int → Int} : ∀ n : Nat, Bd u n → (-1000 * (n : Int) ≤ (rnn u n).1 ∧ (rnn u n).1 ≤ 1000 * n) ∧ (-1000 * (n : Int) ≤ (rnn u n).2.1 ∧ (rnn u n).2.1 ≤ 1000 * n) ∧ (-1000 * (n : Int) ≤ (rnn u n).2.2.1 ∧ (rnn u n).2.2.1 ≤ 1000 * n) ∧ -1000 * (n : Int) ≤ (rnn u n).2.2.2 ∧ (rnn u n).2.2.2 ≤ 1000 * n
  | 0, _ => by show (-1000 * (0 : Int) ≤ 0 ∧ (0 : Int) ≤ 1000 * 0) ∧ (-1000 * (0 : Int) ≤ 0 ∧ (0 : Int) ≤ 1000 * 0) ∧ (-1000 * (0 : Int) ≤ 0 ∧ (0 : Int) ≤ 1000 * 0) ∧ -1000 * (0 : Int) ≤ 0 ∧ (0 : Int) ≤ 1000 * 0; omega
  | n + 1, h => by
    have ih := rnn_b n (h.less (by omega))
    have hv := h n (by omega) (by omega)
    have e : rnn u (n + 1) = (if n = 0 then u n else max (rnn u n).1 (if n = 0 then u n else max ((rnn u n).2.2.2 + u n) (u n)), (rnn u n).2.1 + u n, if n = 0 then u n else max (rnn u n).2.2.1 ((rnn u n).2.1 + u n), if n = 0 then u n else max ((rnn u n).2.2.2 + u n) (u n)) := rfl
    rw [e]
    by_cases hn : n = 0
    · simp only [if_pos hn]
      omega
    · simp only [if_neg hn]
      omega
theorem ltr_b {tl u : Int → Int} {s : Int} (hs : 0 ≤ s ∧ s ≤ 3) : ∀ n : Nat, 0 ≤ ltr tl u s n ∧ ltr tl u s n ≤ 3
  | 0 => hs
  | n + 1 => iand_rng (by omega) (by unfold inR; omega)
theorem nst_b (u : Int → Int) : ∀ n : Nat, (0 ≤ (nst u n).1 ∧ (nst u n).1 ≤ n) ∧ (0 ≤ (nst u n).2.1 ∧ (nst u n).2.1 ≤ n) ∧ (0 ≤ (nst u n).2.2.1 ∧ (nst u n).2.2.1 ≤ n) ∧ 0 ≤ (nst u n).2.2.2 ∧ (nst u n).2.2.2 ≤ n
  | 0 => ⟨⟨Int.le_refl _, Int.le_refl _⟩, ⟨Int.le_refl _, Int.le_refl _⟩, ⟨Int.le_refl _, Int.le_refl _⟩, Int.le_refl _, Int.le_refl _⟩
  | n + 1 => by
    have ih := nst_b u n
    have e : nst u (n + 1) = (let s := nst u n; let t := if 0 ≤ u n then (s.1, s.2.1 + 1, s.2.2.1) else if 0 < s.2.1 then (s.1, s.2.1 - 1, s.2.2.1 + 1) else (s.1 + 1, s.2.1, s.2.2.1); (t.1, t.2.1, t.2.2, max s.2.2.2 (t.2.1 - t.1))) := rfl
    rw [e]
    by_cases h1 : 0 ≤ u n
    · simp only [if_pos h1]; omega
    · by_cases h2 : 0 < (nst u n).2.1
      · simp only [if_neg h1, if_pos h2]; omega
      · simp only [if_neg h1, if_neg h2]; omega
theorem lke_b (u : Int → Int) : ∀ n : Nat, (0 ≤ (lke u n).2.2.1 ∧ (lke u n).2.2.1 ≤ n) ∧ 0 ≤ (lke u n).2.2.2.2 ∧ (lke u n).2.2.2.2 ≤ n
  | 0 => ⟨⟨Int.le_refl _, Int.le_refl _⟩, Int.le_refl _, Int.le_refl _⟩
  | n + 1 => by
    have ih := lke_b u n
    have e : lke u (n + 1) = (let s := lke u n; let same : Bool := decide (0 < n) && decide (u n = u (n - 1)); let l := if same then s.2.2.2.2 + 1 else 1; let r := if same then s.2.2.1 else s.2.2.1 + 1; (if l > s.1 then l else s.1, if l > s.1 then u n else s.2.1, r, if r = 1 then l else s.2.2.2.1, l)) := rfl
    rw [e]
    cases (decide (0 < n) && decide (u n = u (n - 1)))
    · show (0 ≤ (lke u n).2.2.1 + 1 ∧ (lke u n).2.2.1 + 1 ≤ _) ∧ (0 : Int) ≤ 1 ∧ (1 : Int) ≤ _; omega
    · show (0 ≤ (lke u n).2.2.1 ∧ (lke u n).2.2.1 ≤ _) ∧ 0 ≤ (lke u n).2.2.2.2 + 1 ∧ (lke u n).2.2.2.2 + 1 ≤ _; omega
theorem stp_b (u : Int → Int) : ∀ n : Nat, (0 ≤ (stp u n).1 ∧ (stp u n).1 ≤ n) ∧ (0 ≤ (stp u n).2.1 ∧ (stp u n).2.1 ≤ n) ∧ (0 ≤ (stp u n).2.2.1 ∧ (stp u n).2.2.1 ≤ n) ∧ 0 ≤ (stp u n).2.2.2 ∧ (stp u n).2.2.2 ≤ n
  | 0 => ⟨⟨Int.le_refl _, Int.le_refl _⟩, ⟨Int.le_refl _, Int.le_refl _⟩, ⟨Int.le_refl _, Int.le_refl _⟩, Int.le_refl _, Int.le_refl _⟩
  | n + 1 => by
    have ih := stp_b u n
    have e : stp u (n + 1) = (let s := stp u n; let f : Bool := decide (0 < n) && decide (u n < u (n - 1)); let c : Bool := decide (0 < n) && decide (u n > u (n - 1)); let r := if f then 1 else s.2.2.2 + 1; (s.1 + (if f then 1 else 0), s.2.1 + (if c then 1 else 0), max s.2.2.1 r, r)) := rfl
    rw [e]
    cases (decide (0 < n) && decide (u n < u (n - 1))) <;> cases (decide (0 < n) && decide (u n > u (n - 1)))
    · show (0 ≤ (stp u n).1 + 0 ∧ (stp u n).1 + 0 ≤ _) ∧ (0 ≤ (stp u n).2.1 + 0 ∧ (stp u n).2.1 + 0 ≤ _) ∧ (0 ≤ max (stp u n).2.2.1 ((stp u n).2.2.2 + 1) ∧ max (stp u n).2.2.1 ((stp u n).2.2.2 + 1) ≤ _) ∧ 0 ≤ (stp u n).2.2.2 + 1 ∧ (stp u n).2.2.2 + 1 ≤ _; omega
    · show (0 ≤ (stp u n).1 + 0 ∧ (stp u n).1 + 0 ≤ _) ∧ (0 ≤ (stp u n).2.1 + 1 ∧ (stp u n).2.1 + 1 ≤ _) ∧ (0 ≤ max (stp u n).2.2.1 ((stp u n).2.2.2 + 1) ∧ max (stp u n).2.2.1 ((stp u n).2.2.2 + 1) ≤ _) ∧ 0 ≤ (stp u n).2.2.2 + 1 ∧ (stp u n).2.2.2 + 1 ≤ _; omega
    · show (0 ≤ (stp u n).1 + 1 ∧ (stp u n).1 + 1 ≤ _) ∧ (0 ≤ (stp u n).2.1 + 0 ∧ (stp u n).2.1 + 0 ≤ _) ∧ (0 ≤ max (stp u n).2.2.1 1 ∧ max (stp u n).2.2.1 1 ≤ _) ∧ (0 : Int) ≤ 1 ∧ (1 : Int) ≤ _; omega
    · show (0 ≤ (stp u n).1 + 1 ∧ (stp u n).1 + 1 ≤ _) ∧ (0 ≤ (stp u n).2.1 + 1 ∧ (stp u n).2.1 + 1 ≤ _) ∧ (0 ≤ max (stp u n).2.2.1 1 ∧ max (stp u n).2.2.1 1 ≤ _) ∧ (0 : Int) ≤ 1 ∧ (1 : Int) ≤ _; omega
theorem spr_b (u : Int → Int) : ∀ n : Nat, 0 ≤ (spr u n).2.2 ∧ (spr u n).2.2 ≤ n
  | 0 => ⟨Int.le_refl _, Int.le_refl _⟩
  | n + 1 => by
    have ih := spr_b u n
    show 0 ≤ (spr u n).2.2 + (if u n = 0 then 1 else 0) ∧ (spr u n).2.2 + (if u n = 0 then 1 else 0) ≤ _
    split <;> omega
theorem tbl_b {tc u : Int → Int} (hc : ∀ j : Int, 0 ≤ j → j < 16 → 0 ≤ tc j ∧ tc j ≤ 3) : ∀ n : Nat, 0 ≤ tbl tc u n ∧ tbl tc u n ≤ 3
  | 0 => ⟨Int.le_refl _, by show (0 : Int) ≤ 3; omega⟩
  | n + 1 => by
    have ih := tbl_b (u := u) hc n
    show 0 ≤ (if n = 0 then u 0 % 4 else tc (4 * tbl tc u n + u n % 4)) ∧ (if n = 0 then u 0 % 4 else tc (4 * tbl tc u n + u n % 4)) ≤ 3
    split
    · omega
    · exact hc _ (by omega) (by omega)
theorem un_0 {σ : Mm} {u : Int → Int} {n : Nat} (h : FRc σ 0 u n) : σ 17 0 0 = (gr u n).1 ∧ σ 17 0 1 = (gr u n).2.1 ∧ σ 17 0 2 = (gr u n).2.2 ∧ σ 17 0 3 = (n : Int) := ⟨h.2.2.2 0 (by decide) (by decide), h.2.2.2 1 (by decide) (by decide), h.2.2.2 2 (by decide) (by decide), h.2.2.2 3 (by decide) (by decide)⟩
theorem un_1 {σ : Mm} {u : Int → Int} {n : Nat} (h : FRc σ 1 u n) : σ 17 0 0 = (shr u n).1 ∧ σ 17 0 1 = (shr u n).2 := ⟨h.2.2.2 0 (by decide) (by decide), h.2.2.2 1 (by decide) (by decide)⟩
theorem un_2 {σ : Mm} {u : Int → Int} {n : Nat} (h : FRc σ 2 u n) : σ 17 0 0 = (lin u n).1 ∧ σ 17 0 1 = (lin u n).2 := ⟨h.2.2.2 0 (by decide) (by decide), h.2.2.2 1 (by decide) (by decide)⟩
theorem un_3 {σ : Mm} {u : Int → Int} {n : Nat} (h : FRc σ 3 u n) : σ 17 0 0 = (rnn u n).1 ∧ σ 17 0 1 = (rnn u n).2.1 ∧ σ 17 0 2 = (rnn u n).2.2.1 ∧ σ 17 0 3 = (rnn u n).2.2.2 := ⟨h.2.2.2 0 (by decide) (by decide), h.2.2.2 1 (by decide) (by decide), h.2.2.2 2 (by decide) (by decide), h.2.2.2 3 (by decide) (by decide)⟩
theorem un_4 {σ : Mm} {u : Int → Int} {n : Nat} (h : FRc σ 4 u n) : σ 17 0 0 = ltr (σ 16 0) u 0 n ∧ σ 17 0 1 = ltr (σ 16 0) u 1 n ∧ σ 17 0 2 = ltr (σ 16 0) u 2 n ∧ σ 17 0 3 = ltr (σ 16 0) u 3 n := ⟨h.2.2.2 0 (by decide) (by decide), h.2.2.2 1 (by decide) (by decide), h.2.2.2 2 (by decide) (by decide), h.2.2.2 3 (by decide) (by decide)⟩
theorem un_5 {σ : Mm} {u : Int → Int} {n : Nat} (h : FRc σ 5 u n) : σ 17 0 0 = (nst u n).1 ∧ σ 17 0 1 = (nst u n).2.1 ∧ σ 17 0 2 = (nst u n).2.2.1 ∧ σ 17 0 3 = (nst u n).2.2.2 := ⟨h.2.2.2 0 (by decide) (by decide), h.2.2.2 1 (by decide) (by decide), h.2.2.2 2 (by decide) (by decide), h.2.2.2 3 (by decide) (by decide)⟩
theorem un_6 {σ : Mm} {u : Int → Int} {n : Nat} (h : FRc σ 6 u n) : σ 17 0 0 = (lke u n).1 ∧ σ 17 0 1 = (lke u n).2.1 ∧ σ 17 0 2 = (lke u n).2.2.1 ∧ σ 17 0 3 = (lke u n).2.2.2.1 ∧ σ 17 0 4 = (lke u n).2.2.2.2 ∧ σ 17 0 5 = (if n = 0 then 0 else u 0) ∧ σ 17 0 6 = (if n = 0 then 0 else u (n - 1)) := ⟨h.2.2.2 0 (by decide) (by decide), h.2.2.2 1 (by decide) (by decide), h.2.2.2 2 (by decide) (by decide), h.2.2.2 3 (by decide) (by decide), h.2.2.2 4 (by decide) (by decide), h.2.2.2 5 (by decide) (by decide), h.2.2.2 6 (by decide) (by decide)⟩
theorem un_7 {σ : Mm} {u : Int → Int} {n : Nat} (h : FRc σ 7 u n) : σ 17 0 0 = (stp u n).1 ∧ σ 17 0 1 = (stp u n).2.1 ∧ σ 17 0 2 = (if n = 0 then 0 else u 0) ∧ σ 17 0 3 = (if n = 0 then 0 else u (n - 1)) ∧ σ 17 0 4 = (stp u n).2.2.1 := ⟨h.2.2.2 0 (by decide) (by decide), h.2.2.2 1 (by decide) (by decide), h.2.2.2 2 (by decide) (by decide), h.2.2.2 3 (by decide) (by decide), h.2.2.2 4 (by decide) (by decide)⟩
theorem un_8 {σ : Mm} {u : Int → Int} {n : Nat} (h : FRc σ 8 u n) : σ 17 0 0 = (spr u n).1 ∧ σ 17 0 1 = (spr u n).2.1 ∧ σ 17 0 2 = (spr u n).2.2 := ⟨h.2.2.2 0 (by decide) (by decide), h.2.2.2 1 (by decide) (by decide), h.2.2.2 2 (by decide) (by decide)⟩
theorem un_9 {σ : Mm} {u : Int → Int} {n : Nat} (h : FRc σ 9 u n) : σ 17 0 0 = tbl (σ 15 0) u n := h.2.2.2 0 (by decide) (by decide)
theorem pk_0 {σ ρ ρ2 : Mm} {u : Int → Int} {n : Nat} (h : FRc σ 0 u n) (g : Gx (fun c x y => c = 17 ∧ x = 0 ∨ c = 14 ∧ x = 0 ∧ y = 7) σ ρ) (r0 : ρ 17 0 0 = if (n : Int) = 0 ∨ u n > (gr u n).1 then u n else (gr u n).1) (r1 : ρ 17 0 1 = if (n : Int) = 0 ∨ u n > (gr u n).1 then 1 else if u n = (gr u n).1 then (gr u n).2.1 + 1 else (gr u n).2.1) (r2 : ρ 17 0 2 = if (n : Int) = 0 ∨ u n > (gr u n).1 then (n : Int) else (gr u n).2.2) (r3 : ρ 17 0 3 = (n : Int) + 1) (a : Al1 ρ ρ2 14 0 6) (q : ρ2 14 0 6 = (n : Int) + 1) : FRc ρ2 0 u (n + 1) := by
  have e16 : ρ2 16 0 = σ 16 0 := funext fun j => (a 16 0 j (by omega)).trans (g 16 0 j (by omega))
  have e15 : ρ2 15 0 = σ 15 0 := funext fun j => (a 15 0 j (by omega)).trans (g 15 0 j (by omega))
  refine ⟨(a 14 0 5 (by omega)).trans ((g 14 0 5 (by omega)).trans h.1), by rw [q]; omega, fun h7 => absurd h7 (by decide), fun k h0 h1 => ?_⟩
  rw [a 17 0 k (by omega), e16, e15]
  rcases (by have e : numF 0 = 4 := rfl; omega : k = 0 ∨ k = 1 ∨ k = 2 ∨ k = 3) with rfl | rfl | rfl | rfl
  · show ρ 17 0 0 = (gr u (n + 1)).1
    rw [r0, show gr u (n + 1) = (if n = 0 ∨ u n > (gr u n).1 then (u n, 1, (n : Int)) else if u n = (gr u n).1 then ((gr u n).1, (gr u n).2.1 + 1, (gr u n).2.2) else gr u n) from rfl]
    (repeat' split) <;> first | rfl | (exfalso; omega) | omega
  · show ρ 17 0 1 = (gr u (n + 1)).2.1
    rw [r1, show gr u (n + 1) = (if n = 0 ∨ u n > (gr u n).1 then (u n, 1, (n : Int)) else if u n = (gr u n).1 then ((gr u n).1, (gr u n).2.1 + 1, (gr u n).2.2) else gr u n) from rfl]
    (repeat' split) <;> first | rfl | (exfalso; omega) | omega
  · show ρ 17 0 2 = (gr u (n + 1)).2.2
    rw [r2, show gr u (n + 1) = (if n = 0 ∨ u n > (gr u n).1 then (u n, 1, (n : Int)) else if u n = (gr u n).1 then ((gr u n).1, (gr u n).2.1 + 1, (gr u n).2.2) else gr u n) from rfl]
    (repeat' split) <;> first | rfl | (exfalso; omega) | omega
  · show ρ 17 0 3 = ((n + 1 : Nat) : Int)
    rw [r3]
    omega
theorem pk_1 {σ ρ ρ2 : Mm} {u : Int → Int} {n : Nat} (h : FRc σ 1 u n) (g : Gx (fun c x y => c = 17 ∧ x = 0 ∨ c = 14 ∧ x = 0 ∧ y = 7) σ ρ) (r0 : ρ 17 0 0 = ((Int.gcd (shr u n).1 (u n) : Nat) : Int)) (r1 : ρ 17 0 1 = (shr u n).2 + (if u n = 0 then 0 else 1)) (a : Al1 ρ ρ2 14 0 6) (q : ρ2 14 0 6 = (n : Int) + 1) : FRc ρ2 1 u (n + 1) := by
  have e16 : ρ2 16 0 = σ 16 0 := funext fun j => (a 16 0 j (by omega)).trans (g 16 0 j (by omega))
  have e15 : ρ2 15 0 = σ 15 0 := funext fun j => (a 15 0 j (by omega)).trans (g 15 0 j (by omega))
  refine ⟨(a 14 0 5 (by omega)).trans ((g 14 0 5 (by omega)).trans h.1), by rw [q]; omega, fun h7 => absurd h7 (by decide), fun k h0 h1 => ?_⟩
  rw [a 17 0 k (by omega), e16, e15]
  rcases (by have e : numF 1 = 2 := rfl; omega : k = 0 ∨ k = 1) with rfl | rfl
  · exact r0
  · exact r1
theorem pk_2 {σ ρ ρ2 : Mm} {u : Int → Int} {n : Nat} (h : FRc σ 2 u n) (g : Gx (fun c x y => c = 17 ∧ x = 0 ∨ c = 14 ∧ x = 0 ∧ y = 7) σ ρ) (r0 : ρ 17 0 0 = u n % 997 * (lin u n).1 % 997) (r1 : ρ 17 0 1 = (u n % 997 * (lin u n).2 + (7 * u n + 1) % 997) % 997) (a : Al1 ρ ρ2 14 0 6) (q : ρ2 14 0 6 = (n : Int) + 1) : FRc ρ2 2 u (n + 1) := by
  have e16 : ρ2 16 0 = σ 16 0 := funext fun j => (a 16 0 j (by omega)).trans (g 16 0 j (by omega))
  have e15 : ρ2 15 0 = σ 15 0 := funext fun j => (a 15 0 j (by omega)).trans (g 15 0 j (by omega))
  refine ⟨(a 14 0 5 (by omega)).trans ((g 14 0 5 (by omega)).trans h.1), by rw [q]; omega, fun h7 => absurd h7 (by decide), fun k h0 h1 => ?_⟩
  rw [a 17 0 k (by omega), e16, e15]
  rcases (by have e : numF 2 = 2 := rfl; omega : k = 0 ∨ k = 1) with rfl | rfl
  · exact r0
  · exact r1
theorem pk_3 {σ ρ ρ2 : Mm} {u : Int → Int} {n : Nat} (h : FRc σ 3 u n) (g : Gx (fun c x y => c = 17 ∧ x = 0 ∨ c = 14 ∧ x = 0 ∧ y = 7) σ ρ) (r1 : ρ 17 0 1 = (rnn u n).2.1 + u n) (r2 : ρ 17 0 2 = if (n : Int) = 0 then u n else max (rnn u n).2.2.1 ((rnn u n).2.1 + u n)) (r3 : ρ 17 0 3 = if (n : Int) = 0 then u n else max ((rnn u n).2.2.2 + u n) (u n)) (r0 : ρ 17 0 0 = if (n : Int) = 0 then u n else max (rnn u n).1 (max ((rnn u n).2.2.2 + u n) (u n))) (a : Al1 ρ ρ2 14 0 6) (q : ρ2 14 0 6 = (n : Int) + 1) : FRc ρ2 3 u (n + 1) := by
  have e16 : ρ2 16 0 = σ 16 0 := funext fun j => (a 16 0 j (by omega)).trans (g 16 0 j (by omega))
  have e15 : ρ2 15 0 = σ 15 0 := funext fun j => (a 15 0 j (by omega)).trans (g 15 0 j (by omega))
  refine ⟨(a 14 0 5 (by omega)).trans ((g 14 0 5 (by omega)).trans h.1), by rw [q]; omega, fun h7 => absurd h7 (by decide), fun k h0 h1 => ?_⟩
  rw [a 17 0 k (by omega), e16, e15]
  rcases (by have e : numF 3 = 4 := rfl; omega : k = 0 ∨ k = 1 ∨ k = 2 ∨ k = 3) with rfl | rfl | rfl | rfl
  · show ρ 17 0 0 = (rnn u (n + 1)).1
    rw [r0, show rnn u (n + 1) = (if n = 0 then u n else max (rnn u n).1 (if n = 0 then u n else max ((rnn u n).2.2.2 + u n) (u n)), (rnn u n).2.1 + u n, if n = 0 then u n else max (rnn u n).2.2.1 ((rnn u n).2.1 + u n), if n = 0 then u n else max ((rnn u n).2.2.2 + u n) (u n)) from rfl]
    (repeat' split) <;> first | rfl | (exfalso; omega) | omega
  · exact r1
  · show ρ 17 0 2 = (rnn u (n + 1)).2.2.1
    rw [r2, show rnn u (n + 1) = (if n = 0 then u n else max (rnn u n).1 (if n = 0 then u n else max ((rnn u n).2.2.2 + u n) (u n)), (rnn u n).2.1 + u n, if n = 0 then u n else max (rnn u n).2.2.1 ((rnn u n).2.1 + u n), if n = 0 then u n else max ((rnn u n).2.2.2 + u n) (u n)) from rfl]
    (repeat' split) <;> first | rfl | (exfalso; omega) | omega
  · show ρ 17 0 3 = (rnn u (n + 1)).2.2.2
    rw [r3, show rnn u (n + 1) = (if n = 0 then u n else max (rnn u n).1 (if n = 0 then u n else max ((rnn u n).2.2.2 + u n) (u n)), (rnn u n).2.1 + u n, if n = 0 then u n else max (rnn u n).2.2.1 ((rnn u n).2.1 + u n), if n = 0 then u n else max ((rnn u n).2.2.2 + u n) (u n)) from rfl]
    (repeat' split) <;> first | rfl | (exfalso; omega) | omega
theorem pk_4 {σ ρ ρ2 : Mm} {u : Int → Int} {n : Nat} (h : FRc σ 4 u n) (g : Gx (fun c x y => c = 17 ∧ x = 0 ∨ c = 14 ∧ x = 0 ∧ y = 7) σ ρ) (r0 : ρ 17 0 0 = lnx (σ 16 0) (u n) (ltr (σ 16 0) u 0 n)) (r1 : ρ 17 0 1 = lnx (σ 16 0) (u n) (ltr (σ 16 0) u 1 n)) (r2 : ρ 17 0 2 = lnx (σ 16 0) (u n) (ltr (σ 16 0) u 2 n)) (r3 : ρ 17 0 3 = lnx (σ 16 0) (u n) (ltr (σ 16 0) u 3 n)) (r4 : ρ 17 0 4 = aptB (lnx (σ 16 0) (u n) (ltr (σ 16 0) u 0 n)) (lnx (σ 16 0) (u n) (ltr (σ 16 0) u 1 n)) (lnx (σ 16 0) (u n) (ltr (σ 16 0) u 2 n)) (lnx (σ 16 0) (u n) (ltr (σ 16 0) u 3 n))) (a : Al1 ρ ρ2 14 0 6) (q : ρ2 14 0 6 = (n : Int) + 1) : FRc ρ2 4 u (n + 1) := by
  have e16 : ρ2 16 0 = σ 16 0 := funext fun j => (a 16 0 j (by omega)).trans (g 16 0 j (by omega))
  have e15 : ρ2 15 0 = σ 15 0 := funext fun j => (a 15 0 j (by omega)).trans (g 15 0 j (by omega))
  refine ⟨(a 14 0 5 (by omega)).trans ((g 14 0 5 (by omega)).trans h.1), by rw [q]; omega, fun h7 => absurd h7 (by decide), fun k h0 h1 => ?_⟩
  rw [a 17 0 k (by omega), e16, e15]
  rcases (by have e : numF 4 = 5 := rfl; omega : k = 0 ∨ k = 1 ∨ k = 2 ∨ k = 3 ∨ k = 4) with rfl | rfl | rfl | rfl | rfl
  · exact r0
  · exact r1
  · exact r2
  · exact r3
  · exact r4
theorem pk_5 {σ ρ ρ2 : Mm} {u : Int → Int} {n : Nat} (h : FRc σ 5 u n) (g : Gx (fun c x y => c = 17 ∧ x = 0 ∨ c = 14 ∧ x = 0 ∧ y = 7) σ ρ) (r0 : ρ 17 0 0 = if 0 ≤ u n then (nst u n).1 else if 0 < (nst u n).2.1 then (nst u n).1 else (nst u n).1 + 1) (r1 : ρ 17 0 1 = if 0 ≤ u n then (nst u n).2.1 + 1 else if 0 < (nst u n).2.1 then (nst u n).2.1 - 1 else (nst u n).2.1) (r2 : ρ 17 0 2 = if 0 ≤ u n then (nst u n).2.2.1 else if 0 < (nst u n).2.1 then (nst u n).2.2.1 + 1 else (nst u n).2.2.1) (r3 : ρ 17 0 3 = max (nst u n).2.2.2 ((if 0 ≤ u n then (nst u n).2.1 + 1 else if 0 < (nst u n).2.1 then (nst u n).2.1 - 1 else (nst u n).2.1) - (if 0 ≤ u n then (nst u n).1 else if 0 < (nst u n).2.1 then (nst u n).1 else (nst u n).1 + 1))) (a : Al1 ρ ρ2 14 0 6) (q : ρ2 14 0 6 = (n : Int) + 1) : FRc ρ2 5 u (n + 1) := by
  have e16 : ρ2 16 0 = σ 16 0 := funext fun j => (a 16 0 j (by omega)).trans (g 16 0 j (by omega))
  have e15 : ρ2 15 0 = σ 15 0 := funext fun j => (a 15 0 j (by omega)).trans (g 15 0 j (by omega))
  refine ⟨(a 14 0 5 (by omega)).trans ((g 14 0 5 (by omega)).trans h.1), by rw [q]; omega, fun h7 => absurd h7 (by decide), fun k h0 h1 => ?_⟩
  rw [a 17 0 k (by omega), e16, e15]
  rcases (by have e : numF 5 = 4 := rfl; omega : k = 0 ∨ k = 1 ∨ k = 2 ∨ k = 3) with rfl | rfl | rfl | rfl
  · show ρ 17 0 0 = (nst u (n + 1)).1
    rw [r0, show nst u (n + 1) = (let s := nst u n; let t := if 0 ≤ u n then (s.1, s.2.1 + 1, s.2.2.1) else if 0 < s.2.1 then (s.1, s.2.1 - 1, s.2.2.1 + 1) else (s.1 + 1, s.2.1, s.2.2.1); (t.1, t.2.1, t.2.2, max s.2.2.2 (t.2.1 - t.1))) from rfl]
    by_cases c1 : 0 ≤ u n
    · simp only [if_pos c1]
    · by_cases c2 : 0 < (nst u n).2.1
      · simp only [if_neg c1, if_pos c2]
      · simp only [if_neg c1, if_neg c2]
  · show ρ 17 0 1 = (nst u (n + 1)).2.1
    rw [r1, show nst u (n + 1) = (let s := nst u n; let t := if 0 ≤ u n then (s.1, s.2.1 + 1, s.2.2.1) else if 0 < s.2.1 then (s.1, s.2.1 - 1, s.2.2.1 + 1) else (s.1 + 1, s.2.1, s.2.2.1); (t.1, t.2.1, t.2.2, max s.2.2.2 (t.2.1 - t.1))) from rfl]
    by_cases c1 : 0 ≤ u n
    · simp only [if_pos c1]
    · by_cases c2 : 0 < (nst u n).2.1
      · simp only [if_neg c1, if_pos c2]
      · simp only [if_neg c1, if_neg c2]
  · show ρ 17 0 2 = (nst u (n + 1)).2.2.1
    rw [r2, show nst u (n + 1) = (let s := nst u n; let t := if 0 ≤ u n then (s.1, s.2.1 + 1, s.2.2.1) else if 0 < s.2.1 then (s.1, s.2.1 - 1, s.2.2.1 + 1) else (s.1 + 1, s.2.1, s.2.2.1); (t.1, t.2.1, t.2.2, max s.2.2.2 (t.2.1 - t.1))) from rfl]
    by_cases c1 : 0 ≤ u n
    · simp only [if_pos c1]
    · by_cases c2 : 0 < (nst u n).2.1
      · simp only [if_neg c1, if_pos c2]
      · simp only [if_neg c1, if_neg c2]
  · show ρ 17 0 3 = (nst u (n + 1)).2.2.2
    rw [r3, show nst u (n + 1) = (let s := nst u n; let t := if 0 ≤ u n then (s.1, s.2.1 + 1, s.2.2.1) else if 0 < s.2.1 then (s.1, s.2.1 - 1, s.2.2.1 + 1) else (s.1 + 1, s.2.1, s.2.2.1); (t.1, t.2.1, t.2.2, max s.2.2.2 (t.2.1 - t.1))) from rfl]
    by_cases c1 : 0 ≤ u n
    · simp only [if_pos c1]
    · by_cases c2 : 0 < (nst u n).2.1
      · simp only [if_neg c1, if_pos c2]
      · simp only [if_neg c1, if_neg c2]
theorem pk_6 {σ ρ ρ2 : Mm} {u : Int → Int} {n : Nat} (h : FRc σ 6 u n) (g : Gx (fun c x y => c = 17 ∧ x = 0 ∨ c = 14 ∧ x = 0 ∧ y = 7) σ ρ) (r4 : ρ 17 0 4 = if (0 < (n : Int) ∧ u n = (if n = 0 then 0 else u (n - 1))) then (lke u n).2.2.2.2 + 1 else 1) (r2 : ρ 17 0 2 = if (0 < (n : Int) ∧ u n = (if n = 0 then 0 else u (n - 1))) then (lke u n).2.2.1 else (lke u n).2.2.1 + 1) (r3 : ρ 17 0 3 = if (if (0 < (n : Int) ∧ u n = (if n = 0 then 0 else u (n - 1))) then (lke u n).2.2.1 else (lke u n).2.2.1 + 1) = 1 then (if (0 < (n : Int) ∧ u n = (if n = 0 then 0 else u (n - 1))) then (lke u n).2.2.2.2 + 1 else 1) else (lke u n).2.2.2.1) (r0 : ρ 17 0 0 = if (if (0 < (n : Int) ∧ u n = (if n = 0 then 0 else u (n - 1))) then (lke u n).2.2.2.2 + 1 else 1) > (lke u n).1 then (if (0 < (n : Int) ∧ u n = (if n = 0 then 0 else u (n - 1))) then (lke u n).2.2.2.2 + 1 else 1) else (lke u n).1) (r1 : ρ 17 0 1 = if (if (0 < (n : Int) ∧ u n = (if n = 0 then 0 else u (n - 1))) then (lke u n).2.2.2.2 + 1 else 1) > (lke u n).1 then u n else (lke u n).2.1) (r5 : ρ 17 0 5 = if (n : Int) = 0 then u n else (if n = 0 then 0 else u 0)) (r6 : ρ 17 0 6 = u n) (a : Al1 ρ ρ2 14 0 6) (q : ρ2 14 0 6 = (n : Int) + 1) : FRc ρ2 6 u (n + 1) := by
  have e16 : ρ2 16 0 = σ 16 0 := funext fun j => (a 16 0 j (by omega)).trans (g 16 0 j (by omega))
  have e15 : ρ2 15 0 = σ 15 0 := funext fun j => (a 15 0 j (by omega)).trans (g 15 0 j (by omega))
  refine ⟨(a 14 0 5 (by omega)).trans ((g 14 0 5 (by omega)).trans h.1), by rw [q]; omega, fun h7 => absurd h7 (by decide), fun k h0 h1 => ?_⟩
  rw [a 17 0 k (by omega), e16, e15]
  rcases (by have e : numF 6 = 7 := rfl; omega : k = 0 ∨ k = 1 ∨ k = 2 ∨ k = 3 ∨ k = 4 ∨ k = 5 ∨ k = 6) with rfl | rfl | rfl | rfl | rfl | rfl | rfl
  · show ρ 17 0 0 = (lke u (n + 1)).1
    rw [r0, show lke u (n + 1) = (let s := lke u n; let same : Bool := decide (0 < n) && decide (u n = u (n - 1)); let l := if same then s.2.2.2.2 + 1 else 1; let r := if same then s.2.2.1 else s.2.2.1 + 1; (if l > s.1 then l else s.1, if l > s.1 then u n else s.2.1, r, if r = 1 then l else s.2.2.2.1, l)) from rfl]
    by_cases c1 : 0 < n ∧ u n = u (n - 1)
    · have d1 : (decide (0 < n) && decide (u n = u (n - 1))) = true := by simp [c1.1, c1.2]
      have d2 : (0 < (n : Int) ∧ u n = (if n = 0 then 0 else u (n - 1))) := ⟨by omega, by rw [if_neg (by omega)]; exact c1.2⟩
      simp only [d1, if_pos d2, if_true]
    · have d1 : (decide (0 < n) && decide (u n = u (n - 1))) = false := by
        cases hh : (decide (0 < n) && decide (u n = u (n - 1)))
        · rfl
        · simp at hh
          exact absurd hh c1
      have d2 : ¬ (0 < (n : Int) ∧ u n = (if n = 0 then 0 else u (n - 1))) := fun hq => c1 ⟨by omega, by have := hq.2; rw [if_neg (by omega)] at this; exact this⟩
      simp only [d1, if_neg d2]
      rfl
  · show ρ 17 0 1 = (lke u (n + 1)).2.1
    rw [r1, show lke u (n + 1) = (let s := lke u n; let same : Bool := decide (0 < n) && decide (u n = u (n - 1)); let l := if same then s.2.2.2.2 + 1 else 1; let r := if same then s.2.2.1 else s.2.2.1 + 1; (if l > s.1 then l else s.1, if l > s.1 then u n else s.2.1, r, if r = 1 then l else s.2.2.2.1, l)) from rfl]
    by_cases c1 : 0 < n ∧ u n = u (n - 1)
    · have d1 : (decide (0 < n) && decide (u n = u (n - 1))) = true := by simp [c1.1, c1.2]
      have d2 : (0 < (n : Int) ∧ u n = (if n = 0 then 0 else u (n - 1))) := ⟨by omega, by rw [if_neg (by omega)]; exact c1.2⟩
      simp only [d1, if_pos d2, if_true]
    · have d1 : (decide (0 < n) && decide (u n = u (n - 1))) = false := by
        cases hh : (decide (0 < n) && decide (u n = u (n - 1)))
        · rfl
        · simp at hh
          exact absurd hh c1
      have d2 : ¬ (0 < (n : Int) ∧ u n = (if n = 0 then 0 else u (n - 1))) := fun hq => c1 ⟨by omega, by have := hq.2; rw [if_neg (by omega)] at this; exact this⟩
      simp only [d1, if_neg d2]
      rfl
  · show ρ 17 0 2 = (lke u (n + 1)).2.2.1
    rw [r2, show lke u (n + 1) = (let s := lke u n; let same : Bool := decide (0 < n) && decide (u n = u (n - 1)); let l := if same then s.2.2.2.2 + 1 else 1; let r := if same then s.2.2.1 else s.2.2.1 + 1; (if l > s.1 then l else s.1, if l > s.1 then u n else s.2.1, r, if r = 1 then l else s.2.2.2.1, l)) from rfl]
    by_cases c1 : 0 < n ∧ u n = u (n - 1)
    · have d1 : (decide (0 < n) && decide (u n = u (n - 1))) = true := by simp [c1.1, c1.2]
      have d2 : (0 < (n : Int) ∧ u n = (if n = 0 then 0 else u (n - 1))) := ⟨by omega, by rw [if_neg (by omega)]; exact c1.2⟩
      simp only [d1, if_pos d2, if_true]
    · have d1 : (decide (0 < n) && decide (u n = u (n - 1))) = false := by
        cases hh : (decide (0 < n) && decide (u n = u (n - 1)))
        · rfl
        · simp at hh
          exact absurd hh c1
      have d2 : ¬ (0 < (n : Int) ∧ u n = (if n = 0 then 0 else u (n - 1))) := fun hq => c1 ⟨by omega, by have := hq.2; rw [if_neg (by omega)] at this; exact this⟩
      simp only [d1, if_neg d2]
      rfl
  · show ρ 17 0 3 = (lke u (n + 1)).2.2.2.1
    rw [r3, show lke u (n + 1) = (let s := lke u n; let same : Bool := decide (0 < n) && decide (u n = u (n - 1)); let l := if same then s.2.2.2.2 + 1 else 1; let r := if same then s.2.2.1 else s.2.2.1 + 1; (if l > s.1 then l else s.1, if l > s.1 then u n else s.2.1, r, if r = 1 then l else s.2.2.2.1, l)) from rfl]
    by_cases c1 : 0 < n ∧ u n = u (n - 1)
    · have d1 : (decide (0 < n) && decide (u n = u (n - 1))) = true := by simp [c1.1, c1.2]
      have d2 : (0 < (n : Int) ∧ u n = (if n = 0 then 0 else u (n - 1))) := ⟨by omega, by rw [if_neg (by omega)]; exact c1.2⟩
      simp only [d1, if_pos d2, if_true]
    · have d1 : (decide (0 < n) && decide (u n = u (n - 1))) = false := by
        cases hh : (decide (0 < n) && decide (u n = u (n - 1)))
        · rfl
        · simp at hh
          exact absurd hh c1
      have d2 : ¬ (0 < (n : Int) ∧ u n = (if n = 0 then 0 else u (n - 1))) := fun hq => c1 ⟨by omega, by have := hq.2; rw [if_neg (by omega)] at this; exact this⟩
      simp only [d1, if_neg d2]
      rfl
  · show ρ 17 0 4 = (lke u (n + 1)).2.2.2.2
    rw [r4, show lke u (n + 1) = (let s := lke u n; let same : Bool := decide (0 < n) && decide (u n = u (n - 1)); let l := if same then s.2.2.2.2 + 1 else 1; let r := if same then s.2.2.1 else s.2.2.1 + 1; (if l > s.1 then l else s.1, if l > s.1 then u n else s.2.1, r, if r = 1 then l else s.2.2.2.1, l)) from rfl]
    by_cases c1 : 0 < n ∧ u n = u (n - 1)
    · have d1 : (decide (0 < n) && decide (u n = u (n - 1))) = true := by simp [c1.1, c1.2]
      have d2 : (0 < (n : Int) ∧ u n = (if n = 0 then 0 else u (n - 1))) := ⟨by omega, by rw [if_neg (by omega)]; exact c1.2⟩
      simp only [d1, if_pos d2, if_true]
    · have d1 : (decide (0 < n) && decide (u n = u (n - 1))) = false := by
        cases hh : (decide (0 < n) && decide (u n = u (n - 1)))
        · rfl
        · simp at hh
          exact absurd hh c1
      have d2 : ¬ (0 < (n : Int) ∧ u n = (if n = 0 then 0 else u (n - 1))) := fun hq => c1 ⟨by omega, by have := hq.2; rw [if_neg (by omega)] at this; exact this⟩
      simp only [d1, if_neg d2]
      rfl
  · show ρ 17 0 5 = u 0
    rw [r5]
    by_cases hn : n = 0
    · subst hn
      rfl
    · rw [if_neg (by omega), if_neg hn]
  · show ρ 17 0 6 = u (((n + 1 : Nat) : Int) - 1)
    rw [r6, show ((n + 1 : Nat) : Int) - 1 = (n : Int) from by omega]
theorem pk_7 {σ ρ ρ2 : Mm} {u : Int → Int} {n : Nat} (h : FRc σ 7 u n) (g : Gx (fun c x y => c = 17 ∧ x = 0 ∨ c = 14 ∧ x = 0 ∧ y = 7) σ ρ) (r0 : ρ 17 0 0 = (stp u n).1 + (if (0 < (n : Int) ∧ u n < (if n = 0 then 0 else u (n - 1))) then 1 else 0)) (r1 : ρ 17 0 1 = (stp u n).2.1 + (if (0 < (n : Int) ∧ u n > (if n = 0 then 0 else u (n - 1))) then 1 else 0)) (r2 : ρ 17 0 2 = if (n : Int) = 0 then u n else (if n = 0 then 0 else u 0)) (r3 : ρ 17 0 3 = u n) (r4 : ρ 17 0 4 = max (stp u n).2.2.1 (if (0 < (n : Int) ∧ u n < (if n = 0 then 0 else u (n - 1))) then 1 else (stp u n).2.2.2 + 1)) (rr : ρ 14 0 7 = if (0 < (n : Int) ∧ u n < (if n = 0 then 0 else u (n - 1))) then 1 else (stp u n).2.2.2 + 1) (a : Al1 ρ ρ2 14 0 6) (q : ρ2 14 0 6 = (n : Int) + 1) : FRc ρ2 7 u (n + 1) := by
  have e16 : ρ2 16 0 = σ 16 0 := funext fun j => (a 16 0 j (by omega)).trans (g 16 0 j (by omega))
  have e15 : ρ2 15 0 = σ 15 0 := funext fun j => (a 15 0 j (by omega)).trans (g 15 0 j (by omega))
  refine ⟨(a 14 0 5 (by omega)).trans ((g 14 0 5 (by omega)).trans h.1), by rw [q]; omega, fun h7 => ?_, fun k h0 h1 => ?_⟩
  · rw [a 14 0 7 (by omega), rr]
    show _ = (stp u (n + 1)).2.2.2
    rw [show stp u (n + 1) = (let s := stp u n; let f : Bool := decide (0 < n) && decide (u n < u (n - 1)); let c : Bool := decide (0 < n) && decide (u n > u (n - 1)); let r := if f then 1 else s.2.2.2 + 1; (s.1 + (if f then 1 else 0), s.2.1 + (if c then 1 else 0), max s.2.2.1 r, r)) from rfl]
    by_cases c1 : 0 < n ∧ u n < u (n - 1)
    · have d1 : (decide (0 < n) && decide (u n < u (n - 1))) = true := by simp only [c1.1, c1.2, decide_true, Bool.and_self]
      have d2 : (0 < (n : Int) ∧ u n < (if n = 0 then 0 else u (n - 1))) := ⟨by omega, by rw [if_neg (by omega)]; exact c1.2⟩
      simp only [d1, if_pos d2, if_true]
    · have d1 : (decide (0 < n) && decide (u n < u (n - 1))) = false := by
        cases hh : (decide (0 < n) && decide (u n < u (n - 1)))
        · rfl
        · simp only [Bool.and_eq_true, decide_eq_true_eq] at hh
          exact absurd hh c1
      have d2 : ¬ (0 < (n : Int) ∧ u n < (if n = 0 then 0 else u (n - 1))) := fun hq => c1 ⟨by omega, by have := hq.2; rw [if_neg (by omega)] at this; exact this⟩
      simp only [d1, if_neg d2]
      rfl
  · rw [a 17 0 k (by omega), e16, e15]
    rcases (by have e : numF 7 = 5 := rfl; omega : k = 0 ∨ k = 1 ∨ k = 2 ∨ k = 3 ∨ k = 4) with rfl | rfl | rfl | rfl | rfl
    · show ρ 17 0 0 = (stp u (n + 1)).1
      rw [r0, show stp u (n + 1) = (let s := stp u n; let f : Bool := decide (0 < n) && decide (u n < u (n - 1)); let c : Bool := decide (0 < n) && decide (u n > u (n - 1)); let r := if f then 1 else s.2.2.2 + 1; (s.1 + (if f then 1 else 0), s.2.1 + (if c then 1 else 0), max s.2.2.1 r, r)) from rfl]
      by_cases c1 : 0 < n ∧ u n < u (n - 1)
      · have d1 : (decide (0 < n) && decide (u n < u (n - 1))) = true := by simp only [c1.1, c1.2, decide_true, Bool.and_self]
        have d2 : (0 < (n : Int) ∧ u n < (if n = 0 then 0 else u (n - 1))) := ⟨by omega, by rw [if_neg (by omega)]; exact c1.2⟩
        simp only [d1, if_pos d2, if_true]
      · have d1 : (decide (0 < n) && decide (u n < u (n - 1))) = false := by
          cases hh : (decide (0 < n) && decide (u n < u (n - 1)))
          · rfl
          · simp only [Bool.and_eq_true, decide_eq_true_eq] at hh
            exact absurd hh c1
        have d2 : ¬ (0 < (n : Int) ∧ u n < (if n = 0 then 0 else u (n - 1))) := fun hq => c1 ⟨by omega, by have := hq.2; rw [if_neg (by omega)] at this; exact this⟩
        simp only [d1, if_neg d2]
        rfl
    · show ρ 17 0 1 = (stp u (n + 1)).2.1
      rw [r1, show stp u (n + 1) = (let s := stp u n; let f : Bool := decide (0 < n) && decide (u n < u (n - 1)); let c : Bool := decide (0 < n) && decide (u n > u (n - 1)); let r := if f then 1 else s.2.2.2 + 1; (s.1 + (if f then 1 else 0), s.2.1 + (if c then 1 else 0), max s.2.2.1 r, r)) from rfl]
      by_cases c1 : 0 < n ∧ u n > u (n - 1)
      · have d1 : (decide (0 < n) && decide (u n > u (n - 1))) = true := by simp only [c1.1, c1.2, decide_true, Bool.and_self]
        have d2 : (0 < (n : Int) ∧ u n > (if n = 0 then 0 else u (n - 1))) := ⟨by omega, by rw [if_neg (by omega)]; exact c1.2⟩
        simp only [d1, if_pos d2, if_true]
      · have d1 : (decide (0 < n) && decide (u n > u (n - 1))) = false := by
          cases hh : (decide (0 < n) && decide (u n > u (n - 1)))
          · rfl
          · simp only [Bool.and_eq_true, decide_eq_true_eq] at hh
            exact absurd hh c1
        have d2 : ¬ (0 < (n : Int) ∧ u n > (if n = 0 then 0 else u (n - 1))) := fun hq => c1 ⟨by omega, by have := hq.2; rw [if_neg (by omega)] at this; exact this⟩
        simp only [d1, if_neg d2]
        rfl
    · show ρ 17 0 2 = u 0
      rw [r2]
      by_cases hn : n = 0
      · subst hn
        rfl
      · rw [if_neg (by omega), if_neg hn]
    · show ρ 17 0 3 = u (((n + 1 : Nat) : Int) - 1)
      rw [r3, show ((n + 1 : Nat) : Int) - 1 = (n : Int) from by omega]
    · show ρ 17 0 4 = (stp u (n + 1)).2.2.1
      rw [r4, show stp u (n + 1) = (let s := stp u n; let f : Bool := decide (0 < n) && decide (u n < u (n - 1)); let c : Bool := decide (0 < n) && decide (u n > u (n - 1)); let r := if f then 1 else s.2.2.2 + 1; (s.1 + (if f then 1 else 0), s.2.1 + (if c then 1 else 0), max s.2.2.1 r, r)) from rfl]
      by_cases c1 : 0 < n ∧ u n < u (n - 1)
      · have d1 : (decide (0 < n) && decide (u n < u (n - 1))) = true := by simp only [c1.1, c1.2, decide_true, Bool.and_self]
        have d2 : (0 < (n : Int) ∧ u n < (if n = 0 then 0 else u (n - 1))) := ⟨by omega, by rw [if_neg (by omega)]; exact c1.2⟩
        simp only [d1, if_pos d2, if_true]
      · have d1 : (decide (0 < n) && decide (u n < u (n - 1))) = false := by
          cases hh : (decide (0 < n) && decide (u n < u (n - 1)))
          · rfl
          · simp only [Bool.and_eq_true, decide_eq_true_eq] at hh
            exact absurd hh c1
        have d2 : ¬ (0 < (n : Int) ∧ u n < (if n = 0 then 0 else u (n - 1))) := fun hq => c1 ⟨by omega, by have := hq.2; rw [if_neg (by omega)] at this; exact this⟩
        simp only [d1, if_neg d2]
        rfl
theorem pk_8 {σ ρ ρ2 : Mm} {u : Int → Int} {n : Nat} (h : FRc σ 8 u n) (g : Gx (fun c x y => c = 17 ∧ x = 0 ∨ c = 14 ∧ x = 0 ∧ y = 7) σ ρ) (r0 : ρ 17 0 0 = if 0 < u n ∧ ((spr u n).1 = -2147483648 ∨ u n < (spr u n).1) then u n else (spr u n).1) (r1 : ρ 17 0 1 = if u n < 0 ∧ (spr u n).2.1 < u n then u n else (spr u n).2.1) (r2 : ρ 17 0 2 = (spr u n).2.2 + (if u n = 0 then 1 else 0)) (a : Al1 ρ ρ2 14 0 6) (q : ρ2 14 0 6 = (n : Int) + 1) : FRc ρ2 8 u (n + 1) := by
  have e16 : ρ2 16 0 = σ 16 0 := funext fun j => (a 16 0 j (by omega)).trans (g 16 0 j (by omega))
  have e15 : ρ2 15 0 = σ 15 0 := funext fun j => (a 15 0 j (by omega)).trans (g 15 0 j (by omega))
  refine ⟨(a 14 0 5 (by omega)).trans ((g 14 0 5 (by omega)).trans h.1), by rw [q]; omega, fun h7 => absurd h7 (by decide), fun k h0 h1 => ?_⟩
  rw [a 17 0 k (by omega), e16, e15]
  rcases (by have e : numF 8 = 3 := rfl; omega : k = 0 ∨ k = 1 ∨ k = 2) with rfl | rfl | rfl
  · exact r0
  · exact r1
  · exact r2
theorem pk_9 {σ ρ ρ2 : Mm} {u : Int → Int} {n : Nat} (h : FRc σ 9 u n) (g : Gx (fun c x y => c = 17 ∧ x = 0 ∨ c = 14 ∧ x = 0 ∧ y = 7) σ ρ) (r0 : ρ 17 0 0 = if (n : Int) = 0 then u n % 4 else σ 15 0 (4 * tbl (σ 15 0) u n + u n % 4)) (a : Al1 ρ ρ2 14 0 6) (q : ρ2 14 0 6 = (n : Int) + 1) : FRc ρ2 9 u (n + 1) := by
  have e16 : ρ2 16 0 = σ 16 0 := funext fun j => (a 16 0 j (by omega)).trans (g 16 0 j (by omega))
  have e15 : ρ2 15 0 = σ 15 0 := funext fun j => (a 15 0 j (by omega)).trans (g 15 0 j (by omega))
  refine ⟨(a 14 0 5 (by omega)).trans ((g 14 0 5 (by omega)).trans h.1), by rw [q]; omega, fun h7 => absurd h7 (by decide), fun k h0 h1 => ?_⟩
  rw [a 17 0 k (by omega), e16, e15]
  obtain rfl : k = 0 := by have e : numF 9 = 1 := rfl; omega
  show ρ 17 0 0 = (if n = 0 then u 0 % 4 else σ 15 0 (4 * tbl (σ 15 0) u n + u n % 4))
  rw [r0]
  by_cases hn : n = 0
  · subst hn
    rfl
  · rw [if_neg (by omega), if_neg hn]
theorem fr_zero {ρ : Mm} {o : Int} {u : Int → Int} (b_o : 0 ≤ o ∧ o ≤ 9) (w5 : ρ 14 0 5 = o) (w6 : ρ 14 0 6 = 0) (w7 : ρ 14 0 7 = 0) (a0 : ρ 17 0 0 = if o = 2 then 1 else if o = 8 then -2147483648 else 0) (a1 : ρ 17 0 1 = if o = 4 then 1 else if o = 8 then -2147483648 else 0) (a2 : ρ 17 0 2 = if o = 4 then 2 else 0) (a3 : ρ 17 0 3 = if o = 4 then 3 else 0) (a4 : ρ 17 0 4 = 0 ∧ ρ 17 0 5 = 0 ∧ ρ 17 0 6 = 0) : FRc ρ o u 0 := by
  refine ⟨w5, w6, fun _ => w7, fun k h0 h1 => ?_⟩
  rcases (by omega : o = 0 ∨ o = 1 ∨ o = 2 ∨ o = 3 ∨ o = 4 ∨ o = 5 ∨ o = 6 ∨ o = 7 ∨ o = 8 ∨ o = 9) with rfl | rfl | rfl | rfl | rfl | rfl | rfl | rfl | rfl | rfl
  · rcases (by have e : numF 0 = 4 := rfl; omega : k = 0 ∨ k = 1 ∨ k = 2 ∨ k = 3) with rfl | rfl | rfl | rfl
    · exact a0
    · exact a1
    · exact a2
    · exact a3
  · rcases (by have e : numF 1 = 2 := rfl; omega : k = 0 ∨ k = 1) with rfl | rfl
    · exact a0
    · exact a1
  · rcases (by have e : numF 2 = 2 := rfl; omega : k = 0 ∨ k = 1) with rfl | rfl
    · exact a0
    · exact a1
  · rcases (by have e : numF 3 = 4 := rfl; omega : k = 0 ∨ k = 1 ∨ k = 2 ∨ k = 3) with rfl | rfl | rfl | rfl
    · exact a0
    · exact a1
    · exact a2
    · exact a3
  · rcases (by have e : numF 4 = 5 := rfl; omega : k = 0 ∨ k = 1 ∨ k = 2 ∨ k = 3 ∨ k = 4) with rfl | rfl | rfl | rfl | rfl
    · exact a0
    · exact a1
    · exact a2
    · exact a3
    · exact a4.1
  · rcases (by have e : numF 5 = 4 := rfl; omega : k = 0 ∨ k = 1 ∨ k = 2 ∨ k = 3) with rfl | rfl | rfl | rfl
    · exact a0
    · exact a1
    · exact a2
    · exact a3
  · rcases (by have e : numF 6 = 7 := rfl; omega : k = 0 ∨ k = 1 ∨ k = 2 ∨ k = 3 ∨ k = 4 ∨ k = 5 ∨ k = 6) with rfl | rfl | rfl | rfl | rfl | rfl | rfl
    · exact a0
    · exact a1
    · exact a2
    · exact a3
    · exact a4.1
    · exact a4.2.1
    · exact a4.2.2
  · rcases (by have e : numF 7 = 5 := rfl; omega : k = 0 ∨ k = 1 ∨ k = 2 ∨ k = 3 ∨ k = 4) with rfl | rfl | rfl | rfl | rfl
    · exact a0
    · exact a1
    · exact a2
    · exact a3
    · exact a4.1
  · rcases (by have e : numF 8 = 3 := rfl; omega : k = 0 ∨ k = 1 ∨ k = 2) with rfl | rfl | rfl
    · exact a0
    · exact a1
    · exact a2
  · obtain rfl : k = 0 := by have e : numF 9 = 1 := rfl; omega
    exact a0
