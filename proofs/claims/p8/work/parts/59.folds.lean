-- ranges and words of the arithmetic, told whole
theorem iand_fr (a b : Int) : -2147483648 ≤ iand a b ∧ iand a b ≤ 2147483647 := inR_le (inR_of _)
theorem ior_fr (a b : Int) : -2147483648 ≤ ior a b ∧ ior a b ≤ 2147483647 := inR_le (inR_of _)
theorem ixor_fr (a b : Int) : -2147483648 ≤ ixor a b ∧ ixor a b ≤ 2147483647 := inR_le (inR_of _)
theorem ishl_fr (a b : Int) : -2147483648 ≤ ishl a b ∧ ishl a b ≤ 2147483647 := inR_le (inR_of _)
theorem ishr_fr (a b : Int) : -2147483648 ≤ ishr a b ∧ ishr a b ≤ 2147483647 := inR_le (inR_of _)
theorem iushr_fr (a b : Int) : -2147483648 ≤ iushr a b ∧ iushr a b ≤ 2147483647 := inR_le (inR_of _)
theorem emod_fr {a b : Int} (h : 0 < b) : 0 ≤ a % b ∧ a % b < b := ⟨Int.emod_nonneg a (by omega), Int.emod_lt_of_pos a h⟩
theorem tmod_fr {a b : Int} (h : 0 < b) : -b < Int.tmod a b ∧ Int.tmod a b < b ∧ (0 ≤ a → 0 ≤ Int.tmod a b) ∧ (a ≤ 0 → Int.tmod a b ≤ 0) := by
  have h3 : (-a).tmod b = -(a.tmod b) := Int.neg_tmod a b
  have h4 := Int.tmod_lt_of_pos (-a) h
  refine ⟨by omega, Int.tmod_lt_of_pos a h, fun q => Int.tmod_nonneg _ q, fun q => ?_⟩
  have h5 := Int.tmod_nonneg b (a := -a) (by omega)
  omega
theorem emod_tm {a b : Int} (h : 0 < b) : a % b = if Int.tmod a b < 0 then Int.tmod a b + b else Int.tmod a b := by
  by_cases h0 : 0 ≤ a
  · have := Int.tmod_nonneg b h0
    rw [if_neg (by omega), Int.tmod_eq_emod_of_nonneg h0]
  · have h1 := Int.tmod_eq_emod (a := a) (b := b)
    have h2 := emod_fr (a := a) h
    have h3 := (tmod_fr (a := a) h).2.2.2 (by omega)
    by_cases hz : Int.tmod a b < 0
    · rw [if_pos hz]
      have hn : ((b.natAbs : Nat) : Int) = b := by omega
      split at h1 <;> omega
    · rw [if_neg hz]
      have hn : ((b.natAbs : Nat) : Int) = b := by omega
      split at h1 <;> omega
def aptB (a b c d : Int) : Int := 1 + (if b = a then 0 else 1) + (if c = a ∨ c = b then 0 else 1) + (if d = a ∨ d = b ∨ d = c then 0 else 1)
theorem reach_fin : ∀ a b c d : Fin 4, (0 ≤ ior (ior (ior (ior 0 (ishl 1 (a.val : Int))) (ishl 1 (b.val : Int))) (ishl 1 (c.val : Int))) (ishl 1 (d.val : Int)) ∧ ior (ior (ior (ior 0 (ishl 1 (a.val : Int))) (ishl 1 (b.val : Int))) (ishl 1 (c.val : Int))) (ishl 1 (d.val : Int)) ≤ 15) ∧ ior (ior (ior (ior 0 (ishl 1 (a.val : Int))) (ishl 1 (b.val : Int))) (ishl 1 (c.val : Int))) (ishl 1 (d.val : Int)) % 2 + ior (ior (ior (ior 0 (ishl 1 (a.val : Int))) (ishl 1 (b.val : Int))) (ishl 1 (c.val : Int))) (ishl 1 (d.val : Int)) / 2 % 2 + ior (ior (ior (ior 0 (ishl 1 (a.val : Int))) (ishl 1 (b.val : Int))) (ishl 1 (c.val : Int))) (ishl 1 (d.val : Int)) / 4 % 2 + ior (ior (ior (ior 0 (ishl 1 (a.val : Int))) (ishl 1 (b.val : Int))) (ishl 1 (c.val : Int))) (ishl 1 (d.val : Int)) / 8 % 2 = aptB (a.val : Int) (b.val : Int) (c.val : Int) (d.val : Int) := by decide +kernel
theorem reach_ok {a b c d : Int} (ha : 0 ≤ a ∧ a ≤ 3) (hb : 0 ≤ b ∧ b ≤ 3) (hc : 0 ≤ c ∧ c ≤ 3) (hd : 0 ≤ d ∧ d ≤ 3) : 0 ≤ ior (ior (ior (ior 0 (ishl 1 a)) (ishl 1 b)) (ishl 1 c)) (ishl 1 d) ∧ ior (ior (ior (ior 0 (ishl 1 a)) (ishl 1 b)) (ishl 1 c)) (ishl 1 d) ≤ 15 ∧ ior (ior (ior (ior 0 (ishl 1 a)) (ishl 1 b)) (ishl 1 c)) (ishl 1 d) % 2 + ior (ior (ior (ior 0 (ishl 1 a)) (ishl 1 b)) (ishl 1 c)) (ishl 1 d) / 2 % 2 + ior (ior (ior (ior 0 (ishl 1 a)) (ishl 1 b)) (ishl 1 c)) (ishl 1 d) / 4 % 2 + ior (ior (ior (ior 0 (ishl 1 a)) (ishl 1 b)) (ishl 1 c)) (ishl 1 d) / 8 % 2 = aptB a b c d := by
  have h := reach_fin ⟨a.toNat, by omega⟩ ⟨b.toNat, by omega⟩ ⟨c.toNat, by omega⟩ ⟨d.toNat, by omega⟩
  simp only [Int.toNat_of_nonneg ha.1, Int.toNat_of_nonneg hb.1, Int.toNat_of_nonneg hc.1, Int.toNat_of_nonneg hd.1] at h
  exact ⟨h.1.1, h.1.2, h.2⟩
-- what a row of values comes to: v is the row, n how long it is
abbrev NO : Int := -2147483648
def gr (v : Int → Int) : Nat → Int × Int × Int
  | 0 => (0, 0, 0)
  | n + 1 => if n = 0 ∨ v n > (gr v n).1 then (v n, 1, (n : Int)) else if v n = (gr v n).1 then ((gr v n).1, (gr v n).2.1 + 1, (gr v n).2.2) else gr v n
def shr (v : Int → Int) : Nat → Int × Int
  | 0 => (0, 0)
  | n + 1 => ((Int.gcd (shr v n).1 (v n) : Int), (shr v n).2 + (if v n = 0 then 0 else 1))
def lin (v : Int → Int) : Nat → Int × Int
  | 0 => (1, 0)
  | n + 1 => ((v n % 997) * (lin v n).1 % 997, ((v n % 997) * (lin v n).2 + (7 * v n + 1) % 997) % 997)
/-- best, all, first, last -/
def rnn (v : Int → Int) : Nat → Int × Int × Int × Int
  | 0 => (0, 0, 0, 0)
  | n + 1 =>
    let a := (rnn v n).2.1 + v n
    let l := if n = 0 then v n else max ((rnn v n).2.2.2 + v n) (v n)
    (if n = 0 then v n else max (rnn v n).1 l, a, if n = 0 then v n else max (rnn v n).2.2.1 a, l)
def lnx (tl : Int → Int) (x a : Int) : Int := iand (ishr (tl (x % 8)) (2 * a)) 3
def ltr (tl : Int → Int) (v : Int → Int) (s : Int) : Nat → Int
  | 0 => s
  | n + 1 => lnx tl (v n) (ltr tl v s n)
/-- how many of four are apart -/
abbrev apt (a b c d : Int) : Int := aptB a b c d
/-- shut, open, couples, most -/
def nst (v : Int → Int) : Nat → Int × Int × Int × Int
  | 0 => (0, 0, 0, 0)
  | n + 1 =>
    let s := nst v n
    let t := if 0 ≤ v n then (s.1, s.2.1 + 1, s.2.2.1) else if 0 < s.2.1 then (s.1, s.2.1 - 1, s.2.2.1 + 1) else (s.1 + 1, s.2.1, s.2.2.1)
    (t.1, t.2.1, t.2.2, max s.2.2.2 (t.2.1 - t.1))
/-- longest, its, rows, first's length, last's length -/
def lke (v : Int → Int) : Nat → Int × Int × Int × Int × Int
  | 0 => (0, 0, 0, 0, 0)
  | n + 1 =>
    let s := lke v n
    let same : Bool := decide (0 < n) && decide (v n = v (n - 1))
    let l := if same then s.2.2.2.2 + 1 else 1
    let r := if same then s.2.2.1 else s.2.2.1 + 1
    (if l > s.1 then l else s.1, if l > s.1 then v n else s.2.1, r, if r = 1 then l else s.2.2.2.1, l)
/-- less, greater, most, rising -/
def stp (v : Int → Int) : Nat → Int × Int × Int × Int
  | 0 => (0, 0, 0, 0)
  | n + 1 =>
    let s := stp v n
    let f : Bool := decide (0 < n) && decide (v n < v (n - 1))
    let c : Bool := decide (0 < n) && decide (v n > v (n - 1))
    let r := if f then 1 else s.2.2.2 + 1
    (s.1 + (if f then 1 else 0), s.2.1 + (if c then 1 else 0), max s.2.2.1 r, r)
def spr (v : Int → Int) : Nat → Int × Int × Int
  | 0 => (NO, NO, 0)
  | n + 1 => (if 0 < v n ∧ ((spr v n).1 = NO ∨ v n < (spr v n).1) then v n else (spr v n).1, if v n < 0 ∧ (spr v n).2.1 < v n then v n else (spr v n).2.1, (spr v n).2.2 + (if v n = 0 then 1 else 0))
def tbl (tc : Int → Int) (v : Int → Int) : Nat → Int
  | 0 => 0
  | n + 1 => if n = 0 then v 0 % 4 else tc (4 * tbl tc v n + v n % 4)
/-- number k of a row by an operation -/
def cmN (tl tc : Int → Int) (o : Int) (v : Int → Int) (n : Nat) (k : Int) : Int :=
  if o = 0 then (if k = 0 then (gr v n).1 else if k = 1 then (gr v n).2.1 else if k = 2 then (gr v n).2.2 else (n : Int))
  else if o = 1 then (if k = 0 then (shr v n).1 else (shr v n).2)
  else if o = 2 then (if k = 0 then (lin v n).1 else (lin v n).2)
  else if o = 3 then (if k = 0 then (rnn v n).1 else if k = 1 then (rnn v n).2.1 else if k = 2 then (rnn v n).2.2.1 else (rnn v n).2.2.2)
  else if o = 4 then (if k = 4 then (if n = 0 then 0 else apt (ltr tl v 0 n) (ltr tl v 1 n) (ltr tl v 2 n) (ltr tl v 3 n)) else ltr tl v k n)
  else if o = 5 then (if k = 0 then (nst v n).1 else if k = 1 then (nst v n).2.1 else if k = 2 then (nst v n).2.2.1 else (nst v n).2.2.2)
  else if o = 6 then (if k = 0 then (lke v n).1 else if k = 1 then (lke v n).2.1 else if k = 2 then (lke v n).2.2.1 else if k = 3 then (lke v n).2.2.2.1 else if k = 4 then (lke v n).2.2.2.2 else if n = 0 then 0 else if k = 5 then v 0 else v (n - 1))
  else if o = 7 then (if k = 0 then (stp v n).1 else if k = 1 then (stp v n).2.1 else if k = 4 then (stp v n).2.2.1 else if n = 0 then 0 else if k = 2 then v 0 else v (n - 1))
  else if o = 8 then (if k = 0 then (spr v n).1 else if k = 1 then (spr v n).2.1 else (spr v n).2.2)
  else tbl tc v n
/-- a number of a row, or none -/
def cm (tl tc : Int → Int) (o : Int) (v : Int → Int) (n : Nat) (w : Int) : Int := if n = 0 ∨ ¬ (0 ≤ w ∧ w < numF o) then NO else cmN tl tc o v n w
-- only the row's own places count
section CONG
variable {v u : Int → Int}
theorem gr_c {n : Nat} (h : ∀ j : Int, 0 ≤ j → j < n → v j = u j) : gr v n = gr u n := by
  induction n with
  | zero => rfl
  | succ n ih =>
    have e := ih fun j h0 h1 => h j h0 (by omega)
    have q := h n (by omega) (by omega)
    unfold gr
    rw [e, q]
theorem shr_c {n : Nat} (h : ∀ j : Int, 0 ≤ j → j < n → v j = u j) : shr v n = shr u n := by
  induction n with
  | zero => rfl
  | succ n ih =>
    have e := ih fun j h0 h1 => h j h0 (by omega)
    have q := h n (by omega) (by omega)
    unfold shr
    rw [e, q]
theorem lin_c {n : Nat} (h : ∀ j : Int, 0 ≤ j → j < n → v j = u j) : lin v n = lin u n := by
  induction n with
  | zero => rfl
  | succ n ih =>
    have e := ih fun j h0 h1 => h j h0 (by omega)
    have q := h n (by omega) (by omega)
    unfold lin
    rw [e, q]
theorem rnn_c {n : Nat} (h : ∀ j : Int, 0 ≤ j → j < n → v j = u j) : rnn v n = rnn u n := by
  induction n with
  | zero => rfl
  | succ n ih =>
    have e := ih fun j h0 h1 => h j h0 (by omega)
    have q := h n (by omega) (by omega)
    unfold rnn
    rw [e, q]
theorem ltr_c {tl : Int → Int} {s : Int} {n : Nat} (h : ∀ j : Int, 0 ≤ j → j < n → v j = u j) : ltr tl v s n = ltr tl u s n := by
  induction n with
  | zero => rfl
  | succ n ih =>
    have e := ih fun j h0 h1 => h j h0 (by omega)
    have q := h n (by omega) (by omega)
    unfold ltr
    rw [e, q]
theorem nst_c {n : Nat} (h : ∀ j : Int, 0 ≤ j → j < n → v j = u j) : nst v n = nst u n := by
  induction n with
  | zero => rfl
  | succ n ih =>
    have e := ih fun j h0 h1 => h j h0 (by omega)
    have q := h n (by omega) (by omega)
    unfold nst
    rw [e, q]
theorem lke_c {n : Nat} (h : ∀ j : Int, 0 ≤ j → j < n → v j = u j) : lke v n = lke u n := by
  induction n with
  | zero => rfl
  | succ n ih =>
    have e := ih fun j h0 h1 => h j h0 (by omega)
    have q := h n (by omega) (by omega)
    by_cases hn : n = 0
    · subst hn
      unfold lke
      rw [e, q]
      rfl
    · have q2 := h (n - 1) (by omega) (by omega)
      unfold lke
      rw [e, q, q2]
theorem stp_c {n : Nat} (h : ∀ j : Int, 0 ≤ j → j < n → v j = u j) : stp v n = stp u n := by
  induction n with
  | zero => rfl
  | succ n ih =>
    have e := ih fun j h0 h1 => h j h0 (by omega)
    have q := h n (by omega) (by omega)
    by_cases hn : n = 0
    · subst hn
      unfold stp
      rw [e, q]
      rfl
    · have q2 := h (n - 1) (by omega) (by omega)
      unfold stp
      rw [e, q, q2]
theorem spr_c {n : Nat} (h : ∀ j : Int, 0 ≤ j → j < n → v j = u j) : spr v n = spr u n := by
  induction n with
  | zero => rfl
  | succ n ih =>
    have e := ih fun j h0 h1 => h j h0 (by omega)
    have q := h n (by omega) (by omega)
    unfold spr
    rw [e, q]
theorem tbl_c {tc : Int → Int} {n : Nat} (h : ∀ j : Int, 0 ≤ j → j < n → v j = u j) : tbl tc v n = tbl tc u n := by
  induction n with
  | zero => rfl
  | succ n ih =>
    have e := ih fun j h0 h1 => h j h0 (by omega)
    have q := h n (by omega) (by omega)
    have q0 := h 0 (by omega) (by omega)
    unfold tbl
    rw [e, q, q0]
theorem cmN_c {tl tc : Int → Int} {o k : Int} {n : Nat} (h : ∀ j : Int, 0 ≤ j → j < n → v j = u j) : cmN tl tc o v n k = cmN tl tc o u n k := by
  unfold cmN
  rw [gr_c h, shr_c h, lin_c h, rnn_c h, ltr_c (s := 0) h, ltr_c (s := 1) h, ltr_c (s := 2) h, ltr_c (s := 3) h, ltr_c (s := k) h, nst_c h, lke_c h, stp_c h, spr_c h, tbl_c h]
  by_cases hn : n = 0
  · subst hn
    rfl
  · rw [h 0 (by omega) (by omega), h (n - 1) (by omega) (by omega)]
theorem cm_c {tl tc : Int → Int} {o w : Int} {n : Nat} (h : ∀ j : Int, 0 ≤ j → j < n → v j = u j) : cm tl tc o v n w = cm tl tc o u n w := by
  unfold cm
  rw [cmN_c h]
end CONG
-- the same told in other words: as one goes through the whole row again
theorem gr_top (v : Int → Int) : ∀ n : Nat, 1 ≤ n → v (gr v n).2.2 = (gr v n).1 ∧ 0 ≤ (gr v n).2.2 ∧ (gr v n).2.2 < n ∧ ∀ j : Int, 0 ≤ j → j < n → v j ≤ (gr v n).1
  | 0, h => by omega
  | 1, _ => by
    refine ⟨rfl, Int.le_refl _, by show (0 : Int) < 1; omega, fun j h0 h1 => ?_⟩
    have e : j = 0 := by omega
    subst e
    exact Int.le_refl _
  | n + 2, _ => by
    obtain ⟨i1, i2, i3, i4⟩ := gr_top v (n + 1) (by omega)
    have e : gr v (n + 2) = (if n + 1 = 0 ∨ v ((n + 1 : Nat) : Int) > (gr v (n + 1)).1 then (v ((n + 1 : Nat) : Int), 1, ((n + 1 : Nat) : Int)) else if v ((n + 1 : Nat) : Int) = (gr v (n + 1)).1 then ((gr v (n + 1)).1, (gr v (n + 1)).2.1 + 1, (gr v (n + 1)).2.2) else gr v (n + 1)) := rfl
    rw [e]
    by_cases h1 : n + 1 = 0 ∨ v ((n + 1 : Nat) : Int) > (gr v (n + 1)).1
    · rw [if_pos h1]
      refine ⟨rfl, by show (0 : Int) ≤ ((n + 1 : Nat) : Int); omega, by show ((n + 1 : Nat) : Int) < _; omega, fun j h0 h2 => ?_⟩
      by_cases hj : j = ((n + 1 : Nat) : Int)
      · subst hj; exact Int.le_refl _
      · have := i4 j h0 (by omega)
        show v j ≤ v ((n + 1 : Nat) : Int)
        omega
    · rw [if_neg h1]
      have hj : ∀ j : Int, 0 ≤ j → j < ((n + 2 : Nat) : Int) → v j ≤ (gr v (n + 1)).1 := fun j h0 h2 => by
        by_cases hj : j = ((n + 1 : Nat) : Int)
        · subst hj; omega
        · exact i4 j h0 (by omega)
      by_cases h2 : v ((n + 1 : Nat) : Int) = (gr v (n + 1)).1
      · rw [if_pos h2]
        exact ⟨i1, i2, by show (gr v (n + 1)).2.2 < _; omega, hj⟩
      · rw [if_neg h2]
        exact ⟨i1, i2, by omega, hj⟩
theorem gr_step (v : Int → Int) (n : Nat) : (gr v (n + 1)).2.2 = if v n > v (gr v n).2.2 then (n : Int) else (gr v n).2.2 := by
  have e : gr v (n + 1) = (if n = 0 ∨ v n > (gr v n).1 then (v n, 1, (n : Int)) else if v n = (gr v n).1 then ((gr v n).1, (gr v n).2.1 + 1, (gr v n).2.2) else gr v n) := rfl
  by_cases hn : n = 0
  · subst hn
    show (0 : Int) = if v ((0 : Nat) : Int) > v 0 then ((0 : Nat) : Int) else 0
    split <;> rfl
  · have h := (gr_top v n (by omega)).1
    rw [e, h]
    by_cases h1 : v n > (gr v n).1
    · rw [if_pos (Or.inr h1), if_pos h1]
    · rw [if_neg (by omega), if_neg h1]
      split <;> rfl
def cnE (v : Int → Int) (m : Int) : Nat → Int
  | 0 => 0
  | n + 1 => cnE v m n + (if v n = m then 1 else 0)
theorem cnE_no {v : Int → Int} {m : Int} : ∀ n : Nat, (∀ j : Int, 0 ≤ j → j < n → v j ≠ m) → cnE v m n = 0
  | 0, _ => rfl
  | n + 1, h => by
    show cnE v m n + (if v n = m then 1 else 0) = 0
    rw [cnE_no n fun j h0 h1 => h j h0 (by omega), if_neg (h n (by omega) (by omega))]
    rfl
theorem gr_cnt (v : Int → Int) : ∀ n : Nat, 1 ≤ n → cnE v (gr v n).1 n = (gr v n).2.1
  | 0, h => by omega
  | 1, _ => by
    show (0 : Int) + (if v ((0 : Nat) : Int) = v ((0 : Nat) : Int) then 1 else 0) = 1
    rw [if_pos rfl]
    rfl
  | n + 2, _ => by
    have ih := gr_cnt v (n + 1) (by omega)
    have ht := (gr_top v (n + 1) (by omega)).2.2.2
    have e : gr v (n + 2) = (if n + 1 = 0 ∨ v ((n + 1 : Nat) : Int) > (gr v (n + 1)).1 then (v ((n + 1 : Nat) : Int), 1, ((n + 1 : Nat) : Int)) else if v ((n + 1 : Nat) : Int) = (gr v (n + 1)).1 then ((gr v (n + 1)).1, (gr v (n + 1)).2.1 + 1, (gr v (n + 1)).2.2) else gr v (n + 1)) := rfl
    rw [e]
    by_cases h1 : n + 1 = 0 ∨ v ((n + 1 : Nat) : Int) > (gr v (n + 1)).1
    · rw [if_pos h1]
      show cnE v (v ((n + 1 : Nat) : Int)) (n + 1) + (if v ((n + 1 : Nat) : Int) = v ((n + 1 : Nat) : Int) then 1 else 0) = 1
      rw [cnE_no (n + 1) fun j h0 h2 => by have := ht j h0 h2; omega, if_pos rfl]
      rfl
    · rw [if_neg h1]
      by_cases h2 : v ((n + 1 : Nat) : Int) = (gr v (n + 1)).1
      · rw [if_pos h2]
        show cnE v (gr v (n + 1)).1 (n + 1) + (if v ((n + 1 : Nat) : Int) = (gr v (n + 1)).1 then 1 else 0) = (gr v (n + 1)).2.1 + 1
        rw [if_pos h2, ih]
      · rw [if_neg h2]
        show cnE v (gr v (n + 1)).1 (n + 1) + (if v ((n + 1 : Nat) : Int) = (gr v (n + 1)).1 then 1 else 0) = (gr v (n + 1)).2.1
        rw [if_neg h2, ih]
        omega
theorem gcd_st {x y : Int} (h0 : 0 ≤ x) (h1 : 0 < y) : Int.gcd y (x % y) = Int.gcd x y := by
  obtain ⟨a, rfl⟩ := Int.eq_ofNat_of_zero_le h0
  obtain ⟨b, rfl⟩ := Int.eq_ofNat_of_zero_le (Int.le_of_lt h1)
  show Nat.gcd b (a % b) = Nat.gcd a b
  rw [Nat.gcd_comm a b, Nat.gcd_rec b a, Nat.gcd_comm]
theorem gcd_ab {x y z : Int} (h : y = z ∨ y = -z) : Int.gcd x y = Int.gcd x z := by
  rcases h with rfl | rfl
  · rfl
  · exact Int.gcd_neg
theorem gcd_z {x : Int} (h : 0 ≤ x) : ((Int.gcd x 0 : Nat) : Int) = x := by
  rw [Int.gcd_zero_right]
  omega
theorem shr_pos (v : Int → Int) : ∀ n : Nat, 0 ≤ (shr v n).1
  | 0 => Int.le_refl _
  | n + 1 => by show (0 : Int) ≤ ((Int.gcd (shr v n).1 (v n) : Nat) : Int); omega
/-- sums of neighbours: m of them from i on -/
def sm (v : Int → Int) (i : Int) : Nat → Int
  | 0 => 0
  | m + 1 => sm v i m + v (i + m)
theorem rnn_spec (v : Int → Int) : ∀ n : Nat, 1 ≤ n →
    (rnn v n).2.1 = sm v 0 n ∧
    ((∀ m : Nat, 1 ≤ m → m ≤ n → sm v 0 m ≤ (rnn v n).2.2.1) ∧ ∃ m : Nat, 1 ≤ m ∧ m ≤ n ∧ sm v 0 m = (rnn v n).2.2.1) ∧
    ((∀ m : Nat, 1 ≤ m → m ≤ n → sm v (n - m) m ≤ (rnn v n).2.2.2) ∧ ∃ m : Nat, 1 ≤ m ∧ m ≤ n ∧ sm v (n - m) m = (rnn v n).2.2.2) ∧
    ((∀ (i m : Nat), 1 ≤ m → i + m ≤ n → sm v i m ≤ (rnn v n).1) ∧ ∃ (i m : Nat), 1 ≤ m ∧ i + m ≤ n ∧ sm v i m = (rnn v n).1)
  | 0, h => by omega
  | 1, _ => by
    have e : rnn v 1 = (v 0, 0 + v 0, v 0, v 0) := rfl
    have s1 : ∀ m : Nat, 1 ≤ m → m ≤ 1 → sm v 0 m = v 0 := fun m h0 h1 => by
      obtain rfl : m = 1 := by omega
      show (0 : Int) + v (0 + ((0 : Nat) : Int)) = v 0
      simp
    rw [e]
    refine ⟨?_, ⟨fun m h0 h1 => ?_, 1, by omega, by omega, ?_⟩, ⟨fun m h0 h1 => ?_, 1, by omega, by omega, ?_⟩, ⟨fun i m h0 h1 => ?_, 0, 1, by omega, by omega, ?_⟩⟩
    · show (0 : Int) + v 0 = 0 + v (0 + ((0 : Nat) : Int))
      simp
    · rw [s1 m h0 h1]; exact Int.le_refl _
    · exact s1 1 (by omega) (by omega)
    · obtain rfl : m = 1 := by omega
      rw [show (((1 : Nat) : Int) - ((1 : Nat) : Int)) = 0 from rfl, s1 1 (by omega) (by omega)]; exact Int.le_refl _
    · rw [show (((1 : Nat) : Int) - ((1 : Nat) : Int)) = 0 from rfl]; exact s1 1 (by omega) (by omega)
    · obtain rfl : m = 1 := by omega
      obtain rfl : i = 0 := by omega
      show sm v 0 1 ≤ v 0
      rw [s1 1 (by omega) (by omega)]; exact Int.le_refl _
    · exact s1 1 (by omega) (by omega)
  | n + 2, _ => by
    obtain ⟨a1, ⟨f1, fm, f2, f3, f4⟩, ⟨l1, lm, l2, l3, l4⟩, ⟨b1, bi, bm, b2, b3, b4⟩⟩ := rnn_spec v (n + 1) (by omega)
    have e : rnn v (n + 2) = (max (rnn v (n + 1)).1 (max ((rnn v (n + 1)).2.2.2 + v ((n + 1 : Nat) : Int)) (v ((n + 1 : Nat) : Int))), (rnn v (n + 1)).2.1 + v ((n + 1 : Nat) : Int), max (rnn v (n + 1)).2.2.1 ((rnn v (n + 1)).2.1 + v ((n + 1 : Nat) : Int)), max ((rnn v (n + 1)).2.2.2 + v ((n + 1 : Nat) : Int)) (v ((n + 1 : Nat) : Int))) := rfl
    have sl : ∀ m : Nat, m ≤ n + 1 → sm v ((n + 2 : Nat) - ((m + 1 : Nat) : Int)) (m + 1) = sm v ((n + 1 : Nat) - (m : Int)) m + v ((n + 1 : Nat) : Int) := fun m hm => by
      show sm v ((n + 2 : Nat) - ((m + 1 : Nat) : Int)) m + v ((n + 2 : Nat) - ((m + 1 : Nat) : Int) + (m : Int)) = _
      rw [show ((n + 2 : Nat) : Int) - ((m + 1 : Nat) : Int) = ((n + 1 : Nat) : Int) - (m : Int) from by omega, show ((n + 1 : Nat) : Int) - (m : Int) + (m : Int) = ((n + 1 : Nat) : Int) from by omega]
    have s0 : sm v 0 (n + 2) = sm v 0 (n + 1) + v ((n + 1 : Nat) : Int) := by
      show sm v 0 (n + 1) + v (0 + ((n + 1 : Nat) : Int)) = _
      rw [Int.zero_add]
    have last : (∀ m : Nat, 1 ≤ m → m ≤ n + 2 → sm v ((n + 2 : Nat) - (m : Int)) m ≤ max ((rnn v (n + 1)).2.2.2 + v ((n + 1 : Nat) : Int)) (v ((n + 1 : Nat) : Int))) ∧ ∃ m : Nat, 1 ≤ m ∧ m ≤ n + 2 ∧ sm v ((n + 2 : Nat) - (m : Int)) m = max ((rnn v (n + 1)).2.2.2 + v ((n + 1 : Nat) : Int)) (v ((n + 1 : Nat) : Int)) := by
      refine ⟨fun m h0 h1 => ?_, ?_⟩
      · obtain ⟨k, rfl⟩ : ∃ k, m = k + 1 := ⟨m - 1, by omega⟩
        rw [sl k (by omega)]
        by_cases hk : k = 0
        · subst hk
          show (0 : Int) + _ ≤ _
          omega
        · have := l1 k (by omega) (by omega)
          omega
      · by_cases hp : 0 ≤ (rnn v (n + 1)).2.2.2
        · refine ⟨lm + 1, by omega, by omega, ?_⟩
          rw [sl lm (by omega), l4]
          omega
        · refine ⟨1, by omega, by omega, ?_⟩
          rw [sl 0 (by omega)]
          show (0 : Int) + _ = _
          omega
    rw [e]
    refine ⟨?_, ⟨fun m h0 h1 => ?_, ?_⟩, last, ⟨fun i m h0 h1 => ?_, ?_⟩⟩
    · show (rnn v (n + 1)).2.1 + v ((n + 1 : Nat) : Int) = _
      rw [s0, a1]
    · show _ ≤ max (rnn v (n + 1)).2.2.1 ((rnn v (n + 1)).2.1 + v ((n + 1 : Nat) : Int))
      by_cases hm : m = n + 2
      · subst hm
        rw [s0, a1]
        omega
      · have := f1 m h0 (by omega)
        omega
    · show ∃ m : Nat, 1 ≤ m ∧ m ≤ n + 2 ∧ sm v 0 m = max (rnn v (n + 1)).2.2.1 ((rnn v (n + 1)).2.1 + v ((n + 1 : Nat) : Int))
      by_cases hp : (rnn v (n + 1)).2.2.1 ≥ (rnn v (n + 1)).2.1 + v ((n + 1 : Nat) : Int)
      · exact ⟨fm, by omega, by omega, by omega⟩
      · refine ⟨n + 2, by omega, by omega, ?_⟩
        rw [s0, a1]
        omega
    · show sm v i m ≤ max (rnn v (n + 1)).1 (max ((rnn v (n + 1)).2.2.2 + v ((n + 1 : Nat) : Int)) (v ((n + 1 : Nat) : Int)))
      by_cases hm : i + m = n + 2
      · have := last.1 m h0 (by omega)
        rw [show ((n + 2 : Nat) : Int) - (m : Int) = (i : Int) from by omega] at this
        omega
      · have := b1 i m h0 (by omega)
        omega
    · show ∃ (i m : Nat), 1 ≤ m ∧ i + m ≤ n + 2 ∧ sm v i m = max (rnn v (n + 1)).1 (max ((rnn v (n + 1)).2.2.2 + v ((n + 1 : Nat) : Int)) (v ((n + 1 : Nat) : Int)))
      by_cases hp : (rnn v (n + 1)).1 ≥ max ((rnn v (n + 1)).2.2.2 + v ((n + 1 : Nat) : Int)) (v ((n + 1 : Nat) : Int))
      · exact ⟨bi, bm, by omega, by omega, by omega⟩
      · obtain ⟨m, m1, m2, m3⟩ := last.2
        refine ⟨n + 2 - m, m, m1, by omega, ?_⟩
        rw [show ((n + 2 - m : Nat) : Int) = ((n + 2 : Nat) : Int) - (m : Int) from by omega, m3]
        omega
/-- a row of like values that begins at i, t of them gone by -/
theorem lke_run (v : Int → Int) (i : Nat) (hb : i = 0 ∨ v i ≠ v (i - 1)) : ∀ t : Nat, 1 ≤ t → (∀ j : Nat, j < t → v (i + j) = v i) →
    lke v (i + t) = (max (lke v i).1 t, if (t : Int) > (lke v i).1 then v i else (lke v i).2.1, (lke v i).2.2.1 + 1, if (lke v i).2.2.1 + 1 = 1 then (t : Int) else (lke v i).2.2.2.1, (t : Int))
  | 0, h, _ => by omega
  | 1, _, _ => by
    have hs : (decide (0 < i) && decide (v i = v (i - 1))) = false := by
      rcases hb with rfl | h
      · rfl
      · simp [h]
    have e : lke v (i + 1) = (let s := lke v i; let same : Bool := decide (0 < i) && decide (v i = v (i - 1)); let l := if same then s.2.2.2.2 + 1 else 1; let r := if same then s.2.2.1 else s.2.2.1 + 1; (if l > s.1 then l else s.1, if l > s.1 then v i else s.2.1, r, if r = 1 then l else s.2.2.2.1, l)) := rfl
    rw [e]
    simp only [hs]
    show ((if (1 : Int) > (lke v i).1 then (1 : Int) else (lke v i).1), (if (1 : Int) > (lke v i).1 then v i else (lke v i).2.1), (lke v i).2.2.1 + 1, (if (lke v i).2.2.1 + 1 = 1 then (1 : Int) else (lke v i).2.2.2.1), (1 : Int)) = (max (lke v i).1 1, (if (1 : Int) > (lke v i).1 then v i else (lke v i).2.1), (lke v i).2.2.1 + 1, (if (lke v i).2.2.1 + 1 = 1 then (1 : Int) else (lke v i).2.2.2.1), (1 : Int))
    have : (if (1 : Int) > (lke v i).1 then (1 : Int) else (lke v i).1) = max (lke v i).1 1 := by split <;> omega
    rw [this]
  | t + 2, _, hv => by
    have ih := lke_run v i hb (t + 1) (by omega) fun j hj => hv j (by omega)
    have hs : (decide (0 < i + (t + 1)) && decide (v ((i + (t + 1) : Nat) : Int) = v (((i + (t + 1) : Nat) : Int) - 1))) = true := by
      have q1 := hv (t + 1) (by omega)
      have q2 := hv t (by omega)
      rw [show ((i + (t + 1) : Nat) : Int) = (i : Int) + ((t + 1 : Nat) : Int) from by omega, q1, show (i : Int) + ((t + 1 : Nat) : Int) - 1 = (i : Int) + (t : Int) from by omega, q2]
      simp only [decide_true, Bool.and_true]
      exact decide_eq_true (by omega)
    have hw : v ((i + (t + 1) : Nat) : Int) = v i := by
      have q1 := hv (t + 1) (by omega)
      rw [show ((i + (t + 1) : Nat) : Int) = (i : Int) + ((t + 1 : Nat) : Int) from by omega, q1]
    have e : lke v (i + (t + 1) + 1) = (let s := lke v (i + (t + 1)); let same : Bool := decide (0 < i + (t + 1)) && decide (v ((i + (t + 1) : Nat) : Int) = v (((i + (t + 1) : Nat) : Int) - 1)); let l := if same then s.2.2.2.2 + 1 else 1; let r := if same then s.2.2.1 else s.2.2.1 + 1; (if l > s.1 then l else s.1, if l > s.1 then v ((i + (t + 1) : Nat) : Int) else s.2.1, r, if r = 1 then l else s.2.2.2.1, l)) := rfl
    rw [show i + (t + 2) = i + (t + 1) + 1 from rfl, e, ih]
    simp only [hs]
    simp only [hw, if_true]
    have c1 : ((t + 1 : Nat) : Int) + 1 = ((t + 2 : Nat) : Int) := by omega
    rw [c1]
    refine Prod.ext ?_ (Prod.ext ?_ (Prod.ext rfl (Prod.ext ?_ rfl)))
    · show (if ((t + 2 : Nat) : Int) > max (lke v i).1 ((t + 1 : Nat) : Int) then ((t + 2 : Nat) : Int) else max (lke v i).1 ((t + 1 : Nat) : Int)) = max (lke v i).1 ((t + 2 : Nat) : Int)
      split <;> omega
    · show (if ((t + 2 : Nat) : Int) > max (lke v i).1 ((t + 1 : Nat) : Int) then v i else (if ((t + 1 : Nat) : Int) > (lke v i).1 then v i else (lke v i).2.1)) = (if ((t + 2 : Nat) : Int) > (lke v i).1 then v i else (lke v i).2.1)
      by_cases h1 : ((t + 2 : Nat) : Int) > (lke v i).1
      · rw [if_pos h1]
        by_cases h2 : ((t + 2 : Nat) : Int) > max (lke v i).1 ((t + 1 : Nat) : Int)
        · rw [if_pos h2]
        · omega
      · rw [if_neg h1, if_neg (by omega), if_neg (by omega)]
    · show (if (lke v i).2.2.1 + 1 = 1 then ((t + 2 : Nat) : Int) else (if (lke v i).2.2.1 + 1 = 1 then ((t + 1 : Nat) : Int) else (lke v i).2.2.2.1)) = _
      by_cases h : (lke v i).2.2.1 + 1 = 1
      · rw [if_pos h, if_pos h]
      · rw [if_neg h, if_neg h, if_neg h]
