-- steps told with ints, for the reference's loops
theorem nat_succ {i : Int} (h : 0 ≤ i) : (i + 1).toNat = i.toNat + 1 := by omega
theorem gr_stepI {v : Int → Int} {i : Int} (h : 0 ≤ i) : (gr v (i + 1).toNat).2.2 = if v i > v (gr v i.toNat).2.2 then i else (gr v i.toNat).2.2 := by
  rw [nat_succ h, gr_step, Int.toNat_of_nonneg h]
theorem cnE_stepI {v : Int → Int} {m i : Int} (h : 0 ≤ i) : cnE v m (i + 1).toNat = cnE v m i.toNat + (if v i = m then 1 else 0) := by
  rw [nat_succ h]
  show cnE v m i.toNat + (if v (i.toNat : Int) = m then 1 else 0) = _
  rw [Int.toNat_of_nonneg h]
theorem shr_stepI {v : Int → Int} {i : Int} (h : 0 ≤ i) : shr v (i + 1).toNat = ((Int.gcd (shr v i.toNat).1 (v i) : Int), (shr v i.toNat).2 + (if v i = 0 then 0 else 1)) := by
  rw [nat_succ h]
  show ((Int.gcd (shr v i.toNat).1 (v (i.toNat : Int)) : Int), (shr v i.toNat).2 + (if v (i.toNat : Int) = 0 then 0 else 1)) = _
  rw [Int.toNat_of_nonneg h]
theorem lin_stepI {v : Int → Int} {i : Int} (h : 0 ≤ i) : lin v (i + 1).toNat = ((v i % 997) * (lin v i.toNat).1 % 997, ((v i % 997) * (lin v i.toNat).2 + (7 * v i + 1) % 997) % 997) := by
  rw [nat_succ h]
  show ((v (i.toNat : Int) % 997) * (lin v i.toNat).1 % 997, ((v (i.toNat : Int) % 997) * (lin v i.toNat).2 + (7 * v (i.toNat : Int) + 1) % 997) % 997) = _
  rw [Int.toNat_of_nonneg h]
theorem ltr_stepI {tl v : Int → Int} {s i : Int} (h : 0 ≤ i) : ltr tl v s (i + 1).toNat = lnx tl (v i) (ltr tl v s i.toNat) := by
  rw [nat_succ h]
  show lnx tl (v (i.toNat : Int)) (ltr tl v s i.toNat) = _
  rw [Int.toNat_of_nonneg h]
theorem nst_stepI {v : Int → Int} {i : Int} (h : 0 ≤ i) : nst v (i + 1).toNat = (let s := nst v i.toNat; let t := if 0 ≤ v i then (s.1, s.2.1 + 1, s.2.2.1) else if 0 < s.2.1 then (s.1, s.2.1 - 1, s.2.2.1 + 1) else (s.1 + 1, s.2.1, s.2.2.1); (t.1, t.2.1, t.2.2, max s.2.2.2 (t.2.1 - t.1))) := by
  rw [nat_succ h]
  show (let s := nst v i.toNat; let t := if 0 ≤ v (i.toNat : Int) then (s.1, s.2.1 + 1, s.2.2.1) else if 0 < s.2.1 then (s.1, s.2.1 - 1, s.2.2.1 + 1) else (s.1 + 1, s.2.1, s.2.2.1); (t.1, t.2.1, t.2.2, max s.2.2.2 (t.2.1 - t.1))) = _
  rw [Int.toNat_of_nonneg h]
theorem spr_stepI {v : Int → Int} {i : Int} (h : 0 ≤ i) : spr v (i + 1).toNat = (if 0 < v i ∧ ((spr v i.toNat).1 = NO ∨ v i < (spr v i.toNat).1) then v i else (spr v i.toNat).1, if v i < 0 ∧ (spr v i.toNat).2.1 < v i then v i else (spr v i.toNat).2.1, (spr v i.toNat).2.2 + (if v i = 0 then 1 else 0)) := by
  rw [nat_succ h]
  show (if 0 < v (i.toNat : Int) ∧ ((spr v i.toNat).1 = NO ∨ v (i.toNat : Int) < (spr v i.toNat).1) then v (i.toNat : Int) else (spr v i.toNat).1, if v (i.toNat : Int) < 0 ∧ (spr v i.toNat).2.1 < v (i.toNat : Int) then v (i.toNat : Int) else (spr v i.toNat).2.1, (spr v i.toNat).2.2 + (if v (i.toNat : Int) = 0 then 1 else 0)) = _
  rw [Int.toNat_of_nonneg h]
theorem tbl_stepI {tc v : Int → Int} {i : Int} (h : 1 ≤ i) : tbl tc v (i + 1).toNat = tc (4 * tbl tc v i.toNat + v i % 4) := by
  rw [nat_succ (by omega)]
  show (if i.toNat = 0 then v 0 % 4 else tc (4 * tbl tc v i.toNat + v (i.toNat : Int) % 4)) = _
  rw [if_neg (by omega), Int.toNat_of_nonneg (by omega)]
theorem stp_stepI {v : Int → Int} {i : Int} (h : 1 ≤ i) : stp v (i + 1).toNat = ((stp v i.toNat).1 + (if v i < v (i - 1) then 1 else 0), (stp v i.toNat).2.1 + (if v i > v (i - 1) then 1 else 0), max (stp v i.toNat).2.2.1 (if v i < v (i - 1) then 1 else (stp v i.toNat).2.2.2 + 1), if v i < v (i - 1) then 1 else (stp v i.toNat).2.2.2 + 1) := by
  rw [nat_succ (by omega)]
  show (let s := stp v i.toNat; let f : Bool := decide (0 < i.toNat) && decide (v (i.toNat : Int) < v ((i.toNat : Int) - 1)); let c : Bool := decide (0 < i.toNat) && decide (v (i.toNat : Int) > v ((i.toNat : Int) - 1)); let r := if f then 1 else s.2.2.2 + 1; (s.1 + (if f then 1 else 0), s.2.1 + (if c then 1 else 0), max s.2.2.1 r, r)) = _
  rw [Int.toNat_of_nonneg (by omega)]
  have h0 : decide (0 < i.toNat) = true := decide_eq_true (by omega)
  simp only [h0, Bool.true_and, decide_eq_true_eq]
