-- B: what is asked of all together
def htN (V : Mm) : Nat → Int
  | 0 => 0
  | n + 1 => if V 7 n 1 = 1 then htN V n + V 7 n 6 else htN V n
def spN (V : Mm) : Nat → Int
  | 0 => 0
  | n + 1 => if V 7 n 1 = 1 then wr (spN V n + V 11 n 5) else spN V n
def wcN (V : Mm) : Nat → Int
  | 0 => 0
  | n + 1 => if V 12 n 0 ≠ -1 then wcN V n + 1 else wcN V n
def bxN (V : Mm) : Nat → Int
  | 0 => 0
  | n + 1 => if V 7 (n + 4) 1 = 1 then bxN V n + 1 else bxN V n
def rgN (V : Mm) : Nat → Int
  | 0 => 0
  | n + 1 => if V 12 n 0 ≠ -1 then wr (rgN V n + V 12 n 4) else rgN V n
def lnN (V : Mm) : Nat → Int
  | 0 => 0
  | n + 1 => if V 13 n 0 ≠ -1 then lnN V n + 1 else lnN V n
def abR (V : Mm) (w : Int) : Int := if w = 0 then cntO V else if w = 1 then htN V 4 else if w = 2 then spN V 4 else if w = 3 then wcN V 8 else if w = 4 then bxN V 3 else if w = 5 then rgN V 8 else if w = 6 then lnN V 4 else -1
theorem htN_I {V : Mm} {i : Int} (h : 0 ≤ i) : htN V (i + 1).toNat = (if V 7 i 1 = 1 then htN V i.toNat + V 7 i 6 else htN V i.toNat) := by
  obtain ⟨n, rfl⟩ := Int.eq_ofNat_of_zero_le h
  rw [show ((n : Int) + 1).toNat = n + 1 from by omega, Int.toNat_natCast]
  rfl
theorem spN_I {V : Mm} {i : Int} (h : 0 ≤ i) : spN V (i + 1).toNat = (if V 7 i 1 = 1 then wr (spN V i.toNat + V 11 i 5) else spN V i.toNat) := by
  obtain ⟨n, rfl⟩ := Int.eq_ofNat_of_zero_le h
  rw [show ((n : Int) + 1).toNat = n + 1 from by omega, Int.toNat_natCast]
  rfl
theorem wcN_I {V : Mm} {i : Int} (h : 0 ≤ i) : wcN V (i + 1).toNat = (if V 12 i 0 ≠ -1 then wcN V i.toNat + 1 else wcN V i.toNat) := by
  obtain ⟨n, rfl⟩ := Int.eq_ofNat_of_zero_le h
  rw [show ((n : Int) + 1).toNat = n + 1 from by omega, Int.toNat_natCast]
  rfl
theorem bxN_I {V : Mm} {i : Int} (h : 0 ≤ i) : bxN V (i + 1).toNat = (if V 7 (i + 4) 1 = 1 then bxN V i.toNat + 1 else bxN V i.toNat) := by
  obtain ⟨n, rfl⟩ := Int.eq_ofNat_of_zero_le h
  rw [show ((n : Int) + 1).toNat = n + 1 from by omega, Int.toNat_natCast]
  rfl
theorem rgN_I {V : Mm} {i : Int} (h : 0 ≤ i) : rgN V (i + 1).toNat = (if V 12 i 0 ≠ -1 then wr (rgN V i.toNat + V 12 i 4) else rgN V i.toNat) := by
  obtain ⟨n, rfl⟩ := Int.eq_ofNat_of_zero_le h
  rw [show ((n : Int) + 1).toNat = n + 1 from by omega, Int.toNat_natCast]
  rfl
theorem lnN_I {V : Mm} {i : Int} (h : 0 ≤ i) : lnN V (i + 1).toNat = (if V 13 i 0 ≠ -1 then lnN V i.toNat + 1 else lnN V i.toNat) := by
  obtain ⟨n, rfl⟩ := Int.eq_ofNat_of_zero_le h
  rw [show ((n : Int) + 1).toNat = n + 1 from by omega, Int.toNat_natCast]
  rfl
