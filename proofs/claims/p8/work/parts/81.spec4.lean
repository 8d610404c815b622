-- B: WATCHES told, TABLE and LETTERS
abbrev lwC (V : Mm) (l w : Int) : Prop := opV V l ∧ 0 ≤ w ∧ w < numF (V 7 l 2)
abbrev wtC (V : Mm) (v l w : Int) : Prop := lwC V l w ∧ 0 ≤ v ∧ v ≤ 7
def rc1 (V : Mm) (l w b : Int) : Int := if nmV V l w ≠ NO ∧ b ≤ nmV V l w then 1 else 0
def wtM (V : Mm) (v l w b : Int) : Mm := if wtC V v l w then mu (mu (mu (mu (mu (mu V 12 v 0 l) 12 v 1 w) 12 v 2 b) 12 v 3 (rc1 V l w b)) 12 v 4 0) 12 v 5 (-1) else V
def wtR (V : Mm) (v l w b : Int) : Int := if wtC V v l w then rc1 V l w b else -1
theorem rc1_01 (V : Mm) (l w b : Int) : rc1 V l w b = 0 ∨ rc1 V l w b = 1 := by
  unfold rc1
  split
  · exact Or.inr rfl
  · exact Or.inl rfl
theorem nmV_c {V W : Mm} {l w : Int} (h16 : W 16 = V 16) (h15 : W 15 = V 15) (h7 : W 7 = V 7) (h9 : W 9 = V 9) : nmV W l w = nmV V l w := by
  unfold nmV
  rw [h16, h15, h7, h9]
