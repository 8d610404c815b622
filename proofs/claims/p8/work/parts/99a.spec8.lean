-- B: ties ended as the reference ends them
def etC (V : Mm) (l n : Int) : Mm := fun c x y => if c = 13 ∧ (0 ≤ x ∧ x ≤ 3) ∧ y = 0 ∧ (x = l ∨ (x < n ∧ V 13 x 0 = l)) then -1 else V c x y
theorem etC_0 {V : Mm} {l : Int} (h0 : 0 ≤ l) (h1 : l ≤ 3) : mu V 13 l 0 (-1) = etC V l 0 := by
  funext c x y
  by_cases e : c = 13 ∧ x = l ∧ y = 0
  · obtain ⟨rfl, rfl, rfl⟩ := e
    rw [mu_self]
    exact (if_pos ⟨rfl, ⟨h0, h1⟩, rfl, Or.inl rfl⟩).symm
  · rw [mu_ne e]
    exact (if_neg (by omega)).symm
theorem etC_4 {V : Mm} {l : Int} : etC V l 4 = etB V l 4 := by
  funext c x y
  unfold etC etB
  by_cases e : c = 13 ∧ (0 ≤ x ∧ x ≤ 3) ∧ y = 0 ∧ (x = l ∨ (x < 4 ∧ V 13 x 0 = l))
  · rw [if_pos e, if_pos (by omega)]
  · rw [if_neg e, if_neg (by omega)]
theorem etC_no {V : Mm} {l n : Int} (h : etC V l n 13 n 0 ≠ l) : etC V l (n + 1) = etC V l n := by
  funext c x y
  unfold etC
  by_cases e : c = 13 ∧ (0 ≤ x ∧ x ≤ 3) ∧ y = 0 ∧ (x = l ∨ (x < n ∧ V 13 x 0 = l))
  · rw [if_pos e, if_pos (by omega)]
  · rw [if_neg e, if_neg ?_]
    rintro ⟨rfl, a, rfl, b⟩
    rcases b with b | b
    · exact e ⟨rfl, a, rfl, Or.inl b⟩
    · by_cases ex : x = n
      · subst ex
        refine h ?_
        unfold etC
        rw [if_neg (by omega)]
        exact b.2
      · exact e ⟨rfl, a, rfl, Or.inr ⟨by omega, b.2⟩⟩
theorem etC_yes {V : Mm} {l n : Int} (h0 : 0 ≤ n) (h3 : n ≤ 3) (hl : l ≠ -1) (h : etC V l n 13 n 0 = l) : mu (etC V l n) 13 n 0 (-1) = etC V l (n + 1) := by
  have hn : ¬ (n = l ∨ (n < n ∧ V 13 n 0 = l)) := fun q => by
    have : etC V l n 13 n 0 = -1 := if_pos ⟨rfl, ⟨h0, h3⟩, rfl, q⟩
    omega
  have hv : V 13 n 0 = l := by
    have e : etC V l n 13 n 0 = V 13 n 0 := if_neg (fun q => hn q.2.2.2)
    omega
  funext c x y
  by_cases e : c = 13 ∧ x = n ∧ y = 0
  · obtain ⟨rfl, rfl, rfl⟩ := e
    rw [mu_self]
    exact (if_pos ⟨rfl, ⟨h0, h3⟩, rfl, Or.inr ⟨by omega, hv⟩⟩).symm
  · rw [mu_ne e]
    unfold etC
    by_cases q : c = 13 ∧ (0 ≤ x ∧ x ≤ 3) ∧ y = 0 ∧ (x = l ∨ (x < n ∧ V 13 x 0 = l))
    · rw [if_pos q, if_pos (by omega)]
    · rw [if_neg q, if_neg (by omega)]
