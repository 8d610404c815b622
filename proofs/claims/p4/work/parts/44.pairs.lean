-- each pair of calls that write keeps what ties both sides, and answers alike
theorem used_iff {S0 : Int → Int → Int} {σ : Mm} (h : Rw S0 σ) (v : Int) : (∃ i : Int, 0 ≤ i ∧ i ≤ 6 ∧ σ 7 i 1 = 1 ∧ σ 7 i 2 = v) ↔ (∃ i : Int, 0 ≤ i ∧ i ≤ 6 ∧ σ 31 0 (22 * i + 0) = 1 ∧ σ 31 0 (22 * i + 1) = v) := by
  constructor
  · rintro ⟨i, h0, h6, p, q⟩
    have := h.2.2.1 i h0 h6
    exact ⟨i, h0, h6, by omega, by omega⟩
  · rintro ⟨i, h0, h6, p, q⟩
    have := h.2.2.1 i h0 h6
    exact ⟨i, h0, h6, by omega, by omega⟩
theorem rw_table {S0 : Int → Int → Int} {σ ρ1 ρ2 : Mm} {x y r1 r2 : Int} (h : Rw S0 σ) (a : OTa σ x y r1 ρ1) (b : OTb ρ1 x y r2 ρ2) : Rw S0 ρ2 ∧ r1 = r2 := by
  have hu := used_iff h 9
  rcases a with ⟨⟨a1, a2⟩, a3, a4, rfl⟩ | ⟨a1, rfl, rfl⟩
  · have e31 : ∀ j : Int, ρ1 31 0 j = σ 31 0 j := fun j => a3 31 0 j (by omega)
    rcases b with ⟨⟨b1, b2⟩, b3, b4, rfl⟩ | ⟨b1, rfl, rfl⟩
    · refine ⟨⟨fun i j => ?_, fun i h0 h3 => ?_, fun i h0 h6 => ?_, fun i h4 h6 ho => ?_, fun i h0 h3 => ?_, fun j h0 h1 => ?_⟩, rfl⟩
      · rw [b3 0 i j (by omega), a3 0 i j (by omega)]; exact h.1 i j
      · rw [b3 7 i 0 (by omega), a3 7 i 0 (by omega)]; exact h.2.1 i h0 h3
      · rw [b3 7 i 1 (by omega), a3 7 i 1 (by omega), b3 7 i 2 (by omega), a3 7 i 2 (by omega), b3 31 0 _ (by omega), b3 31 0 _ (by omega), e31, e31]; exact h.2.2.1 i h0 h6
      · rw [b3 7 i 1 (by omega), a3 7 i 1 (by omega)] at ho
        rw [b3 7 i 0 (by omega), a3 7 i 0 (by omega), b3 31 0 _ (by omega), e31]; exact h.2.2.2.1 i h4 h6 ho
      · rw [b3 13 i 0 (by omega), a3 13 i 0 (by omega), b3 45 0 i (by omega), a3 45 0 i (by omega), b3 7 i 1 (by omega), a3 7 i 1 (by omega)]; exact h.2.2.2.2.1 i h0 h3
      · have hc := h.2.2.2.2.2 j h0 h1
        have z1 := b3 15 0 j (by omega)
        by_cases hj : j = x
        · subst hj
          omega
        · have z2 := a3 15 0 j (by omega)
          have z3 := b3 35 0 j (by omega)
          have z4 := a3 35 0 j (by omega)
          omega
    · exfalso
      refine b1 ⟨a1, fun q => a2 (hu.mpr ?_)⟩
      obtain ⟨i, h0, h6, p, q⟩ := q
      rw [e31] at p q
      exact ⟨i, h0, h6, p, q⟩
  · rcases b with ⟨⟨b1, b2⟩, b3, b4, rfl⟩ | ⟨b1, rfl, rfl⟩
    · exact absurd ⟨b1, fun q => b2 (hu.mp q)⟩ a1
    · exact ⟨h, rfl⟩
theorem rw_link {S0 : Int → Int → Int} {σ ρ1 ρ2 : Mm} {l o z w r1 r2 : Int} (h : Rw S0 σ) (a : OLa σ l o z w r1 ρ1) (b : OLb ρ1 l o z w r2 ρ2) : Rw S0 ρ2 ∧ r1 = r2 := by
  have hk := h.2.2.2.2.1
  have hl := h.2.2.1
  rcases a with ⟨⟨a1, a2⟩, a3, a4, rfl⟩ | ⟨a1, rfl, rfl⟩
  · obtain ⟨p1, p2, p3, p4, p5, p6, p7, p8, p9, p10, p11, p12⟩ := a1
    have e31 : ∀ j : Int, ρ1 31 0 j = σ 31 0 j := fun j => a3 31 0 j (by omega)
    have e45 : ∀ j : Int, ρ1 45 0 j = σ 45 0 j := fun j => a3 45 0 j (by omega)
    rcases b with ⟨⟨b1, b2⟩, b3, b4, rfl⟩ | ⟨b1, rfl, rfl⟩
    · refine ⟨⟨fun i j => ?_, fun i h0 h3 => ?_, fun i h0 h6 => ?_, fun i h4 h6 ho => ?_, fun i h0 h3 => ?_, fun j h0 h1 => ?_⟩, rfl⟩
      · rw [b3 0 i j (by omega), a3 0 i j (by omega)]; exact h.1 i j
      · rw [b3 7 i 0 (by omega), a3 7 i 0 (by omega)]; exact h.2.1 i h0 h3
      · rw [b3 7 i 1 (by omega), a3 7 i 1 (by omega), b3 7 i 2 (by omega), a3 7 i 2 (by omega), b3 31 0 _ (by omega), b3 31 0 _ (by omega), e31, e31]; exact hl i h0 h6
      · rw [b3 7 i 1 (by omega), a3 7 i 1 (by omega)] at ho
        rw [b3 7 i 0 (by omega), a3 7 i 0 (by omega), b3 31 0 _ (by omega), e31]; exact h.2.2.2.1 i h4 h6 ho
      · have z1 := b3 13 i 0 (by omega)
        have z2 := b3 7 i 1 (by omega)
        have z3 := a3 7 i 1 (by omega)
        by_cases hi : i = l
        · subst hi
          omega
        · have z4 := a3 13 i 0 (by omega)
          have z5 := b3 45 0 i (by omega)
          have z6 := e45 i
          have := hk i h0 h3
          omega
      · rw [b3 15 0 j (by omega), a3 15 0 j (by omega), b3 35 0 j (by omega), a3 35 0 j (by omega)]; exact h.2.2.2.2.2 j h0 h1
    · exfalso
      have q1 := hl l (by omega) (by omega)
      have q2 := hl o (by omega) (by omega)
      have q3 := hk o (by omega) (by omega)
      rw [q1.2.1] at p5
      refine b1 ⟨⟨p1, p2, by rw [e31]; omega, p4, by rw [e31]; exact p5, p6, p7, by rw [e31]; omega, p9, p10, p11, by rw [e45]; omega⟩, fun q => a2 ?_⟩
      obtain ⟨i, h0, h3, q⟩ := q
      rw [e45] at q
      have := hk i h0 h3
      exact ⟨i, h0, h3, by omega⟩
  · rcases b with ⟨⟨b1, b2⟩, b3, b4, rfl⟩ | ⟨b1, rfl, rfl⟩
    · exfalso
      obtain ⟨p1, p2, p3, p4, p5, p6, p7, p8, p9, p10, p11, p12⟩ := b1
      have q1 := hl l (by omega) (by omega)
      have q2 := hl o (by omega) (by omega)
      have q3 := hk o (by omega) (by omega)
      rw [← q1.2.1] at p5
      refine a1 ⟨⟨p1, p2, by omega, p4, p5, p6, p7, by omega, p9, p10, p11, by omega⟩, fun q => b2 ?_⟩
      obtain ⟨i, h0, h3, q⟩ := q
      have := hk i h0 h3
      exact ⟨i, h0, h3, by omega⟩
    · exact ⟨h, rfl⟩
theorem rw_unlink {S0 : Int → Int → Int} {σ ρ1 ρ2 : Mm} {l r1 r2 : Int} (h : Rw S0 σ) (a : OUa σ l r1 ρ1) (b : OUb ρ1 l r2 ρ2) : Rw S0 ρ2 ∧ r1 = r2 := by
  have hk := h.2.2.2.2.1
  have hl := h.2.2.1
  rcases a with ⟨a1, a3, a4, rfl⟩ | ⟨a1, rfl, rfl⟩
  · have e31 : ∀ j : Int, ρ1 31 0 j = σ 31 0 j := fun j => a3 31 0 j (by omega)
    have e45 : ∀ j : Int, ρ1 45 0 j = σ 45 0 j := fun j => a3 45 0 j (by omega)
    rcases b with ⟨b1, b3, b4, rfl⟩ | ⟨b1, rfl, rfl⟩
    · refine ⟨⟨fun i j => ?_, fun i h0 h3 => ?_, fun i h0 h6 => ?_, fun i h4 h6 ho => ?_, fun i h0 h3 => ?_, fun j h0 h1 => ?_⟩, rfl⟩
      · rw [b3 0 i j (by omega), a3 0 i j (by omega)]; exact h.1 i j
      · rw [b3 7 i 0 (by omega), a3 7 i 0 (by omega)]; exact h.2.1 i h0 h3
      · rw [b3 7 i 1 (by omega), a3 7 i 1 (by omega), b3 7 i 2 (by omega), a3 7 i 2 (by omega), b3 31 0 _ (by omega), b3 31 0 _ (by omega), e31, e31]; exact hl i h0 h6
      · rw [b3 7 i 1 (by omega), a3 7 i 1 (by omega)] at ho
        rw [b3 7 i 0 (by omega), a3 7 i 0 (by omega), b3 31 0 _ (by omega), e31]; exact h.2.2.2.1 i h4 h6 ho
      · have z1 := b3 13 i 0 (by omega)
        have z2 := b3 7 i 1 (by omega)
        have z3 := a3 7 i 1 (by omega)
        by_cases hi : i = l
        · subst hi
          omega
        · have z4 := a3 13 i 0 (by omega)
          have z5 := b3 45 0 i (by omega)
          have z6 := e45 i
          have := hk i h0 h3
          omega
      · rw [b3 15 0 j (by omega), a3 15 0 j (by omega), b3 35 0 j (by omega), a3 35 0 j (by omega)]; exact h.2.2.2.2.2 j h0 h1
    · exfalso
      have q1 := hl l (by omega) (by omega)
      have q3 := hk l (by omega) (by omega)
      have q4 := q3.2.2.2.2 a1.2.2
      exact b1 ⟨a1.1, a1.2.1, by rw [e31]; omega, by rw [e45]; omega⟩
  · rcases b with ⟨b1, b3, b4, rfl⟩ | ⟨b1, rfl, rfl⟩
    · exfalso
      have q3 := hk l (by omega) (by omega)
      omega
    · exact ⟨h, rfl⟩
theorem rw_open {S0 : Int → Int → Int} {σ ρ1 ρ2 : Mm} {l o b z y r1 r2 : Int} (h : Rw S0 σ) (a : OOa σ l o b z y r1 ρ1) (c : OOb ρ1 l o b z y r2 ρ2) : Rw S0 ρ2 ∧ r1 = r2 := by
  have hk := h.2.2.2.2.1
  have hl := h.2.2.1
  have hc := h.2.2.2.2.2
  have key : trpF 15 σ 3 = 64 ↔ fstA 35 σ (64 : Int).toNat < 0 := by
    have e1 : trpF 15 σ 3 = cntA 15 σ (64 : Int).toNat := if_pos rfl
    have e2 := cnt_eq (k := 15) (k2 := 35) (σ := σ) (ρ := σ) (fun j h0 h1 => (hc j h0 h1).1) (fun j h0 h1 => (hc j h0 h1).2) (64 : Int).toNat (by decide)
    have e3 := cnt_fst 35 σ (64 : Int).toNat
    have e4 : ((64 : Int).toNat : Int) = 64 := by decide
    rw [e1, e2.1]
    rw [e4] at e3
    omega
  rcases a with ⟨a1, a3, a4, a5, a6, rfl⟩ | ⟨a1, rfl, rfl⟩
  · have e35 : fstA 35 ρ1 (64 : Int).toNat = fstA 35 σ (64 : Int).toNat := (cnt_c (fun j => a3 35 0 j trivial (by omega)) _).2
    have e45 : ∀ j : Int, ρ1 45 0 j = σ 45 0 j := fun j => a3 45 0 j trivial (by omega)
    have hc7 : ∀ (i j : Int), j = 0 ∨ j = 1 ∨ j = 2 → ¬ (i = l ∧ (j = 1 ∨ j = 2)) → ρ1 7 i j = σ 7 i j := fun i j hj q => a3 7 i j hj (by omega)
    have hc31 : ∀ j : Int, Tb 31 j → ρ1 31 0 j = σ 31 0 j := fun j hj => a3 31 0 j hj (by omega)
    rcases c with ⟨b1, b3, b4, b5, b6, rfl⟩ | ⟨b1, rfl, rfl⟩
    · have hd7 : ∀ (i j : Int), j = 0 ∨ j = 1 ∨ j = 2 → ρ2 7 i j = ρ1 7 i j := fun i j hj => b3 7 i j hj (by omega)
      have T31 : ∀ i f : Int, 0 ≤ i → i ≤ 6 → f = 0 ∨ f = 1 ∨ f = 21 → Tb 31 (22 * i + f) := fun i f h0 h6 hf => by simp only [Tb]; omega
      have hd31 : ∀ i f : Int, 0 ≤ i → i ≤ 6 → f = 0 ∨ f = 1 ∨ f = 21 → i ≠ l → ρ2 31 0 (22 * i + f) = σ 31 0 (22 * i + f) := fun i f h0 h6 hf hi => (b3 31 0 _ (T31 i f h0 h6 hf) (by omega)).trans (hc31 _ (T31 i f h0 h6 hf))
      have L2 : ∀ i : Int, 0 ≤ i → i ≤ 6 → ρ2 7 i 1 = ρ2 31 0 (22 * i + 0) ∧ ρ2 7 i 2 = ρ2 31 0 (22 * i + 1) ∧ 0 ≤ ρ2 7 i 2 ∧ ρ2 7 i 2 ≤ 9 ∧ 0 ≤ ρ2 7 i 1 ∧ ρ2 7 i 1 ≤ 1 := fun i h0 h6 => by
        have z1 := hd7 i 1 (by omega)
        have z2 := hd7 i 2 (by omega)
        by_cases hi : i = l
        · subst hi
          omega
        · have z3 := hc7 i 1 (by omega) (by omega)
          have z4 := hc7 i 2 (by omega) (by omega)
          have z5 := hd31 i 0 h0 h6 (by omega) hi
          have z6 := hd31 i 1 h0 h6 (by omega) hi
          have := hl i h0 h6
          omega
      refine ⟨⟨fun i j => ?_, fun i h0 h3 => ?_, L2, fun i h4 h6 ho => ?_, fun i h0 h3 => ?_, fun j h0 h1 => ?_⟩, ?_⟩
      · rw [b3 0 i j trivial (by omega), a3 0 i j trivial (by omega)]; exact h.1 i j
      · rw [hd7 i 0 (by omega), hc7 i 0 (by omega) (by omega)]; exact h.2.1 i h0 h3
      · have hil : i ≠ l := by omega
        rw [hd7 i 1 (by omega), hc7 i 1 (by omega) (by omega)] at ho
        rw [hd7 i 0 (by omega), hc7 i 0 (by omega) (by omega), hd31 i 21 (by omega) h6 (by omega) hil]
        exact h.2.2.2.1 i h4 h6 ho
      · have z1 := b3 13 i 0 rfl (by omega)
        have z2 := a6 i h0 h3
        have z3 := b6 i h0 h3
        rw [e45] at z3
        have z4 := hk i h0 h3
        rw [← z4.1] at z3
        have z5 := hd7 i 1 (by omega)
        by_cases hi : i = l ∨ σ 13 i 0 = l
        · rw [if_pos hi] at z2 z3
          omega
        · rw [if_neg hi] at z2 z3
          have z6 := hc7 i 1 (by omega) (by omega)
          omega
      · rw [b3 15 0 j trivial (by omega), a3 15 0 j trivial (by omega), b3 35 0 j trivial (by omega), a3 35 0 j trivial (by omega)]; exact hc j h0 h1
      · have w0 := L2 0 (by omega) (by omega)
        have w1 := L2 1 (by omega) (by omega)
        have w2 := L2 2 (by omega) (by omega)
        have w3 := L2 3 (by omega) (by omega)
        have u0 := hd7 0 1 (by omega)
        have u1 := hd7 1 1 (by omega)
        have u2 := hd7 2 1 (by omega)
        have u3 := hd7 3 1 (by omega)
        omega
    · exfalso
      refine b1 ?_
      rw [e35]
      exact ⟨a1.1, a1.2.1, a1.2.2.1, a1.2.2.2.1, a1.2.2.2.2.1, a1.2.2.2.2.2.1, a1.2.2.2.2.2.2.1, fun q => key.mp (a1.2.2.2.2.2.2.2 q)⟩
  · rcases c with ⟨b1, b3, b4, b5, b6, rfl⟩ | ⟨b1, rfl, rfl⟩
    · exfalso
      exact a1 ⟨b1.1, b1.2.1, b1.2.2.1, b1.2.2.2.1, b1.2.2.2.2.1, b1.2.2.2.2.2.1, b1.2.2.2.2.2.2.1, fun q => key.mpr (b1.2.2.2.2.2.2.2 q)⟩
    · exact ⟨h, rfl⟩
theorem rw_shut {S0 : Int → Int → Int} {σ ρ1 ρ2 : Mm} {l r1 r2 : Int} (h : Rw S0 σ) (a : OSa σ l r1 ρ1) (c : OSb ρ1 l r2 ρ2) : Rw S0 ρ2 ∧ r1 = r2 := by
  have hk := h.2.2.2.2.1
  have hl := h.2.2.1
  have hc := h.2.2.2.2.2
  have T31 : ∀ i f : Int, 0 ≤ i → i ≤ 6 → f = 0 ∨ f = 1 ∨ f = 21 → Tb 31 (22 * i + f) := fun i f h0 h6 hf => by simp only [Tb]; omega
  rcases a with ⟨a1, a3, a4, a6, rfl⟩ | ⟨a1, rfl, rfl⟩
  · have e45 : ∀ j : Int, ρ1 45 0 j = σ 45 0 j := fun j => a3 45 0 j trivial (by omega)
    have hc7 : ∀ (i j : Int), j = 0 ∨ j = 1 ∨ j = 2 → ¬ (i = l ∧ j = 1) → ρ1 7 i j = σ 7 i j := fun i j hj q => a3 7 i j hj (by omega)
    have hc31 : ∀ j : Int, Tb 31 j → ρ1 31 0 j = σ 31 0 j := fun j hj => a3 31 0 j hj (by omega)
    rcases c with ⟨b1, b3, b4, b6, rfl⟩ | ⟨b1, rfl, rfl⟩
    · have hd7 : ∀ (i j : Int), j = 0 ∨ j = 1 ∨ j = 2 → ρ2 7 i j = ρ1 7 i j := fun i j hj => b3 7 i j hj (by omega)
      have hd31 : ∀ i f : Int, 0 ≤ i → i ≤ 6 → f = 0 ∨ f = 1 ∨ f = 21 → ¬ (i = l ∧ f = 0) → ρ2 31 0 (22 * i + f) = σ 31 0 (22 * i + f) := fun i f h0 h6 hf hi => (b3 31 0 _ (T31 i f h0 h6 hf) (by omega)).trans (hc31 _ (T31 i f h0 h6 hf))
      refine ⟨⟨fun i j => ?_, fun i h0 h3 => ?_, fun i h0 h6 => ?_, fun i h4 h6 ho => ?_, fun i h0 h3 => ?_, fun j h0 h1 => ?_⟩, rfl⟩
      · rw [b3 0 i j trivial (by omega), a3 0 i j trivial (by omega)]; exact h.1 i j
      · rw [hd7 i 0 (by omega), hc7 i 0 (by omega) (by omega)]; exact h.2.1 i h0 h3
      · have z1 := hd7 i 1 (by omega)
        have z2 := hd7 i 2 (by omega)
        have z4 := hc7 i 2 (by omega) (by omega)
        have z6 := hd31 i 1 h0 h6 (by omega) (by omega)
        have := hl i h0 h6
        by_cases hi : i = l
        · subst hi
          omega
        · have z3 := hc7 i 1 (by omega) (by omega)
          have z5 := hd31 i 0 h0 h6 (by omega) (by omega)
          omega
      · have hil : i ≠ l := by omega
        rw [hd7 i 1 (by omega), hc7 i 1 (by omega) (by omega)] at ho
        rw [hd7 i 0 (by omega), hc7 i 0 (by omega) (by omega), hd31 i 21 (by omega) h6 (by omega) (by omega)]
        exact h.2.2.2.1 i h4 h6 ho
      · have z1 := b3 13 i 0 rfl (by omega)
        have z2 := a6 i h0 h3
        have z3 := b6 i h0 h3
        rw [e45] at z3
        have z4 := hk i h0 h3
        rw [← z4.1] at z3
        have z5 := hd7 i 1 (by omega)
        by_cases hi : i = l ∨ σ 13 i 0 = l
        · rw [if_pos hi] at z2 z3
          omega
        · rw [if_neg hi] at z2 z3
          have z6 := hc7 i 1 (by omega) (by omega)
          omega
      · rw [b3 15 0 j trivial (by omega), a3 15 0 j trivial (by omega), b3 35 0 j trivial (by omega), a3 35 0 j trivial (by omega)]; exact hc j h0 h1
    · exfalso
      have z := hc31 _ (T31 l 0 (by omega) (by omega) (by omega))
      have := hl l (by omega) (by omega)
      omega
  · rcases c with ⟨b1, b3, b4, b6, rfl⟩ | ⟨b1, rfl, rfl⟩
    · exfalso
      have := hl l (by omega) (by omega)
      omega
    · exact ⟨h, rfl⟩
theorem rw_keep {S0 : Int → Int → Int} {σ ρ1 ρ2 : Mm} {l x : Int} (h : Rw S0 σ) (a : OKa σ l x ρ1) (c : OKb ρ1 l x ρ2) : Rw S0 ρ2 := by
  have hk := h.2.2.2.2.1
  have hl := h.2.2.1
  have hc := h.2.2.2.2.2
  have T31 : ∀ i f : Int, 0 ≤ i → i ≤ 6 → f = 0 ∨ f = 1 ∨ f = 21 → Tb 31 (22 * i + f) := fun i f h0 h6 hf => by simp only [Tb]; omega
  rcases a with ⟨a1, a3, a4, a5, a6⟩ | ⟨a1, rfl⟩
  · have hc7 : ∀ (i j : Int), j = 0 ∨ j = 1 ∨ j = 2 → i ≠ x + 4 → ρ1 7 i j = σ 7 i j := fun i j hj q => a3 7 i j hj (by omega)
    have hc31 : ∀ j : Int, Tb 31 j → ρ1 31 0 j = σ 31 0 j := fun j hj => a3 31 0 j hj (by omega)
    rcases c with ⟨b1, b3, b4, b5, b6⟩ | ⟨b1, rfl⟩
    · have hd7 : ∀ (i j : Int), j = 0 ∨ j = 1 ∨ j = 2 → ρ2 7 i j = ρ1 7 i j := fun i j hj => b3 7 i j hj (by omega)
      have hd31 : ∀ i f : Int, 0 ≤ i → i ≤ 6 → f = 0 ∨ f = 1 ∨ f = 21 → i ≠ x + 4 → ρ2 31 0 (22 * i + f) = σ 31 0 (22 * i + f) := fun i f h0 h6 hf hi => (b3 31 0 _ (T31 i f h0 h6 hf) (by omega)).trans (hc31 _ (T31 i f h0 h6 hf))
      have y0 := hc31 _ (T31 l 0 (by omega) (by omega) (by omega))
      have y1 := hc31 _ (T31 l 1 (by omega) (by omega) (by omega))
      refine ⟨fun i j => ?_, fun i h0 h3 => ?_, fun i h0 h6 => ?_, fun i h4 h6 ho => ?_, fun i h0 h3 => ?_, fun j h0 h1 => ?_⟩
      · rw [b3 0 i j trivial (by omega), a3 0 i j trivial (by omega)]; exact h.1 i j
      · rw [hd7 i 0 (by omega), hc7 i 0 (by omega) (by omega)]; exact h.2.1 i h0 h3
      · have z1 := hd7 i 1 (by omega)
        have z2 := hd7 i 2 (by omega)
        by_cases hi : i = x + 4
        · subst hi
          have := hl l (by omega) (by omega)
          omega
        · have z3 := hc7 i 1 (by omega) (by omega)
          have z4 := hc7 i 2 (by omega) (by omega)
          have z5 := hd31 i 0 h0 h6 (by omega) (by omega)
          have z6 := hd31 i 1 h0 h6 (by omega) (by omega)
          have := hl i h0 h6
          omega
      · have z1 := hd7 i 1 (by omega)
        have z0 := hd7 i 0 (by omega)
        by_cases hi : i = x + 4
        · subst hi
          have := h.2.1 l (by omega) (by omega)
          omega
        · have z3 := hc7 i 1 (by omega) (by omega)
          have z4 := hc7 i 0 (by omega) (by omega)
          have z5 := hd31 i 21 (by omega) h6 (by omega) (by omega)
          have := h.2.2.2.1 i h4 h6 (by omega)
          omega
      · rw [b3 13 i 0 rfl (by omega), a3 13 i 0 rfl (by omega), b3 45 0 i trivial (by omega), a3 45 0 i trivial (by omega), hd7 i 1 (by omega), hc7 i 1 (by omega) (by omega)]
        exact hk i h0 h3
      · rw [b3 15 0 j trivial (by omega), a3 15 0 j trivial (by omega), b3 35 0 j trivial (by omega), a3 35 0 j trivial (by omega)]; exact hc j h0 h1
    · exfalso
      have z := hc31 _ (T31 l 0 (by omega) (by omega) (by omega))
      have := hl l (by omega) (by omega)
      omega
  · rcases c with ⟨b1, b3, b4, b5, b6⟩ | ⟨b1, rfl⟩
    · exfalso
      have := hl l (by omega) (by omega)
      omega
    · exact h
def bl (σ : Mm) (x : Int) : Int := if 0 ≤ x ∧ x ≤ 2 ∧ σ 7 (x + 4) 1 = 1 then σ 7 (x + 4) 0 else 0
theorem bl_ok {S0 : Int → Int → Int} {σ : Mm} (h : Rw S0 σ) (x : Int) : (0 ≤ bl σ x ∧ bl σ x ≤ 3) ∧ (0 ≤ x → x ≤ 2 → σ 7 (x + 4) 1 = 1 → σ 7 (x + 4) 0 = bl σ x) := by
  unfold bl
  by_cases hx : 0 ≤ x ∧ x ≤ 2 ∧ σ 7 (x + 4) 1 = 1
  · rw [if_pos hx]
    have := h.2.2.2.1 (x + 4) (by omega) (by omega) hx.2.2
    exact ⟨this.2, fun _ _ _ => rfl⟩
  · rw [if_neg hx]
    exact ⟨⟨by omega, by omega⟩, fun a b c => absurd ⟨a, b, c⟩ hx⟩
theorem bl_ok2 {S0 : Int → Int → Int} {σ ρ1 : Mm} {x : Int} (h : Rw S0 σ) (a : OBa σ (bl σ x) x ρ1) : 0 ≤ x → x ≤ 2 → ρ1 31 0 (22 * (x + 4) + 0) = 1 → ρ1 31 0 (22 * (x + 4) + 21) = bl σ x := fun h0 h2 ho => by
  have hb := bl_ok h x
  have q := h.2.2.1 (x + 4) (by omega) (by omega)
  rcases a with ⟨a1, a3, -⟩ | ⟨a1, rfl⟩
  · have z0 := a3 31 0 (22 * (x + 4) + 0) (by simp only [Tb]; omega) (by omega)
    have z1 := a3 31 0 (22 * (x + 4) + 21) (by simp only [Tb]; omega) (by omega)
    have q2 := h.2.2.2.1 (x + 4) (by omega) (by omega) (by omega)
    have q3 := hb.2 h0 h2 (by omega)
    omega
  · have q2 := h.2.2.2.1 (x + 4) (by omega) (by omega) (by omega)
    have q3 := hb.2 h0 h2 (by omega)
    omega
theorem rw_back {S0 : Int → Int → Int} {σ ρ1 ρ2 : Mm} {x : Int} (h : Rw S0 σ) (a : OBa σ (bl σ x) x ρ1) (c : OBb ρ1 (bl σ x) x ρ2) : Rw S0 ρ2 := by
  have hk := h.2.2.2.2.1
  have hl := h.2.2.1
  have hc := h.2.2.2.2.2
  have hb := bl_ok h x
  revert a c hb
  generalize bl σ x = l
  intro a c hb
  have T31 : ∀ i f : Int, 0 ≤ i → i ≤ 6 → f = 0 ∨ f = 1 ∨ f = 21 → Tb 31 (22 * i + f) := fun i f h0 h6 hf => by simp only [Tb]; omega
  rcases a with ⟨a1, a3, a4, a5, a7, a6⟩ | ⟨a1, rfl⟩
  · have e45 : ∀ j : Int, ρ1 45 0 j = σ 45 0 j := fun j => a3 45 0 j trivial (by omega)
    have hc7 : ∀ (i j : Int), j = 0 ∨ j = 1 ∨ j = 2 → i ≠ l → ρ1 7 i j = σ 7 i j := fun i j hj q => a3 7 i j hj (by omega)
    have hc31 : ∀ j : Int, Tb 31 j → ρ1 31 0 j = σ 31 0 j := fun j hj => a3 31 0 j hj (by omega)
    have hx := hl (x + 4) (by omega) (by omega)
    have hnx := hb.2 (by omega) (by omega) (by omega)
    rcases c with ⟨b1, b3, b4, b5, b6⟩ | ⟨b1, rfl⟩
    · have hd7 : ∀ (i j : Int), j = 0 ∨ j = 1 ∨ j = 2 → ρ2 7 i j = ρ1 7 i j := fun i j hj => b3 7 i j hj (by omega)
      have hd31 : ∀ i f : Int, 0 ≤ i → i ≤ 6 → f = 0 ∨ f = 1 ∨ f = 21 → i ≠ l → ρ2 31 0 (22 * i + f) = σ 31 0 (22 * i + f) := fun i f h0 h6 hf hi => (b3 31 0 _ (T31 i f h0 h6 hf) (by omega)).trans (hc31 _ (T31 i f h0 h6 hf))
      have y0 := hc31 _ (T31 (x + 4) 0 (by omega) (by omega) (by omega))
      have y1 := hc31 _ (T31 (x + 4) 1 (by omega) (by omega) (by omega))
      refine ⟨fun i j => ?_, fun i h0 h3 => ?_, fun i h0 h6 => ?_, fun i h4 h6 ho => ?_, fun i h0 h3 => ?_, fun j h0 h1 => ?_⟩
      · rw [b3 0 i j trivial (by omega), a3 0 i j trivial (by omega)]; exact h.1 i j
      · have z0 := hd7 i 0 (by omega)
        by_cases hi : i = l
        · subst hi
          omega
        · have z1 := hc7 i 0 (by omega) hi
          have := h.2.1 i h0 h3
          omega
      · have z1 := hd7 i 1 (by omega)
        have z2 := hd7 i 2 (by omega)
        by_cases hi : i = l
        · subst hi
          omega
        · have z3 := hc7 i 1 (by omega) (by omega)
          have z4 := hc7 i 2 (by omega) (by omega)
          have z5 := hd31 i 0 h0 h6 (by omega) (by omega)
          have z6 := hd31 i 1 h0 h6 (by omega) (by omega)
          have := hl i h0 h6
          omega
      · have hil : i ≠ l := by omega
        rw [hd7 i 1 (by omega), hc7 i 1 (by omega) (by omega)] at ho
        rw [hd7 i 0 (by omega), hc7 i 0 (by omega) (by omega), hd31 i 21 (by omega) h6 (by omega) (by omega)]
        exact h.2.2.2.1 i h4 h6 ho
      · have z1 := b3 13 i 0 rfl (by omega)
        have z2 := a6 i h0 h3
        have z3 := b6 i h0 h3
        rw [e45] at z3
        have z4 := hk i h0 h3
        rw [← z4.1] at z3
        have z5 := hd7 i 1 (by omega)
        by_cases hi : i = l ∨ σ 13 i 0 = l
        · rw [if_pos hi] at z2 z3
          omega
        · rw [if_neg hi] at z2 z3
          have z6 := hc7 i 1 (by omega) (by omega)
          omega
      · rw [b3 15 0 j trivial (by omega), a3 15 0 j trivial (by omega), b3 35 0 j trivial (by omega), a3 35 0 j trivial (by omega)]; exact hc j h0 h1
    · exfalso
      have y0 := hc31 _ (T31 (x + 4) 0 (by omega) (by omega) (by omega))
      omega
  · rcases c with ⟨b1, b3, b4, b5, b6⟩ | ⟨b1, rfl⟩
    · exfalso
      have := hl (x + 4) (by omega) (by omega)
      omega
    · exact h
