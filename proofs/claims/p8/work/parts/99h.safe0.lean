-- B: questions asked with the scratch's rest untold: from the law's sight to sight A's, and back
theorem WT_foldS {d M : Nat} {as : List Vl} {σ : Mm} {P : Option Vl → Mm → Prop} (h : ∀ ρ : Mm, (∀ c : Nat, ¬ Fo c → ρ c = σ c) → InF ρ → WT (false, true, false) d M as ρ (fun r ρ2 => InF ρ2 ∧ ∃ σ2 : Mm, P r σ2 ∧ ∀ (c : Nat) (x y : Int), ¬ Fo c → ρ2 c x y = σ2 c x y)) : WT (true, false, false) d M as σ P := by
  intro τ hA
  have hI : InF (ov τ σ) := by
    have q := hA.2.2.2 rfl
    exact q.to fun c i j hD => if_pos (by rcases DF_k hD with z | z; exact Or.inl z; exact Or.inr (Or.inl z))
  have hT : ∀ (c : Nat) (i j : Int), Tk (false, true, false) c j → τ c i j = ov τ σ c i j := fun c i j q => by
    unfold ov
    split
    · rfl
    · rename_i hc
      refine hA.1 c i j ?_
      rcases q with q | q | q | q
      · exact Or.inl q
      · cases q.1
      · exfalso
        rcases q.2 with w | w
        · rcases DF_k w with z | z
          · exact hc (Or.inl z)
          · exact hc (Or.inr (Or.inl z))
        · exact hc (DX_k w)
      · cases q.1
  refine WP.mono (fun r τ2 hp => ?_) _ _ _ _ (h (ov τ σ) (fun c hc => ov_ne hc) hI τ ⟨hT, hA.2.1, fun _ => trivial, fun q => by cases q⟩)
  obtain ⟨ρ2, ⟨g1, σ2, g2, g3⟩, g5⟩ := hp
  refine ⟨σ2, g2, ?_, g5.2.1, fun _ => trivial, fun _ => ?_⟩
  · intro c i j q
    have hc : ¬ Fo c := Tk_fo q
    refine (g5.1 c i j ?_).trans (g3 c i j hc)
    rcases q with q | q | q | q
    · exact Or.inl q
    · exact Or.inl (DL_Tb q.2)
    · cases q.1
    · cases q.1
  · exact g1.to fun c i j hD => g5.1 c i j (Or.inr (Or.inr (Or.inl ⟨rfl, Or.inl hD⟩)))
/-- the reference's scratch -/
abbrev Ro (c : Nat) : Prop := c = 30 ∨ c = 37 ∨ c = 38 ∨ c = 49 ∨ c = 50 ∨ c = 51 ∨ c = 52
def ow (F σ : Mm) : Mm := fun c x y => if Ro c then F c x y else σ c x y
theorem ow_ne {F σ : Mm} {c : Nat} (h : ¬ Ro c) : ow F σ c = σ c := by
  funext x y
  exact if_neg h
theorem DR_k {e : Ev} {c : Nat} {j : Int} (h : DR e c j) : Ro c := by
  unfold DR at h
  split at h
  · exact Or.inl rfl
  · exact Or.inr (Or.inl rfl)
  · exact Or.inr (Or.inr (Or.inl rfl))
  · exact Or.inr (Or.inr (Or.inr (Or.inl rfl)))
  · exact Or.inr (Or.inr (Or.inr (Or.inr (Or.inl rfl))))
  · exact Or.inr (Or.inr (Or.inr (Or.inr (Or.inr (Or.inl rfl)))))
  · exact Or.inr (Or.inr (Or.inr (Or.inr (Or.inr (Or.inr rfl)))))
  · exact h.elim
theorem Tk_ro {c : Nat} {j : Int} (h : Tk (true, false, false) c j) : ¬ Ro c := by
  rintro (rfl | rfl | rfl | rfl | rfl | rfl | rfl)
  all_goals
    rcases h with q | q | q | q
    · exact q
    · exact q.2
    · cases q.1
    · cases q.1
theorem WT_rowS {d M : Nat} {as : List Vl} {σ : Mm} {P : Option Vl → Mm → Prop} (h : ∀ ρ : Mm, (∀ c : Nat, ¬ Ro c → ρ c = σ c) → WT (false, false, true) d M as ρ (fun r ρ2 => ∃ σ2 : Mm, P r σ2 ∧ ∀ (c : Nat) (x y : Int), ¬ Ro c → ρ2 c x y = σ2 c x y)) : WT (true, false, false) d M as σ P := by
  intro τ hA
  have hT : ∀ (c : Nat) (i j : Int), Tk (false, false, true) c j → τ c i j = ow τ σ c i j := fun c i j q => by
    unfold ow
    split
    · rfl
    · rename_i hc
      refine hA.1 c i j ?_
      rcases q with q | q | q | q
      · exact Or.inl q
      · cases q.1
      · cases q.1
      · exact absurd (DR_k q.2) hc
  refine WP.mono (fun r τ2 hp => ?_) _ _ _ _ (h (ow τ σ) (fun c hc => ow_ne hc) τ ⟨hT, hA.2.1, fun _ => trivial, hA.2.2.2⟩)
  obtain ⟨ρ2, ⟨σ2, g2, g3⟩, g5⟩ := hp
  refine ⟨σ2, g2, ?_, g5.2.1, fun _ => trivial, g5.2.2.2⟩
  intro c i j q
  have hc : ¬ Ro c := Tk_ro q
  refine (g5.1 c i j ?_).trans (g3 c i j hc)
  rcases q with q | q | q | q
  · exact Or.inl q
  · exact Or.inl (DL_Tb q.2)
  · cases q.1
  · cases q.1
/-- a question's contract at the sight that tracks no scratch serves the law -/
theorem WT_q {d M : Nat} {as : List Vl} {σ : Mm} {P : Option Vl → Mm → Prop} (h : WT (false, false, false) d M as σ P) : WT (true, false, false) d M as σ P := by
  intro τ hA
  have hT : ∀ (c : Nat) (i j : Int), Tk (false, false, false) c j → τ c i j = σ c i j := fun c i j q => by
    refine hA.1 c i j ?_
    rcases q with q | q | q | q
    · exact Or.inl q
    · cases q.1
    · cases q.1
    · cases q.1
  refine WP.mono (fun r τ2 hp => ?_) _ _ _ _ (h τ ⟨hT, hA.2.1, fun _ => trivial, hA.2.2.2⟩)
  obtain ⟨ρ2, g1, g5⟩ := hp
  refine ⟨ρ2, g1, fun c i j q => ?_, g5.2.1, fun _ => trivial, g5.2.2.2⟩
  refine g5.1 c i j ?_
  rcases q with q | q | q | q
  · exact Or.inl q
  · exact Or.inl (DL_Tb q.2)
  · cases q.1
  · cases q.1
