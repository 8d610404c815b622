-- B: the class: LINKS, BOXES
theorem r7_cp {f g : Int → Int} {t : Int} : r7 (f 0) (f 1) (f 2) (f 3) (f 4) (f 5) (f 6) g t = if 0 ≤ t ∧ t ≤ 6 then f t else g t := by
  unfold r7
  by_cases h : 0 ≤ t ∧ t ≤ 6
  · rw [if_pos h]
    rcases (by omega : t = 0 ∨ t = 1 ∨ t = 2 ∨ t = 3 ∨ t = 4 ∨ t = 5 ∨ t = 6) with rfl | rfl | rfl | rfl | rfl | rfl | rfl
    · rfl
    · rfl
    · rfl
    · rfl
    · rfl
    · rfl
    · rfl
  · rw [if_neg h, if_neg (by omega), if_neg (by omega), if_neg (by omega), if_neg (by omega), if_neg (by omega), if_neg (by omega), if_neg (by omega)]
theorem cpM_ne {V : Mm} {a b x y : Int} {c : Nat} (h : x ≠ b) : cpM V a b c x y = V c x y := if_neg h
theorem fun0 {f : Int → Int} : (fun j => f (0 + j)) = f := by
  funext j
  rw [Int.zero_add]
/-- the fold's places are not seen at the loose sight -/
abbrev Fo (c : Nat) : Prop := c = 14 ∨ c = 17 ∨ c = 18 ∨ c = 21 ∨ c = 22
def ov (F σ : Mm) : Mm := fun c x y => if Fo c then F c x y else σ c x y
theorem ov_ne {F σ : Mm} {c : Nat} (h : ¬ Fo c) : ov F σ c = σ c := by
  funext x y
  exact if_neg h
theorem DF_k {c : Nat} {j : Int} (h : DF c j) : c = 14 ∨ c = 17 := by
  unfold DF at h
  split at h
  · exact Or.inl rfl
  · exact Or.inr rfl
  · exact h.elim
theorem DX_k {e : Ev} {c : Nat} {j : Int} (h : DX e c j) : Fo c := by
  unfold DX at h
  split at h
  · exact Or.inl rfl
  · exact Or.inr (Or.inl rfl)
  · exact Or.inr (Or.inr (Or.inl rfl))
  · exact Or.inr (Or.inr (Or.inr (Or.inl rfl)))
  · exact Or.inr (Or.inr (Or.inr (Or.inr rfl)))
  · exact h.elim
theorem Tk_fo {eb : Bool} {c : Nat} {j : Int} (h : Tk (true, false, eb) c j) : ¬ Fo c := by
  rintro (rfl | rfl | rfl | rfl | rfl)
  all_goals
    rcases h with q | q | q | q
    · exact q
    · exact q.2
    · cases q.1
    · exact q.2
theorem WT_fold {eb : Bool} {d M : Nat} {as : List Vl} {σ : Mm} {P : Option Vl → Mm → Prop} (h : ∀ ρ : Mm, (∀ c : Nat, ¬ Fo c → ρ c = σ c) → InF ρ → WT (true, true, eb) d M as ρ (fun r ρ2 => InF ρ2 ∧ ∃ σ2 : Mm, P r σ2 ∧ ∀ (c : Nat) (x y : Int), ¬ Fo c → ρ2 c x y = σ2 c x y)) : WT (true, false, eb) d M as σ P := by
  intro τ hA
  have hI : InF (ov τ σ) := by
    have q := hA.2.2.2 rfl
    exact q.to fun c i j hD => if_pos (by rcases DF_k hD with z | z; exact Or.inl z; exact Or.inr (Or.inl z))
  have hT : ∀ (c : Nat) (i j : Int), Tk (true, true, eb) c j → τ c i j = ov τ σ c i j := fun c i j q => by
    unfold ov
    split
    · rfl
    · rename_i hc
      refine hA.1 c i j ?_
      rcases q with q | q | q | q
      · exact Or.inl q
      · exact Or.inr (Or.inl q)
      · exfalso
        rcases q.2 with w | w
        · rcases DF_k w with z | z
          · exact hc (Or.inl z)
          · exact hc (Or.inr (Or.inl z))
        · exact hc (DX_k w)
      · exact Or.inr (Or.inr (Or.inr q))
  refine WP.mono (fun r τ2 hp => ?_) _ _ _ _ (h (ov τ σ) (fun c hc => ov_ne hc) hI τ ⟨hT, hA.2.1, hA.2.2.1, fun q => by cases q⟩)
  obtain ⟨ρ2, ⟨g1, σ2, g2, g3⟩, g5⟩ := hp
  refine ⟨σ2, g2, ?_, g5.2.1, g5.2.2.1, fun _ => ?_⟩
  · intro c i j q
    have hc : ¬ Fo c := Tk_fo q
    refine (g5.1 c i j ?_).trans (g3 c i j hc)
    rcases q with q | q | q | q
    · exact Or.inl q
    · exact Or.inr (Or.inl q)
    · cases q.1
    · exact Or.inr (Or.inr (Or.inr q))
  · exact g1.to fun c i j hD => g5.1 c i j (Or.inr (Or.inr (Or.inl ⟨rfl, Or.inl hD⟩)))
theorem cpM_eq {V : Mm} {i j : Int} (hij : i ≠ j) : cpM V j i = (su (mu (mu (mu (mu (mu (cpy (cpy (cpy (mu (mu (mu (mu (mu (mu (mu V 7 i 0 (V 7 j 0)) 7 i 1 (V 7 j 1)) 7 i 2 (V 7 j 2)) 7 i 3 (V 7 j 3)) 7 i 4 (V 7 j 4)) 7 i 5 (V 7 j 5)) 7 i 6 (V 7 j 6)) 8 j 0 8 i 0 (V 7 j 6)) 9 j 0 9 i 0 (V 7 j 6)) 10 j 0 10 i 0 (V 7 j 6)) 7 i 10 (V 7 j 10)) 7 i 12 (V 7 j 12)) 7 i 13 (V 7 j 13)) 7 i 14 (V 7 j 14)) 7 i 15 (V 7 j 15)) 11 i (r7 ((mu (mu (mu (mu (mu (cpy (cpy (cpy (mu (mu (mu (mu (mu (mu (mu V 7 i 0 (V 7 j 0)) 7 i 1 (V 7 j 1)) 7 i 2 (V 7 j 2)) 7 i 3 (V 7 j 3)) 7 i 4 (V 7 j 4)) 7 i 5 (V 7 j 5)) 7 i 6 (V 7 j 6)) 8 j 0 8 i 0 (V 7 j 6)) 9 j 0 9 i 0 (V 7 j 6)) 10 j 0 10 i 0 (V 7 j 6)) 7 i 10 (V 7 j 10)) 7 i 12 (V 7 j 12)) 7 i 13 (V 7 j 13)) 7 i 14 (V 7 j 14)) 7 i 15 (V 7 j 15)) 11 j 0) ((mu (mu (mu (mu (mu (cpy (cpy (cpy (mu (mu (mu (mu (mu (mu (mu V 7 i 0 (V 7 j 0)) 7 i 1 (V 7 j 1)) 7 i 2 (V 7 j 2)) 7 i 3 (V 7 j 3)) 7 i 4 (V 7 j 4)) 7 i 5 (V 7 j 5)) 7 i 6 (V 7 j 6)) 8 j 0 8 i 0 (V 7 j 6)) 9 j 0 9 i 0 (V 7 j 6)) 10 j 0 10 i 0 (V 7 j 6)) 7 i 10 (V 7 j 10)) 7 i 12 (V 7 j 12)) 7 i 13 (V 7 j 13)) 7 i 14 (V 7 j 14)) 7 i 15 (V 7 j 15)) 11 j 1) ((mu (mu (mu (mu (mu (cpy (cpy (cpy (mu (mu (mu (mu (mu (mu (mu V 7 i 0 (V 7 j 0)) 7 i 1 (V 7 j 1)) 7 i 2 (V 7 j 2)) 7 i 3 (V 7 j 3)) 7 i 4 (V 7 j 4)) 7 i 5 (V 7 j 5)) 7 i 6 (V 7 j 6)) 8 j 0 8 i 0 (V 7 j 6)) 9 j 0 9 i 0 (V 7 j 6)) 10 j 0 10 i 0 (V 7 j 6)) 7 i 10 (V 7 j 10)) 7 i 12 (V 7 j 12)) 7 i 13 (V 7 j 13)) 7 i 14 (V 7 j 14)) 7 i 15 (V 7 j 15)) 11 j 2) ((mu (mu (mu (mu (mu (cpy (cpy (cpy (mu (mu (mu (mu (mu (mu (mu V 7 i 0 (V 7 j 0)) 7 i 1 (V 7 j 1)) 7 i 2 (V 7 j 2)) 7 i 3 (V 7 j 3)) 7 i 4 (V 7 j 4)) 7 i 5 (V 7 j 5)) 7 i 6 (V 7 j 6)) 8 j 0 8 i 0 (V 7 j 6)) 9 j 0 9 i 0 (V 7 j 6)) 10 j 0 10 i 0 (V 7 j 6)) 7 i 10 (V 7 j 10)) 7 i 12 (V 7 j 12)) 7 i 13 (V 7 j 13)) 7 i 14 (V 7 j 14)) 7 i 15 (V 7 j 15)) 11 j 3) ((mu (mu (mu (mu (mu (cpy (cpy (cpy (mu (mu (mu (mu (mu (mu (mu V 7 i 0 (V 7 j 0)) 7 i 1 (V 7 j 1)) 7 i 2 (V 7 j 2)) 7 i 3 (V 7 j 3)) 7 i 4 (V 7 j 4)) 7 i 5 (V 7 j 5)) 7 i 6 (V 7 j 6)) 8 j 0 8 i 0 (V 7 j 6)) 9 j 0 9 i 0 (V 7 j 6)) 10 j 0 10 i 0 (V 7 j 6)) 7 i 10 (V 7 j 10)) 7 i 12 (V 7 j 12)) 7 i 13 (V 7 j 13)) 7 i 14 (V 7 j 14)) 7 i 15 (V 7 j 15)) 11 j 4) ((mu (mu (mu (mu (mu (cpy (cpy (cpy (mu (mu (mu (mu (mu (mu (mu V 7 i 0 (V 7 j 0)) 7 i 1 (V 7 j 1)) 7 i 2 (V 7 j 2)) 7 i 3 (V 7 j 3)) 7 i 4 (V 7 j 4)) 7 i 5 (V 7 j 5)) 7 i 6 (V 7 j 6)) 8 j 0 8 i 0 (V 7 j 6)) 9 j 0 9 i 0 (V 7 j 6)) 10 j 0 10 i 0 (V 7 j 6)) 7 i 10 (V 7 j 10)) 7 i 12 (V 7 j 12)) 7 i 13 (V 7 j 13)) 7 i 14 (V 7 j 14)) 7 i 15 (V 7 j 15)) 11 j 5) ((mu (mu (mu (mu (mu (cpy (cpy (cpy (mu (mu (mu (mu (mu (mu (mu V 7 i 0 (V 7 j 0)) 7 i 1 (V 7 j 1)) 7 i 2 (V 7 j 2)) 7 i 3 (V 7 j 3)) 7 i 4 (V 7 j 4)) 7 i 5 (V 7 j 5)) 7 i 6 (V 7 j 6)) 8 j 0 8 i 0 (V 7 j 6)) 9 j 0 9 i 0 (V 7 j 6)) 10 j 0 10 i 0 (V 7 j 6)) 7 i 10 (V 7 j 10)) 7 i 12 (V 7 j 12)) 7 i 13 (V 7 j 13)) 7 i 14 (V 7 j 14)) 7 i 15 (V 7 j 15)) 11 j 6) ((mu (mu (mu (mu (mu (cpy (cpy (cpy (mu (mu (mu (mu (mu (mu (mu V 7 i 0 (V 7 j 0)) 7 i 1 (V 7 j 1)) 7 i 2 (V 7 j 2)) 7 i 3 (V 7 j 3)) 7 i 4 (V 7 j 4)) 7 i 5 (V 7 j 5)) 7 i 6 (V 7 j 6)) 8 j 0 8 i 0 (V 7 j 6)) 9 j 0 9 i 0 (V 7 j 6)) 10 j 0 10 i 0 (V 7 j 6)) 7 i 10 (V 7 j 10)) 7 i 12 (V 7 j 12)) 7 i 13 (V 7 j 13)) 7 i 14 (V 7 j 14)) 7 i 15 (V 7 j 15)) 11 i))) := by
  funext c x t
  by_cases hx : i = x
  · subst hx
    unfold cpM
    rw [if_pos rfl]
    by_cases c7 : c = 7
    · subst c7
      rw [if_pos rfl]
      by_cases t0 : t = 0
      · subst t0
        rw [su_ne (by omega), mu_ne (by omega), mu_ne (by omega), mu_ne (by omega), mu_ne (by omega), mu_ne (by omega), cpy_ne (by omega), cpy_ne (by omega), cpy_ne (by omega), mu_ne (by omega), mu_ne (by omega), mu_ne (by omega), mu_ne (by omega), mu_ne (by omega), mu_ne (by omega), mu_self]
        first | rfl | (exact if_pos (by omega))
      by_cases t1 : t = 1
      · subst t1
        rw [su_ne (by omega), mu_ne (by omega), mu_ne (by omega), mu_ne (by omega), mu_ne (by omega), mu_ne (by omega), cpy_ne (by omega), cpy_ne (by omega), cpy_ne (by omega), mu_ne (by omega), mu_ne (by omega), mu_ne (by omega), mu_ne (by omega), mu_ne (by omega), mu_self]
        first | rfl | (exact if_pos (by omega))
      by_cases t2 : t = 2
      · subst t2
        rw [su_ne (by omega), mu_ne (by omega), mu_ne (by omega), mu_ne (by omega), mu_ne (by omega), mu_ne (by omega), cpy_ne (by omega), cpy_ne (by omega), cpy_ne (by omega), mu_ne (by omega), mu_ne (by omega), mu_ne (by omega), mu_ne (by omega), mu_self]
        first | rfl | (exact if_pos (by omega))
      by_cases t3 : t = 3
      · subst t3
        rw [su_ne (by omega), mu_ne (by omega), mu_ne (by omega), mu_ne (by omega), mu_ne (by omega), mu_ne (by omega), cpy_ne (by omega), cpy_ne (by omega), cpy_ne (by omega), mu_ne (by omega), mu_ne (by omega), mu_ne (by omega), mu_self]
        first | rfl | (exact if_pos (by omega))
      by_cases t4 : t = 4
      · subst t4
        rw [su_ne (by omega), mu_ne (by omega), mu_ne (by omega), mu_ne (by omega), mu_ne (by omega), mu_ne (by omega), cpy_ne (by omega), cpy_ne (by omega), cpy_ne (by omega), mu_ne (by omega), mu_ne (by omega), mu_self]
        first | rfl | (exact if_pos (by omega))
      by_cases t5 : t = 5
      · subst t5
        rw [su_ne (by omega), mu_ne (by omega), mu_ne (by omega), mu_ne (by omega), mu_ne (by omega), mu_ne (by omega), cpy_ne (by omega), cpy_ne (by omega), cpy_ne (by omega), mu_ne (by omega), mu_self]
        first | rfl | (exact if_pos (by omega))
      by_cases t6 : t = 6
      · subst t6
        rw [su_ne (by omega), mu_ne (by omega), mu_ne (by omega), mu_ne (by omega), mu_ne (by omega), mu_ne (by omega), cpy_ne (by omega), cpy_ne (by omega), cpy_ne (by omega), mu_self]
        first | rfl | (exact if_pos (by omega))
      by_cases t10 : t = 10
      · subst t10
        rw [su_ne (by omega), mu_ne (by omega), mu_ne (by omega), mu_ne (by omega), mu_ne (by omega), mu_self]
        first | rfl | (exact if_pos (by omega))
      by_cases t12 : t = 12
      · subst t12
        rw [su_ne (by omega), mu_ne (by omega), mu_ne (by omega), mu_ne (by omega), mu_self]
        first | rfl | (exact if_pos (by omega))
      by_cases t13 : t = 13
      · subst t13
        rw [su_ne (by omega), mu_ne (by omega), mu_ne (by omega), mu_self]
        first | rfl | (exact if_pos (by omega))
      by_cases t14 : t = 14
      · subst t14
        rw [su_ne (by omega), mu_ne (by omega), mu_self]
        first | rfl | (exact if_pos (by omega))
      by_cases t15 : t = 15
      · subst t15
        rw [su_ne (by omega), mu_self]
        first | rfl | (exact if_pos (by omega))
      rw [su_ne (by omega), mu_ne (by omega), mu_ne (by omega), mu_ne (by omega), mu_ne (by omega), mu_ne (by omega), cpy_ne (by omega), cpy_ne (by omega), cpy_ne (by omega), mu_ne (by omega), mu_ne (by omega), mu_ne (by omega), mu_ne (by omega), mu_ne (by omega), mu_ne (by omega), mu_ne (by omega)]
      rw [if_neg (by omega)]
    rw [if_neg c7]
    by_cases c8 : c = 8 ∨ c = 9 ∨ c = 10
    · rw [if_pos c8]
      by_cases ht : 0 ≤ t ∧ t < V 7 j 6
      · rw [if_pos ht]
        rcases c8 with rfl | rfl | rfl
        · rw [su_ne (by omega), mu_ne (by omega), mu_ne (by omega), mu_ne (by omega), mu_ne (by omega), mu_ne (by omega), cpy_ne (by omega), cpy_ne (by omega), cpy_in (by omega), show (0 : Int) + (t - 0) = t from by omega, mu_ne (by omega), mu_ne (by omega), mu_ne (by omega), mu_ne (by omega), mu_ne (by omega), mu_ne (by omega), mu_ne (by omega)]
        · rw [su_ne (by omega), mu_ne (by omega), mu_ne (by omega), mu_ne (by omega), mu_ne (by omega), mu_ne (by omega), cpy_ne (by omega), cpy_in (by omega), show (0 : Int) + (t - 0) = t from by omega, cpy_ne (by omega), mu_ne (by omega), mu_ne (by omega), mu_ne (by omega), mu_ne (by omega), mu_ne (by omega), mu_ne (by omega), mu_ne (by omega)]
        · rw [su_ne (by omega), mu_ne (by omega), mu_ne (by omega), mu_ne (by omega), mu_ne (by omega), mu_ne (by omega), cpy_in (by omega), show (0 : Int) + (t - 0) = t from by omega, cpy_ne (by omega), cpy_ne (by omega), mu_ne (by omega), mu_ne (by omega), mu_ne (by omega), mu_ne (by omega), mu_ne (by omega), mu_ne (by omega), mu_ne (by omega)]
      · rw [if_neg ht]
        rcases c8 with rfl | rfl | rfl
        · rw [su_ne (by omega), mu_ne (by omega), mu_ne (by omega), mu_ne (by omega), mu_ne (by omega), mu_ne (by omega), cpy_ne (by omega), cpy_ne (by omega), cpy_off (by omega), mu_ne (by omega), mu_ne (by omega), mu_ne (by omega), mu_ne (by omega), mu_ne (by omega), mu_ne (by omega), mu_ne (by omega)]
        · rw [su_ne (by omega), mu_ne (by omega), mu_ne (by omega), mu_ne (by omega), mu_ne (by omega), mu_ne (by omega), cpy_ne (by omega), cpy_off (by omega), cpy_ne (by omega), mu_ne (by omega), mu_ne (by omega), mu_ne (by omega), mu_ne (by omega), mu_ne (by omega), mu_ne (by omega), mu_ne (by omega)]
        · rw [su_ne (by omega), mu_ne (by omega), mu_ne (by omega), mu_ne (by omega), mu_ne (by omega), mu_ne (by omega), cpy_off (by omega), cpy_ne (by omega), cpy_ne (by omega), mu_ne (by omega), mu_ne (by omega), mu_ne (by omega), mu_ne (by omega), mu_ne (by omega), mu_ne (by omega), mu_ne (by omega)]
    rw [if_neg c8]
    by_cases c11 : c = 11
    · subst c11
      rw [if_pos rfl, su_at]
      rw [show (mu (mu (mu (mu (mu (cpy (cpy (cpy (mu (mu (mu (mu (mu (mu (mu V 7 i 0 (V 7 j 0)) 7 i 1 (V 7 j 1)) 7 i 2 (V 7 j 2)) 7 i 3 (V 7 j 3)) 7 i 4 (V 7 j 4)) 7 i 5 (V 7 j 5)) 7 i 6 (V 7 j 6)) 8 j 0 8 i 0 (V 7 j 6)) 9 j 0 9 i 0 (V 7 j 6)) 10 j 0 10 i 0 (V 7 j 6)) 7 i 10 (V 7 j 10)) 7 i 12 (V 7 j 12)) 7 i 13 (V 7 j 13)) 7 i 14 (V 7 j 14)) 7 i 15 (V 7 j 15)) 11 j = V 11 j from funext fun y => by rw [mu_ne (by omega), mu_ne (by omega), mu_ne (by omega), mu_ne (by omega), mu_ne (by omega), cpy_ne (by omega), cpy_ne (by omega), cpy_ne (by omega), mu_ne (by omega), mu_ne (by omega), mu_ne (by omega), mu_ne (by omega), mu_ne (by omega), mu_ne (by omega), mu_ne (by omega)], show (mu (mu (mu (mu (mu (cpy (cpy (cpy (mu (mu (mu (mu (mu (mu (mu V 7 i 0 (V 7 j 0)) 7 i 1 (V 7 j 1)) 7 i 2 (V 7 j 2)) 7 i 3 (V 7 j 3)) 7 i 4 (V 7 j 4)) 7 i 5 (V 7 j 5)) 7 i 6 (V 7 j 6)) 8 j 0 8 i 0 (V 7 j 6)) 9 j 0 9 i 0 (V 7 j 6)) 10 j 0 10 i 0 (V 7 j 6)) 7 i 10 (V 7 j 10)) 7 i 12 (V 7 j 12)) 7 i 13 (V 7 j 13)) 7 i 14 (V 7 j 14)) 7 i 15 (V 7 j 15)) 11 i = V 11 i from funext fun y => by rw [mu_ne (by omega), mu_ne (by omega), mu_ne (by omega), mu_ne (by omega), mu_ne (by omega), cpy_ne (by omega), cpy_ne (by omega), cpy_ne (by omega), mu_ne (by omega), mu_ne (by omega), mu_ne (by omega), mu_ne (by omega), mu_ne (by omega), mu_ne (by omega), mu_ne (by omega)], r7_cp]
    rw [if_neg c11]
    rw [su_ne (by omega), mu_ne (by omega), mu_ne (by omega), mu_ne (by omega), mu_ne (by omega), mu_ne (by omega), cpy_ne (by omega), cpy_ne (by omega), cpy_ne (by omega), mu_ne (by omega), mu_ne (by omega), mu_ne (by omega), mu_ne (by omega), mu_ne (by omega), mu_ne (by omega), mu_ne (by omega)]
  · unfold cpM
    rw [if_neg (fun q => hx q.symm)]
    rw [su_ne (by omega), mu_ne (by omega), mu_ne (by omega), mu_ne (by omega), mu_ne (by omega), mu_ne (by omega), cpy_ni (by omega), cpy_ni (by omega), cpy_ni (by omega), mu_ne (by omega), mu_ne (by omega), mu_ne (by omega), mu_ne (by omega), mu_ne (by omega), mu_ne (by omega), mu_ne (by omega)]
theorem x_copyL {eb ec : Bool} {d : Nat} {P : Option Vl → Mm → Prop} {σ : Mm} {i j : Int} (b_i : 0 ≤ i ∧ i ≤ 6) (b_j : 0 ≤ j ∧ j ≤ 6) (hij : i ≠ j)  (k : P none (cpM σ j i)) : WT (true, eb, ec) (d + 2) 27 [vR 7 i, vR 7 j] σ P := by
  refine WT_in fun K hK => ?_
  have hK : StpY (true, eb, ec) cX2_copyFrom RX2 (none) (WT (true, eb, ec) (d + 1)) P K := hK
  have hM := hK.1
  have hC := hK.1.1
  show K 0 [some (vR 7 i), some (vR 7 j)] [] σ
  refine r_aload_n hC dX2_copyFrom_0 rfl ?_
  refine r_aload_n hC dX2_copyFrom_1 rfl ?_
  refine z_getI (jz := 0) hM dX2_copyFrom_2 fl_RX2_9 rfl rfl rfl (fun v1 h_v1 o_v1 t_v1 => ?_)
  have w_v1 := ((t_v1 (Or.inl (by simp [Tb]))).trans (rfl)).symm
  subst w_v1
  refine z_putIT (jz := 0) hM dX2_copyFrom_5 fw_RX2_9 rfl rfl rfl ⟨Or.inr (by simp [DL]), Or.inr (by simp [DF])⟩ (by first | trivial | (simp only [Okv]; omega) | (simp [Okv]; try omega)) ?_
  refine r_aload_n hC dX2_copyFrom_8 rfl ?_
  refine r_aload_n hC dX2_copyFrom_9 rfl ?_
  refine z_getI (jz := 1) hM dX2_copyFrom_10 fl_RX2_32 rfl rfl rfl (fun v2 h_v2 o_v2 t_v2 => ?_)
  have w_v2 := ((t_v2 (Or.inl (by simp [Tb]))).trans ((mu_ne (by omega)).trans (rfl))).symm
  subst w_v2
  have q_v2 : 0 ≤ (σ 7 j 1) ∧ (σ 7 j 1) ≤ 1 := by have := o_v2.2.1 rfl; omega
  refine z_putZT (jz := 1) hM dX2_copyFrom_13 fw_RX2_32 rfl rfl rfl (by omega) ⟨Or.inr (by simp [DL]), Or.inr (by simp [DF])⟩ (by first | trivial | (simp only [Okv]; omega) | (simp [Okv]; try omega)) ?_
  refine r_aload_n hC dX2_copyFrom_16 rfl ?_
  refine r_aload_n hC dX2_copyFrom_17 rfl ?_
  refine z_getI (jz := 2) hM dX2_copyFrom_18 fl_RX2_36 rfl rfl rfl (fun v3 h_v3 o_v3 t_v3 => ?_)
  have w_v3 := ((t_v3 (Or.inl (by simp [Tb]))).trans ((mu_ne (by omega)).trans ((mu_ne (by omega)).trans (rfl)))).symm
  subst w_v3
  have q_v3 : 0 ≤ (σ 7 j 2) ∧ (σ 7 j 2) ≤ 9 := o_v3.2.2 rfl
  refine z_putIT (jz := 2) hM dX2_copyFrom_21 fw_RX2_36 rfl rfl rfl ⟨Or.inr (by simp [DL]), Or.inr (by simp [DF])⟩ (by first | trivial | (simp only [Okv]; omega) | (simp [Okv]; try omega)) ?_
  refine r_aload_n hC dX2_copyFrom_24 rfl ?_
  refine r_aload_n hC dX2_copyFrom_25 rfl ?_
  refine z_getI (jz := 3) hM dX2_copyFrom_26 fl_RX2_39 rfl rfl rfl (fun v4 h_v4 o_v4 t_v4 => ?_)
  have w_v4 := ((t_v4 (Or.inl (by simp [Tb]))).trans ((mu_ne (by omega)).trans ((mu_ne (by omega)).trans ((mu_ne (by omega)).trans (rfl))))).symm
  subst w_v4
  refine z_putIT (jz := 3) hM dX2_copyFrom_29 fw_RX2_39 rfl rfl rfl ⟨Or.inl rfl, Or.inr (by simp [DF])⟩ (by first | trivial | (simp only [Okv]; omega) | (simp [Okv]; try omega)) ?_
  refine r_aload_n hC dX2_copyFrom_32 rfl ?_
  refine r_aload_n hC dX2_copyFrom_33 rfl ?_
  refine z_getI (jz := 4) hM dX2_copyFrom_34 fl_RX2_42 rfl rfl rfl (fun v5 h_v5 o_v5 t_v5 => ?_)
  have w_v5 := ((t_v5 (Or.inl (by simp [Tb]))).trans ((mu_ne (by omega)).trans ((mu_ne (by omega)).trans ((mu_ne (by omega)).trans ((mu_ne (by omega)).trans (rfl)))))).symm
  subst w_v5
  refine z_putIT (jz := 4) hM dX2_copyFrom_37 fw_RX2_42 rfl rfl rfl ⟨Or.inl rfl, Or.inr (by simp [DF])⟩ (by first | trivial | (simp only [Okv]; omega) | (simp [Okv]; try omega)) ?_
  refine r_aload_n hC dX2_copyFrom_40 rfl ?_
  refine r_aload_n hC dX2_copyFrom_41 rfl ?_
  refine z_getI (jz := 5) hM dX2_copyFrom_42 fl_RX2_45 rfl rfl rfl (fun v6 h_v6 o_v6 t_v6 => ?_)
  have w_v6 := ((t_v6 (Or.inl (by simp [Tb]))).trans ((mu_ne (by omega)).trans ((mu_ne (by omega)).trans ((mu_ne (by omega)).trans ((mu_ne (by omega)).trans ((mu_ne (by omega)).trans (rfl))))))).symm
  subst w_v6
  refine z_putIT (jz := 5) hM dX2_copyFrom_45 fw_RX2_45 rfl rfl rfl ⟨Or.inr (by simp [DL]), Or.inr (by simp [DF])⟩ (by first | trivial | (simp only [Okv]; omega) | (simp [Okv]; try omega)) ?_
  refine r_aload_n hC dX2_copyFrom_48 rfl ?_
  refine r_aload_n hC dX2_copyFrom_49 rfl ?_
  refine z_getI (jz := 6) hM dX2_copyFrom_50 fl_RX2_48 rfl rfl rfl (fun v7 h_v7 o_v7 t_v7 => ?_)
  have w_v7 := ((t_v7 (Or.inl (by simp [Tb]))).trans ((mu_ne (by omega)).trans ((mu_ne (by omega)).trans ((mu_ne (by omega)).trans ((mu_ne (by omega)).trans ((mu_ne (by omega)).trans ((mu_ne (by omega)).trans (rfl)))))))).symm
  subst w_v7
  have q_v7 : 0 ≤ (σ 7 j 6) ∧ (σ 7 j 6) ≤ 121 := o_v7.1 rfl
  refine z_putIT (jz := 6) hM dX2_copyFrom_53 fw_RX2_48 rfl rfl rfl ⟨Or.inl rfl, Or.inr (by simp [DF])⟩ (by first | trivial | (simp only [Okv]; omega) | (simp [Okv]; try omega)) ?_
  refine r_aload_n hC dX2_copyFrom_56 rfl ?_
  refine z_getR hM dX2_copyFrom_57 fl_RX2_15 rfl rfl (vld_of (n := 7) rfl (by omega) (by omega)) ?_
  refine r_iconst hC dX2_copyFrom_60 rfl ?_
  refine r_aload_n hC dX2_copyFrom_61 rfl ?_
  refine z_getR hM dX2_copyFrom_62 fl_RX2_15 rfl rfl (vld_of (n := 7) rfl (by omega) (by omega)) ?_
  refine r_iconst hC dX2_copyFrom_65 rfl ?_
  refine r_aload_n hC dX2_copyFrom_66 rfl ?_
  refine z_getI (jz := 6) hM dX2_copyFrom_67 fl_RX2_48 rfl rfl rfl (fun v8 h_v8 o_v8 t_v8 => ?_)
  have w_v8 := ((t_v8 (Or.inl (by simp [Tb]))).trans (mu_self _ _ _ _ _)).symm
  subst w_v8
  refine z_copyT hM dX2_copyFrom_70 ac_RX2_72 rfl rfl (by omega) (by omega) (by omega) (by omega) (by omega) (Nat.le_of_ble_eq_true rfl) (fun _ => ⟨by simp [DL], by simp [DF]⟩) (fun _ _ _ h => by simp [Okv] at *; try exact h) (fun x _ _ _ => (Or.inl (by simp [Tb]))) ?_
  refine r_aload_n hC dX2_copyFrom_73 rfl ?_
  refine z_getR hM dX2_copyFrom_74 fl_RX2_19 rfl rfl (vld_of (n := 7) rfl (by omega) (by omega)) ?_
  refine r_iconst hC dX2_copyFrom_77 rfl ?_
  refine r_aload_n hC dX2_copyFrom_78 rfl ?_
  refine z_getR hM dX2_copyFrom_79 fl_RX2_19 rfl rfl (vld_of (n := 7) rfl (by omega) (by omega)) ?_
  refine r_iconst hC dX2_copyFrom_82 rfl ?_
  refine r_aload_n hC dX2_copyFrom_83 rfl ?_
  refine z_getI (jz := 6) hM dX2_copyFrom_84 fl_RX2_48 rfl rfl rfl (fun v9 h_v9 o_v9 t_v9 => ?_)
  have w_v9 := ((t_v9 (Or.inl (by simp [Tb]))).trans ((cpy_ne (by omega)).trans (mu_self _ _ _ _ _))).symm
  subst w_v9
  refine z_copyT hM dX2_copyFrom_87 ac_RX2_72 rfl rfl (by omega) (by omega) (by omega) (by omega) (by omega) (Nat.le_of_ble_eq_true rfl) (fun _ => ⟨by simp [DL], by simp [DF]⟩) (fun _ _ _ h => by simp [Okv] at *; try exact h) (fun x _ _ _ => (Or.inl (by simp [Tb]))) ?_
  refine r_aload_n hC dX2_copyFrom_90 rfl ?_
  refine z_getR hM dX2_copyFrom_91 fl_RX2_22 rfl rfl (vld_of (n := 7) rfl (by omega) (by omega)) ?_
  refine r_iconst hC dX2_copyFrom_94 rfl ?_
  refine r_aload_n hC dX2_copyFrom_95 rfl ?_
  refine z_getR hM dX2_copyFrom_96 fl_RX2_22 rfl rfl (vld_of (n := 7) rfl (by omega) (by omega)) ?_
  refine r_iconst hC dX2_copyFrom_99 rfl ?_
  refine r_aload_n hC dX2_copyFrom_100 rfl ?_
  refine z_getI (jz := 6) hM dX2_copyFrom_101 fl_RX2_48 rfl rfl rfl (fun v10 h_v10 o_v10 t_v10 => ?_)
  have w_v10 := ((t_v10 (Or.inl (by simp [Tb]))).trans ((cpy_ne (by omega)).trans ((cpy_ne (by omega)).trans (mu_self _ _ _ _ _)))).symm
  subst w_v10
  refine z_copyT hM dX2_copyFrom_104 ac_RX2_72 rfl rfl (by omega) (by omega) (by omega) (by omega) (by omega) (Nat.le_of_ble_eq_true rfl) (fun _ => ⟨by simp [DL], by simp [DF]⟩) (fun _ _ _ h => by simp [Okv] at *; try exact h) (fun x _ _ _ => (Or.inl (by simp [Tb]))) ?_
  refine r_aload_n hC dX2_copyFrom_107 rfl ?_
  refine r_aload_n hC dX2_copyFrom_108 rfl ?_
  refine z_getI (jz := 10) hM dX2_copyFrom_109 fl_RX2_51 rfl rfl rfl (fun v11 h_v11 o_v11 t_v11 => ?_)
  have w_v11 := ((t_v11 (Or.inl (by simp [Tb]))).trans ((cpy_ne (by omega)).trans ((cpy_ne (by omega)).trans ((cpy_ne (by omega)).trans ((mu_ne (by omega)).trans ((mu_ne (by omega)).trans ((mu_ne (by omega)).trans ((mu_ne (by omega)).trans ((mu_ne (by omega)).trans ((mu_ne (by omega)).trans ((mu_ne (by omega)).trans (rfl)))))))))))).symm
  subst w_v11
  refine z_putIT (jz := 10) hM dX2_copyFrom_112 fw_RX2_51 rfl rfl rfl ⟨Or.inr (by simp [DL]), Or.inr (by simp [DF])⟩ (by first | trivial | (simp only [Okv]; omega) | (simp [Okv]; try omega)) ?_
  refine r_aload_n hC dX2_copyFrom_115 rfl ?_
  refine r_aload_n hC dX2_copyFrom_116 rfl ?_
  refine z_getI (jz := 11) hM dX2_copyFrom_117 fl_RX2_54 rfl rfl rfl (fun v12 h_v12 o_v12 t_v12 => ?_)
  refine z_putIU (jz := 11) hM dX2_copyFrom_120 fw_RX2_54 rfl rfl rfl (by simp [Un, Tb, DL, DF, DR, DX]) (by simp [Okv]) ?_
  refine r_aload_n hC dX2_copyFrom_123 rfl ?_
  refine r_aload_n hC dX2_copyFrom_124 rfl ?_
  refine z_getI (jz := 12) hM dX2_copyFrom_125 fl_RX2_57 rfl rfl rfl (fun v13 h_v13 o_v13 t_v13 => ?_)
  have w_v13 := ((t_v13 (Or.inl (by simp [Tb]))).trans ((mu_ne (by omega)).trans ((cpy_ne (by omega)).trans ((cpy_ne (by omega)).trans ((cpy_ne (by omega)).trans ((mu_ne (by omega)).trans ((mu_ne (by omega)).trans ((mu_ne (by omega)).trans ((mu_ne (by omega)).trans ((mu_ne (by omega)).trans ((mu_ne (by omega)).trans ((mu_ne (by omega)).trans (rfl))))))))))))).symm
  subst w_v13
  refine z_putIT (jz := 12) hM dX2_copyFrom_128 fw_RX2_57 rfl rfl rfl ⟨Or.inr (by simp [DL]), Or.inr (by simp [DF])⟩ (by first | trivial | (simp only [Okv]; omega) | (simp [Okv]; try omega)) ?_
  refine r_aload_n hC dX2_copyFrom_131 rfl ?_
  refine r_aload_n hC dX2_copyFrom_132 rfl ?_
  refine z_getI (jz := 13) hM dX2_copyFrom_133 fl_RX2_60 rfl rfl rfl (fun v14 h_v14 o_v14 t_v14 => ?_)
  have w_v14 := ((t_v14 (Or.inl (by simp [Tb]))).trans ((mu_ne (by omega)).trans ((mu_ne (by omega)).trans ((cpy_ne (by omega)).trans ((cpy_ne (by omega)).trans ((cpy_ne (by omega)).trans ((mu_ne (by omega)).trans ((mu_ne (by omega)).trans ((mu_ne (by omega)).trans ((mu_ne (by omega)).trans ((mu_ne (by omega)).trans ((mu_ne (by omega)).trans ((mu_ne (by omega)).trans (rfl)))))))))))))).symm
  subst w_v14
  refine z_putIT (jz := 13) hM dX2_copyFrom_136 fw_RX2_60 rfl rfl rfl ⟨Or.inr (by simp [DL]), Or.inr (by simp [DF])⟩ (by first | trivial | (simp only [Okv]; omega) | (simp [Okv]; try omega)) ?_
  refine r_aload_n hC dX2_copyFrom_139 rfl ?_
  refine r_aload_n hC dX2_copyFrom_140 rfl ?_
  refine z_getI (jz := 14) hM dX2_copyFrom_141 fl_RX2_63 rfl rfl rfl (fun v15 h_v15 o_v15 t_v15 => ?_)
  have w_v15 := ((t_v15 (Or.inl (by simp [Tb]))).trans ((mu_ne (by omega)).trans ((mu_ne (by omega)).trans ((mu_ne (by omega)).trans ((cpy_ne (by omega)).trans ((cpy_ne (by omega)).trans ((cpy_ne (by omega)).trans ((mu_ne (by omega)).trans ((mu_ne (by omega)).trans ((mu_ne (by omega)).trans ((mu_ne (by omega)).trans ((mu_ne (by omega)).trans ((mu_ne (by omega)).trans ((mu_ne (by omega)).trans (rfl))))))))))))))).symm
  subst w_v15
  refine z_putIT (jz := 14) hM dX2_copyFrom_144 fw_RX2_63 rfl rfl rfl ⟨Or.inr (by simp [DL]), Or.inr (by simp [DF])⟩ (by first | trivial | (simp only [Okv]; omega) | (simp [Okv]; try omega)) ?_
  refine r_aload_n hC dX2_copyFrom_147 rfl ?_
  refine r_aload_n hC dX2_copyFrom_148 rfl ?_
  refine z_getI (jz := 15) hM dX2_copyFrom_149 fl_RX2_66 rfl rfl rfl (fun v16 h_v16 o_v16 t_v16 => ?_)
  have w_v16 := ((t_v16 (Or.inl (by simp [Tb]))).trans ((mu_ne (by omega)).trans ((mu_ne (by omega)).trans ((mu_ne (by omega)).trans ((mu_ne (by omega)).trans ((cpy_ne (by omega)).trans ((cpy_ne (by omega)).trans ((cpy_ne (by omega)).trans ((mu_ne (by omega)).trans ((mu_ne (by omega)).trans ((mu_ne (by omega)).trans ((mu_ne (by omega)).trans ((mu_ne (by omega)).trans ((mu_ne (by omega)).trans ((mu_ne (by omega)).trans (rfl)))))))))))))))).symm
  subst w_v16
  refine z_putIT (jz := 15) hM dX2_copyFrom_152 fw_RX2_66 rfl rfl rfl ⟨Or.inr (by simp [DL]), Or.inr (by simp [DF])⟩ (by first | trivial | (simp only [Okv]; omega) | (simp [Okv]; try omega)) ?_
  refine r_aload_n hC dX2_copyFrom_155 rfl ?_
  refine z_getR hM dX2_copyFrom_156 fl_RX2_28 rfl rfl (vld_of (n := 8) rfl (by omega) (by omega)) ?_
  refine r_aload_n hC dX2_copyFrom_159 rfl ?_
  refine z_getR hM dX2_copyFrom_160 fl_RX2_28 rfl rfl (vld_of (n := 8) rfl (by omega) (by omega)) ?_
  refine z_inv1 hM dX2_copyFrom_163 vl_RX2_78 rfl rfl rfl (Nat.le_of_ble_eq_true rfl) (Nat.le_of_ble_eq_true rfl) ?_
  refine x_copyFrom (by omega) (by omega) (by omega) ?_
  refine y_vret hK rfl dX2_copyFrom_166 ?_
  have hm : cpM σ j i = (su (mu (mu (mu (mu (mu (cpy (cpy (cpy (mu (mu (mu (mu (mu (mu (mu σ 7 i 0 (σ 7 j 0)) 7 i 1 (σ 7 j 1)) 7 i 2 (σ 7 j 2)) 7 i 3 (σ 7 j 3)) 7 i 4 (σ 7 j 4)) 7 i 5 (σ 7 j 5)) 7 i 6 (σ 7 j 6)) 8 j 0 8 i 0 (σ 7 j 6)) 9 j 0 9 i 0 (σ 7 j 6)) 10 j 0 10 i 0 (σ 7 j 6)) 7 i 10 (σ 7 j 10)) 7 i 12 (σ 7 j 12)) 7 i 13 (σ 7 j 13)) 7 i 14 (σ 7 j 14)) 7 i 15 (σ 7 j 15)) 11 i (r7 ((mu (mu (mu (mu (mu (cpy (cpy (cpy (mu (mu (mu (mu (mu (mu (mu σ 7 i 0 (σ 7 j 0)) 7 i 1 (σ 7 j 1)) 7 i 2 (σ 7 j 2)) 7 i 3 (σ 7 j 3)) 7 i 4 (σ 7 j 4)) 7 i 5 (σ 7 j 5)) 7 i 6 (σ 7 j 6)) 8 j 0 8 i 0 (σ 7 j 6)) 9 j 0 9 i 0 (σ 7 j 6)) 10 j 0 10 i 0 (σ 7 j 6)) 7 i 10 (σ 7 j 10)) 7 i 12 (σ 7 j 12)) 7 i 13 (σ 7 j 13)) 7 i 14 (σ 7 j 14)) 7 i 15 (σ 7 j 15)) 11 j 0) ((mu (mu (mu (mu (mu (cpy (cpy (cpy (mu (mu (mu (mu (mu (mu (mu σ 7 i 0 (σ 7 j 0)) 7 i 1 (σ 7 j 1)) 7 i 2 (σ 7 j 2)) 7 i 3 (σ 7 j 3)) 7 i 4 (σ 7 j 4)) 7 i 5 (σ 7 j 5)) 7 i 6 (σ 7 j 6)) 8 j 0 8 i 0 (σ 7 j 6)) 9 j 0 9 i 0 (σ 7 j 6)) 10 j 0 10 i 0 (σ 7 j 6)) 7 i 10 (σ 7 j 10)) 7 i 12 (σ 7 j 12)) 7 i 13 (σ 7 j 13)) 7 i 14 (σ 7 j 14)) 7 i 15 (σ 7 j 15)) 11 j 1) ((mu (mu (mu (mu (mu (cpy (cpy (cpy (mu (mu (mu (mu (mu (mu (mu σ 7 i 0 (σ 7 j 0)) 7 i 1 (σ 7 j 1)) 7 i 2 (σ 7 j 2)) 7 i 3 (σ 7 j 3)) 7 i 4 (σ 7 j 4)) 7 i 5 (σ 7 j 5)) 7 i 6 (σ 7 j 6)) 8 j 0 8 i 0 (σ 7 j 6)) 9 j 0 9 i 0 (σ 7 j 6)) 10 j 0 10 i 0 (σ 7 j 6)) 7 i 10 (σ 7 j 10)) 7 i 12 (σ 7 j 12)) 7 i 13 (σ 7 j 13)) 7 i 14 (σ 7 j 14)) 7 i 15 (σ 7 j 15)) 11 j 2) ((mu (mu (mu (mu (mu (cpy (cpy (cpy (mu (mu (mu (mu (mu (mu (mu σ 7 i 0 (σ 7 j 0)) 7 i 1 (σ 7 j 1)) 7 i 2 (σ 7 j 2)) 7 i 3 (σ 7 j 3)) 7 i 4 (σ 7 j 4)) 7 i 5 (σ 7 j 5)) 7 i 6 (σ 7 j 6)) 8 j 0 8 i 0 (σ 7 j 6)) 9 j 0 9 i 0 (σ 7 j 6)) 10 j 0 10 i 0 (σ 7 j 6)) 7 i 10 (σ 7 j 10)) 7 i 12 (σ 7 j 12)) 7 i 13 (σ 7 j 13)) 7 i 14 (σ 7 j 14)) 7 i 15 (σ 7 j 15)) 11 j 3) ((mu (mu (mu (mu (mu (cpy (cpy (cpy (mu (mu (mu (mu (mu (mu (mu σ 7 i 0 (σ 7 j 0)) 7 i 1 (σ 7 j 1)) 7 i 2 (σ 7 j 2)) 7 i 3 (σ 7 j 3)) 7 i 4 (σ 7 j 4)) 7 i 5 (σ 7 j 5)) 7 i 6 (σ 7 j 6)) 8 j 0 8 i 0 (σ 7 j 6)) 9 j 0 9 i 0 (σ 7 j 6)) 10 j 0 10 i 0 (σ 7 j 6)) 7 i 10 (σ 7 j 10)) 7 i 12 (σ 7 j 12)) 7 i 13 (σ 7 j 13)) 7 i 14 (σ 7 j 14)) 7 i 15 (σ 7 j 15)) 11 j 4) ((mu (mu (mu (mu (mu (cpy (cpy (cpy (mu (mu (mu (mu (mu (mu (mu σ 7 i 0 (σ 7 j 0)) 7 i 1 (σ 7 j 1)) 7 i 2 (σ 7 j 2)) 7 i 3 (σ 7 j 3)) 7 i 4 (σ 7 j 4)) 7 i 5 (σ 7 j 5)) 7 i 6 (σ 7 j 6)) 8 j 0 8 i 0 (σ 7 j 6)) 9 j 0 9 i 0 (σ 7 j 6)) 10 j 0 10 i 0 (σ 7 j 6)) 7 i 10 (σ 7 j 10)) 7 i 12 (σ 7 j 12)) 7 i 13 (σ 7 j 13)) 7 i 14 (σ 7 j 14)) 7 i 15 (σ 7 j 15)) 11 j 5) ((mu (mu (mu (mu (mu (cpy (cpy (cpy (mu (mu (mu (mu (mu (mu (mu σ 7 i 0 (σ 7 j 0)) 7 i 1 (σ 7 j 1)) 7 i 2 (σ 7 j 2)) 7 i 3 (σ 7 j 3)) 7 i 4 (σ 7 j 4)) 7 i 5 (σ 7 j 5)) 7 i 6 (σ 7 j 6)) 8 j 0 8 i 0 (σ 7 j 6)) 9 j 0 9 i 0 (σ 7 j 6)) 10 j 0 10 i 0 (σ 7 j 6)) 7 i 10 (σ 7 j 10)) 7 i 12 (σ 7 j 12)) 7 i 13 (σ 7 j 13)) 7 i 14 (σ 7 j 14)) 7 i 15 (σ 7 j 15)) 11 j 6) ((mu (mu (mu (mu (mu (cpy (cpy (cpy (mu (mu (mu (mu (mu (mu (mu σ 7 i 0 (σ 7 j 0)) 7 i 1 (σ 7 j 1)) 7 i 2 (σ 7 j 2)) 7 i 3 (σ 7 j 3)) 7 i 4 (σ 7 j 4)) 7 i 5 (σ 7 j 5)) 7 i 6 (σ 7 j 6)) 8 j 0 8 i 0 (σ 7 j 6)) 9 j 0 9 i 0 (σ 7 j 6)) 10 j 0 10 i 0 (σ 7 j 6)) 7 i 10 (σ 7 j 10)) 7 i 12 (σ 7 j 12)) 7 i 13 (σ 7 j 13)) 7 i 14 (σ 7 j 14)) 7 i 15 (σ 7 j 15)) 11 i))) := cpM_eq hij
  rw [hm] at k
  exact k
theorem x_keep {ec : Bool} {d : Nat} {P : Option Vl → Mm → Prop} {σ : Mm} {l x : Int}   (k : P (some (vI (kpR σ l x))) (kpM σ l x)) : WT (true, false, ec) (d + 4) 114 [vR 2 0, vI l, vI x] σ P := by
  refine WT_in fun K hK => ?_
  have hK : StpY (true, false, ec) cX5_keep RX5 (some .int) (WT (true, false, ec) (d + 3)) P K := hK
  have hM := hK.1
  have hC := hK.1.1
  show K 0 [some (vR 2 0), some (vI l), some (vI x), none] [] σ
  refine r_rngz hC (fun g0 => ?_)
  have r_l : -2147483648 ≤ l ∧ l ≤ 2147483647 := inR_le (g0 (vI l) (by simp))
  have r_x : -2147483648 ≤ x ∧ x ≤ 2147483647 := inR_le (g0 (vI x) (by simp))
  refine r_aload_n hC dX5_keep_0 rfl ?_
  refine r_iload_n hC dX5_keep_1 rfl ?_
  refine z_inv1 hM dX5_keep_2 vl_RX5_123 rfl rfl rfl (Nat.le_of_ble_eq_true rfl) (Nat.le_of_ble_eq_true rfl) ?_
  refine x_openLane (fun h1 => ?_) (fun h1 => ?_)
  · -- h1
    refine r_astore_n hC dX5_keep_5 rfl ?_
    refine r_aload_n hC dX5_keep_6 rfl ?_
    refine r_ifnullR hC dX5_keep_7 ?_
    refine r_iload_n hC dX5_keep_10 rfl ?_
    refine r_iconst hC dX5_keep_11 rfl ?_
    refine r_iconst hC dX5_keep_12 rfl ?_
    refine z_ins3 hM dX5_keep_13 tl_RX5_59 rfl (Nat.le_of_ble_eq_true rfl) (Nat.le_of_ble_eq_true rfl) ?_
    refine s_within (fun h3 => ?_) (fun h3 => ?_)
    · refine r_if_ne (tgt := 21) hC dX5_keep_16 rfl (fun h4 => ?_) (fun h4 => by omega)
      refine r_aload_n hC dX5_keep_21 rfl ?_
      refine z_getR hM dX5_keep_22 fl_RX5_27 rfl rfl (vld_of (n := 1) rfl (by omega) (by omega)) ?_
      refine r_iload_n hC dX5_keep_25 rfl ?_
      refine z_aald hM dX5_keep_26 rfl (by decide) (by omega) (by omega) (vld_of (n := 7) rfl (by omega) (by omega)) ?_
      rw [show rfa 4 x = (7, (x + 4)) from by simp [rfa]; try omega]
      refine r_aload_n hC dX5_keep_27 rfl ?_
      refine z_inv1 hM dX5_keep_28 vl_RX5_349 rfl rfl rfl (Nat.le_of_ble_eq_true rfl) (Nat.le_of_ble_eq_true rfl) ?_
      refine x_copyL (by omega) (by omega) (by omega) ?_
      refine r_aload_n hC dX5_keep_31 rfl ?_
      refine z_getI (jz := 6) hM dX5_keep_32 fl_RX5_154 rfl rfl rfl (fun v5 h_v5 o_v5 t_v5 => ?_)
      have w_v5 := ((t_v5 (Or.inl (by simp [Tb]))).trans ((cpM_ne (by omega)).trans (rfl))).symm
      subst w_v5
      have q_v5 : 0 ≤ (σ 7 l 6) ∧ (σ 7 l 6) ≤ 121 := o_v5.1 rfl
      refine y_iret hK rfl dX5_keep_35 ?_
      have hM : kpM σ l x = (cpM σ l (x + 4)) := by
        exact if_pos (by omega)
      rw [hM] at k
      have hR : kpR σ l x = (σ 7 l 6) := by
        exact if_pos (by omega)
      rw [hR] at k
      exact k
    · refine r_if_ne (tgt := 21) hC dX5_keep_16 rfl (fun h6 => by omega) (fun h6 => ?_)
      refine r_iconst hC dX5_keep_19 rfl ?_
      refine y_iret hK rfl dX5_keep_20 ?_
      have hM : kpM σ l x = σ := by
        exact if_neg (by omega)
      rw [hM] at k
      have hR : kpR σ l x = (-1) := by
        exact if_neg (by omega)
      rw [hR] at k
      exact k
  · -- h1
    refine r_astoreN_n hC dX5_keep_5 rfl ?_
    refine r_aloadN_n hC dX5_keep_6 rfl ?_
    refine r_ifnullN (tgt := 19) hC dX5_keep_7 rfl ?_
    refine r_iconst hC dX5_keep_19 rfl ?_
    refine y_iret hK rfl dX5_keep_20 ?_
    have hM : kpM σ l x = σ := by
      exact if_neg (by omega)
    rw [hM] at k
    have hR : kpR σ l x = (-1) := by
      exact if_neg (by omega)
    rw [hR] at k
    exact k
theorem x_back {ec : Bool} {d : Nat} {P : Option Vl → Mm → Prop} {σ : Mm} {x : Int}  (hbx : bkC σ x → 0 ≤ (σ 7 (x + 4) 0) ∧ (σ 7 (x + 4) 0) ≤ 3)  (k : P (some (vI (bkR σ x))) (bkM σ x)) : WT (true, false, ec) (d + 3) 115 [vR 2 0, vI x] σ P := by
  refine WT_in fun K hK => ?_
  have hK : StpY (true, false, ec) cX5_back RX5 (some .int) (WT (true, false, ec) (d + 2)) P K := hK
  have hM := hK.1
  have hC := hK.1.1
  show K 0 [some (vR 2 0), some (vI x), none] [] σ
  refine r_rngz hC (fun g0 => ?_)
  have r_x : -2147483648 ≤ x ∧ x ≤ 2147483647 := inR_le (g0 (vI x) (by simp))
  refine r_iload_n hC dX5_back_0 rfl ?_
  refine r_iconst hC dX5_back_1 rfl ?_
  refine r_iconst hC dX5_back_2 rfl ?_
  refine z_ins3 hM dX5_back_3 tl_RX5_59 rfl (Nat.le_of_ble_eq_true rfl) (Nat.le_of_ble_eq_true rfl) ?_
  refine s_within (fun h2 => ?_) (fun h2 => ?_)
  · refine r_if_eq (tgt := 21) hC dX5_back_6 rfl (fun h3 => by omega) (fun h3 => ?_)
    refine r_aload_n hC dX5_back_9 rfl ?_
    refine z_getR hM dX5_back_10 fl_RX5_27 rfl rfl (vld_of (n := 1) rfl (by omega) (by omega)) ?_
    refine r_iload_n hC dX5_back_13 rfl ?_
    refine z_aald hM dX5_back_14 rfl (by decide) (by omega) (by omega) (vld_of (n := 7) rfl (by omega) (by omega)) ?_
    rw [show rfa 4 x = (7, (x + 4)) from by simp [rfa]; try omega]
    refine z_getI (jz := 1) hM dX5_back_15 fl_RX5_94 rfl rfl rfl (fun v4 h_v4 o_v4 t_v4 => ?_)
    have w_v4 := ((t_v4 (Or.inl (by simp [Tb]))).trans (rfl)).symm
    subst w_v4
    have q_v4 : 0 ≤ (σ 7 (x + 4) 1) ∧ (σ 7 (x + 4) 1) ≤ 1 := by have := o_v4.2.1 rfl; omega
    refine r_if_ne (tgt := 23) hC dX5_back_18 rfl (fun h5 => ?_) (fun h5 => ?_)
    · refine r_aload_n hC dX5_back_23 rfl ?_
      refine z_getR hM dX5_back_24 fl_RX5_27 rfl rfl (vld_of (n := 1) rfl (by omega) (by omega)) ?_
      refine r_iload_n hC dX5_back_27 rfl ?_
      refine z_aald hM dX5_back_28 rfl (by decide) (by omega) (by omega) (vld_of (n := 7) rfl (by omega) (by omega)) ?_
      rw [show rfa 4 x = (7, (x + 4)) from by simp [rfa]; try omega]
      refine r_astore_n hC dX5_back_29 rfl ?_
      refine r_aload_n hC dX5_back_30 rfl ?_
      refine z_getR hM dX5_back_31 fl_RX5_13 rfl rfl (vld_of (n := 1) rfl (by omega) (by omega)) ?_
      refine r_aload_n hC dX5_back_34 rfl ?_
      refine z_getI (jz := 0) hM dX5_back_35 fl_RX5_212 rfl rfl rfl (fun v6 h_v6 o_v6 t_v6 => ?_)
      have w_v6 := ((t_v6 (Or.inl (by simp [Tb]))).trans (rfl)).symm
      subst w_v6
      refine z_aald hM dX5_back_38 rfl (by decide) (by omega) (by omega) (vld_of (n := 7) rfl (by omega) (by omega)) ?_
      refine r_aload_n hC dX5_back_39 rfl ?_
      refine z_inv1 hM dX5_back_40 vl_RX5_349 rfl rfl rfl (Nat.le_of_ble_eq_true rfl) (Nat.le_of_ble_eq_true rfl) ?_
      refine x_copyL (by omega) (by omega) (by omega) ?_
      refine r_aload_n hC dX5_back_43 rfl ?_
      refine r_aload_n hC dX5_back_44 rfl ?_
      refine z_getI (jz := 0) hM dX5_back_45 fl_RX5_212 rfl rfl rfl (fun v7 h_v7 o_v7 t_v7 => ?_)
      have w_v7 := ((t_v7 (Or.inl (by simp [Tb]))).trans ((cpM_ne (by omega)).trans (rfl))).symm
      subst w_v7
      refine z_inv1 hM dX5_back_48 vl_RX5_117 rfl rfl rfl (Nat.le_of_ble_eq_true rfl) (Nat.le_of_ble_eq_true rfl) ?_
      refine x_endTies (by omega) ?_
      refine r_aload_n hC dX5_back_51 rfl ?_
      refine z_getI (jz := 6) hM dX5_back_52 fl_RX5_154 rfl rfl rfl (fun v8 h_v8 o_v8 t_v8 => ?_)
      have w_v8 := ((t_v8 (Or.inl (by simp [Tb]))).trans ((etM_ne (by omega)).trans ((cpM_ne (by omega)).trans (rfl)))).symm
      subst w_v8
      have q_v8 : 0 ≤ (σ 7 (x + 4) 6) ∧ (σ 7 (x + 4) 6) ≤ 121 := o_v8.1 rfl
      refine y_iret hK rfl dX5_back_55 ?_
      have hM : bkM σ x = (etM (cpM σ (x + 4) (σ 7 (x + 4) 0)) (σ 7 (x + 4) 0)) := by
        exact if_pos (by omega)
      rw [hM] at k
      have hR : bkR σ x = (σ 7 (x + 4) 6) := by
        exact if_pos (by omega)
      rw [hR] at k
      exact k
    · refine r_iconst hC dX5_back_21 rfl ?_
      refine y_iret hK rfl dX5_back_22 ?_
      have hM : bkM σ x = σ := by
        exact if_neg (by omega)
      rw [hM] at k
      have hR : bkR σ x = (-1) := by
        exact if_neg (by omega)
      rw [hR] at k
      exact k
  · refine r_if_eq (tgt := 21) hC dX5_back_6 rfl (fun h9 => ?_) (fun h9 => by omega)
    refine r_iconst hC dX5_back_21 rfl ?_
    refine y_iret hK rfl dX5_back_22 ?_
    have hM : bkM σ x = σ := by
      exact if_neg (by omega)
    rw [hM] at k
    have hR : bkR σ x = (-1) := by
      exact if_neg (by omega)
    rw [hR] at k
    exact k
theorem x_isLinkedTo {e : Ev} {d : Nat} {P : Option Vl → Mm → Prop} {σ : Mm} {l : Int}   (k1 : ¬ (∀ j : Int, 0 ≤ j → j < 4 → σ 13 j 0 ≠ l) → P (some (vI 1)) σ) (k0 : (∀ j : Int, 0 ≤ j → j < 4 → σ 13 j 0 ≠ l) → P (some (vI 0)) σ) : WT e (d + 1) 107 [vR 2 0, vI l] σ P := by
  refine WT_in fun K hK => ?_
  have hK : StpY e cX5_isLinkedTo RX5 (some .boolean) (WT e (d + 0)) P K := hK
  have hM := hK.1
  have hC := hK.1.1
  show K 0 [some (vR 2 0), some (vI l), none] [] σ
  refine r_rngz hC (fun g0 => ?_)
  have r_l : -2147483648 ≤ l ∧ l ≤ 2147483647 := inR_le (g0 (vI l) (by simp))
  refine r_iconst hC dX5_isLinkedTo_0 rfl ?_
  refine r_istore_n hC dX5_isLinkedTo_1 rfl ?_
  have L2 : ∀ (n2 : Nat) (w1 : Int), 0 ≤ w1 ∧ w1 ≤ 4 → (∀ j : Int, 0 ≤ j → j < (w1) → σ 13 j 0 ≠ l) → 4 - w1 < (n2 : Int) → K 2 [some (vR 2 0), some (vI l), some (vI w1)] [] σ := by
    intro n2
    induction n2 with
    | zero => intro w1  f_w1 i0_2 hm  ; omega
    | succ n2 ih2 =>
      intro w1  f_w1 i0_2 hm2  
      refine r_iload_n hC dX5_isLinkedTo_2 rfl ?_
      refine r_iconst hC dX5_isLinkedTo_3 rfl ?_
      refine r_icmp_ge (tgt := 28) hC dX5_isLinkedTo_4 rfl (fun h2 => ?_) (fun h2 => ?_)
      · refine r_iconst hC dX5_isLinkedTo_28 rfl ?_
        refine y_zret hK rfl dX5_isLinkedTo_29 (by omega) ?_
        exact k0 (fun j h0 h1 => i0_2 j h0 (by omega))
      · refine r_aload_n hC dX5_isLinkedTo_7 rfl ?_
        refine z_getR hM dX5_isLinkedTo_8 fl_RX5_19 rfl rfl (vld_of (n := 1) rfl (by omega) (by omega)) ?_
        refine r_iload_n hC dX5_isLinkedTo_11 rfl ?_
        refine z_aald hM dX5_isLinkedTo_12 rfl (by decide) (by omega) (by omega) (vld_of (n := 4) rfl (by omega) (by omega)) ?_
        refine z_getI (jz := 0) hM dX5_isLinkedTo_13 fl_RX5_215 rfl rfl rfl (fun v3 h_v3 o_v3 t_v3 => ?_)
        have w_v3 := ((t_v3 (Or.inl (by simp [Tb]))).trans (rfl)).symm
        subst w_v3
        refine r_iload_n hC dX5_isLinkedTo_16 rfl ?_
        refine r_icmp_ne (tgt := 22) hC dX5_isLinkedTo_17 rfl (fun h4 => ?_) (fun h4 => ?_)
        · refine r_iincE hC ((w1 + 1)) dX5_isLinkedTo_22 rfl rfl (by omega) (by unfold inR; omega) ?_
          refine r_goto (tgt := 2) hC dX5_isLinkedTo_25 rfl ?_
          exact ih2 ((w1 + 1))  (by omega) (by first | (intro j h0 h1; omega) | (intro j h0 h1; rcases (by omega : j < w1 ∨ j = w1) with h | h; exact i0_2 j h0 h; subst h; assumption)) (by omega)  
        · refine r_iconst hC dX5_isLinkedTo_20 rfl ?_
          refine y_zret hK rfl dX5_isLinkedTo_21 (by omega) ?_
          exact k1 (fun q => by have := q w1 (by omega) (by omega); omega)
  exact L2 6 (0)  (by omega) (by first | (intro j h0 h1; omega) | (intro j h0 h1; rcases (by omega : j < w1 ∨ j = w1) with h | h; exact i0_2 j h0 h; subst h; assumption)) (by omega)  
theorem x_Lbegin {e : Ev} {d : Nat} {P : Option Vl → Mm → Prop} {σ : Mm} {l o z w : Int} (b_l : 0 ≤ l ∧ l ≤ 3) (b_o : -1 ≤ o ∧ o ≤ 3)  (k : P none (lkM σ l o z w)) : WT e (d + 1) 39 [vR 13 l, vI o, vI z, vI w] σ P := by
  refine WT_in fun K hK => ?_
  have hK : StpY e cX3_begin RX3 (none) (WT e (d + 0)) P K := hK
  have hM := hK.1
  have hC := hK.1.1
  show K 0 [some (vR 13 l), some (vI o), some (vI z), some (vI w)] [] σ
  refine r_rngz hC (fun g0 => ?_)
  have r_z : -2147483648 ≤ z ∧ z ≤ 2147483647 := inR_le (g0 (vI z) (by simp))
  have r_w : -2147483648 ≤ w ∧ w ≤ 2147483647 := inR_le (g0 (vI w) (by simp))
  refine r_aload_n hC dX3_begin_0 rfl ?_
  refine r_iload_n hC dX3_begin_1 rfl ?_
  refine z_putIT (jz := 0) hM dX3_begin_2 fw_RX3_9 rfl rfl rfl ⟨Or.inr (by simp [DL]), Or.inr (by simp [DF])⟩ (by first | trivial | (simp only [Okv]; omega) | (simp [Okv]; try omega)) ?_
  refine r_aload_n hC dX3_begin_5 rfl ?_
  refine r_iload_n hC dX3_begin_6 rfl ?_
  refine z_putIT (jz := 1) hM dX3_begin_7 fw_RX3_15 rfl rfl rfl ⟨Or.inr (by simp [DL]), Or.inr (by simp [DF])⟩ (by first | trivial | (simp only [Okv]; omega) | (simp [Okv]; try omega)) ?_
  refine r_aload_n hC dX3_begin_10 rfl ?_
  refine r_iload_n hC dX3_begin_11 rfl ?_
  refine z_putIT (jz := 2) hM dX3_begin_12 fw_RX3_18 rfl rfl rfl ⟨Or.inr (by simp [DL]), Or.inr (by simp [DF])⟩ (by first | trivial | (simp only [Okv]; omega) | (simp [Okv]; try omega)) ?_
  refine r_aload_n hC dX3_begin_15 rfl ?_
  refine r_iconst hC dX3_begin_16 rfl ?_
  refine z_putIT (jz := 3) hM dX3_begin_17 fw_RX3_21 rfl rfl rfl ⟨Or.inr (by simp [DL]), Or.inr (by simp [DF])⟩ (by first | trivial | (simp only [Okv]; omega) | (simp [Okv]; try omega)) ?_
  refine y_vret hK rfl dX3_begin_20 ?_
  exact k
theorem x_link {ec : Bool} {d : Nat} {P : Option Vl → Mm → Prop} {σ : Mm} {l o z w : Int}   (k1 : lkC σ l o z w → P (some (vI 1)) (lkM σ l o z w)) (k0 : ¬ lkC σ l o z w → P (some (vI 0)) σ) : WT (true, false, ec) (d + 5) 104 [vR 2 0, vI l, vI o, vI z, vI w] σ P := by
  refine WT_in fun K hK => ?_
  have hK : StpY (true, false, ec) cX5_link RX5 (some .boolean) (WT (true, false, ec) (d + 4)) P K := hK
  have hM := hK.1
  have hC := hK.1.1
  show K 0 [some (vR 2 0), some (vI l), some (vI o), some (vI z), some (vI w), none] [] σ
  refine r_rngz hC (fun g0 => ?_)
  have r_l : -2147483648 ≤ l ∧ l ≤ 2147483647 := inR_le (g0 (vI l) (by simp))
  have r_o : -2147483648 ≤ o ∧ o ≤ 2147483647 := inR_le (g0 (vI o) (by simp))
  have r_z : -2147483648 ≤ z ∧ z ≤ 2147483647 := inR_le (g0 (vI z) (by simp))
  have r_w : -2147483648 ≤ w ∧ w ≤ 2147483647 := inR_le (g0 (vI w) (by simp))
  refine r_aload_n hC dX5_link_0 rfl ?_
  refine r_iload_n hC dX5_link_1 rfl ?_
  refine r_iload hC dX5_link_2 rfl ?_
  refine z_inv2 hM dX5_link_4 vl_RX5_248 rfl rfl rfl (Nat.le_of_ble_eq_true rfl) (Nat.le_of_ble_eq_true rfl) ?_
  refine x_laneWith (fun h1 => ?_) (fun h1 => ?_)
  · refine r_astore hC dX5_link_7 rfl ?_
    refine r_aload hC dX5_link_9 rfl ?_
    refine r_ifnullR hC dX5_link_11 ?_
    refine r_aload_n hC dX5_link_14 rfl ?_
    refine r_iload_n hC dX5_link_15 rfl ?_
    refine z_inv1 hM dX5_link_16 vl_RX5_123 rfl rfl rfl (Nat.le_of_ble_eq_true rfl) (Nat.le_of_ble_eq_true rfl) ?_
    refine x_openLane (fun h2 => ?_) (fun h2 => ?_)
    · -- h2
      refine r_ifnullR hC dX5_link_19 ?_
      refine r_iload_n hC dX5_link_22 rfl ?_
      refine r_iload_n hC dX5_link_23 rfl ?_
      refine r_icmp_eq (tgt := 34) hC dX5_link_24 rfl (fun h3 => ?_) (fun h3 => ?_)
      · refine r_iconst hC dX5_link_34 rfl ?_
        refine y_zret hK rfl dX5_link_35 (by omega) ?_
        exact k0 (fun q => by have q1 := q.1; have q2 := q.2.1; have q3 := q.2.2.1; have q4 := q.2.2.2.1; have q5 := q.2.2.2.2.1; have q6 := q.2.2.2.2.2; first | omega | exact hlk q6)
      · refine r_iload_n hC dX5_link_27 rfl ?_
        refine z_ins1 hM dX5_link_28 tl_RX5_285 rfl (Nat.le_of_ble_eq_true rfl) (Nat.le_of_ble_eq_true rfl) ?_
        refine s_isGap (fun h5 => ?_) (fun h5 => ?_)
        · refine r_if_ne (tgt := 36) hC dX5_link_31 rfl (fun h6 => ?_) (fun h6 => by omega)
          refine r_aload_n hC dX5_link_36 rfl ?_
          refine z_getR hM dX5_link_37 fl_RX5_19 rfl rfl (vld_of (n := 1) rfl (by omega) (by omega)) ?_
          refine r_iload_n hC dX5_link_40 rfl ?_
          refine z_aald hM dX5_link_41 rfl (by decide) (by omega) (by omega) (vld_of (n := 4) rfl (by omega) (by omega)) ?_
          refine z_getI (jz := 0) hM dX5_link_42 fl_RX5_215 rfl rfl rfl (fun v7 h_v7 o_v7 t_v7 => ?_)
          have w_v7 := ((t_v7 (Or.inl (by simp [Tb]))).trans (rfl)).symm
          subst w_v7
          refine r_iconst hC dX5_link_45 rfl ?_
          refine r_icmp_ne (tgt := 57) hC dX5_link_46 rfl (fun h8 => ?_) (fun h8 => ?_)
          · refine r_iconst hC dX5_link_57 rfl ?_
            refine y_zret hK rfl dX5_link_58 (by omega) ?_
            exact k0 (fun q => by have q1 := q.1; have q2 := q.2.1; have q3 := q.2.2.1; have q4 := q.2.2.2.1; have q5 := q.2.2.2.2.1; have q6 := q.2.2.2.2.2; first | omega | exact hlk q6)
          · refine r_aload_n hC dX5_link_49 rfl ?_
            refine r_iload_n hC dX5_link_50 rfl ?_
            refine z_inv1 hM dX5_link_51 vl_RX5_335 rfl rfl rfl (Nat.le_of_ble_eq_true rfl) (Nat.le_of_ble_eq_true rfl) ?_
            refine x_isLinkedTo (fun hlk => ?_) (fun hlk => ?_)
            · refine r_if_eq (tgt := 59) hC dX5_link_54 rfl (fun h9 => by omega) (fun h9 => ?_)
              refine r_iconst hC dX5_link_57 rfl ?_
              refine y_zret hK rfl dX5_link_58 (by omega) ?_
              exact k0 (fun q => by have q1 := q.1; have q2 := q.2.1; have q3 := q.2.2.1; have q4 := q.2.2.2.1; have q5 := q.2.2.2.2.1; have q6 := q.2.2.2.2.2; first | omega | exact hlk q6)
            · refine r_if_eq (tgt := 59) hC dX5_link_54 rfl (fun h10 => ?_) (fun h10 => by omega)
              refine r_aload_n hC dX5_link_59 rfl ?_
              refine z_getR hM dX5_link_60 fl_RX5_19 rfl rfl (vld_of (n := 1) rfl (by omega) (by omega)) ?_
              refine r_iload_n hC dX5_link_63 rfl ?_
              refine z_aald hM dX5_link_64 rfl (by decide) (by omega) (by omega) (vld_of (n := 4) rfl (by omega) (by omega)) ?_
              refine r_iload_n hC dX5_link_65 rfl ?_
              refine r_iload_n hC dX5_link_66 rfl ?_
              refine r_iload hC dX5_link_67 rfl ?_
              refine z_inv3 hM dX5_link_69 vl_RX5_338 rfl rfl rfl (Nat.le_of_ble_eq_true rfl) (Nat.le_of_ble_eq_true rfl) ?_
              refine x_Lbegin (by omega) (by omega) ?_
              refine r_iconst hC dX5_link_72 rfl ?_
              refine y_zret hK rfl dX5_link_73 (by omega) ?_
              exact k1 ⟨by omega, by omega, by omega, by omega, by omega, hlk⟩
        · refine r_if_ne (tgt := 36) hC dX5_link_31 rfl (fun h11 => by omega) (fun h11 => ?_)
          refine r_iconst hC dX5_link_34 rfl ?_
          refine y_zret hK rfl dX5_link_35 (by omega) ?_
          exact k0 (fun q => by have q1 := q.1; have q2 := q.2.1; have q3 := q.2.2.1; have q4 := q.2.2.2.1; have q5 := q.2.2.2.2.1; have q6 := q.2.2.2.2.2; first | omega | exact hlk q6)
    · -- h2
      refine r_ifnullN (tgt := 34) hC dX5_link_19 rfl ?_
      refine r_iconst hC dX5_link_34 rfl ?_
      refine y_zret hK rfl dX5_link_35 (by omega) ?_
      exact k0 (fun q => by have q1 := q.1; have q2 := q.2.1; have q3 := q.2.2.1; have q4 := q.2.2.2.1; have q5 := q.2.2.2.2.1; have q6 := q.2.2.2.2.2; first | omega | exact hlk q6)
  · refine r_astoreN hC dX5_link_7 rfl ?_
    refine r_aloadN hC dX5_link_9 rfl ?_
    refine r_ifnullN (tgt := 34) hC dX5_link_11 rfl ?_
    refine r_iconst hC dX5_link_34 rfl ?_
    refine y_zret hK rfl dX5_link_35 (by omega) ?_
    exact k0 (fun q => by have q1 := q.1; have q2 := q.2.1; have q3 := q.2.2.1; have q4 := q.2.2.2.1; have q5 := q.2.2.2.2.1; have q6 := q.2.2.2.2.2; first | omega | exact hlk q6)
theorem x_unlink {ec : Bool} {d : Nat} {P : Option Vl → Mm → Prop} {σ : Mm} {l : Int}   (k : P (some (vI (ulR σ l))) (ulM σ l)) : WT (true, false, ec) (d + 3) 105 [vR 2 0, vI l] σ P := by
  refine WT_in fun K hK => ?_
  have hK : StpY (true, false, ec) cX5_unlink RX5 (some .boolean) (WT (true, false, ec) (d + 2)) P K := hK
  have hM := hK.1
  have hC := hK.1.1
  show K 0 [some (vR 2 0), some (vI l)] [] σ
  refine r_rngz hC (fun g0 => ?_)
  have r_l : -2147483648 ≤ l ∧ l ≤ 2147483647 := inR_le (g0 (vI l) (by simp))
  refine r_iload_n hC dX5_unlink_0 rfl ?_
  refine z_ins1 hM dX5_unlink_1 tl_RX5_102 rfl (Nat.le_of_ble_eq_true rfl) (Nat.le_of_ble_eq_true rfl) ?_
  refine s_isLane (fun h2 => ?_) (fun h2 => ?_)
  · refine r_if_eq (tgt := 20) hC dX5_unlink_4 rfl (fun h3 => by omega) (fun h3 => ?_)
    refine r_aload_n hC dX5_unlink_7 rfl ?_
    refine z_getR hM dX5_unlink_8 fl_RX5_19 rfl rfl (vld_of (n := 1) rfl (by omega) (by omega)) ?_
    refine r_iload_n hC dX5_unlink_11 rfl ?_
    refine z_aald hM dX5_unlink_12 rfl (by decide) (by omega) (by omega) (vld_of (n := 4) rfl (by omega) (by omega)) ?_
    refine z_getI (jz := 0) hM dX5_unlink_13 fl_RX5_215 rfl rfl rfl (fun v4 h_v4 o_v4 t_v4 => ?_)
    have w_v4 := ((t_v4 (Or.inl (by simp [Tb]))).trans (rfl)).symm
    subst w_v4
    refine r_iconst hC dX5_unlink_16 rfl ?_
    refine r_icmp_ne (tgt := 22) hC dX5_unlink_17 rfl (fun h5 => ?_) (fun h5 => ?_)
    · refine r_aload_n hC dX5_unlink_22 rfl ?_
      refine z_getR hM dX5_unlink_23 fl_RX5_19 rfl rfl (vld_of (n := 1) rfl (by omega) (by omega)) ?_
      refine r_iload_n hC dX5_unlink_26 rfl ?_
      refine z_aald hM dX5_unlink_27 rfl (by decide) (by omega) (by omega) (vld_of (n := 4) rfl (by omega) (by omega)) ?_
      refine z_inv0 hM dX5_unlink_28 vl_RX5_340 rfl rfl rfl (Nat.le_of_ble_eq_true rfl) (Nat.le_of_ble_eq_true rfl) ?_
      refine x_lend (by omega) ?_
      refine r_iconst hC dX5_unlink_31 rfl ?_
      refine y_zret hK rfl dX5_unlink_32 (by omega) ?_
      have hM : ulM σ l = (mu σ 13 l 0 (-1)) := by
        exact if_pos (by omega)
      rw [hM] at k
      have hR : ulR σ l = 1 := by
        exact if_pos (by omega)
      rw [hR] at k
      exact k
    · refine r_iconst hC dX5_unlink_20 rfl ?_
      refine y_zret hK rfl dX5_unlink_21 (by omega) ?_
      have hM : ulM σ l = σ := by
        exact if_neg (by omega)
      rw [hM] at k
      have hR : ulR σ l = 0 := by
        exact if_neg (by omega)
      rw [hR] at k
      exact k
  · refine r_if_eq (tgt := 20) hC dX5_unlink_4 rfl (fun h6 => ?_) (fun h6 => by omega)
    refine r_iconst hC dX5_unlink_20 rfl ?_
    refine y_zret hK rfl dX5_unlink_21 (by omega) ?_
    have hM : ulM σ l = σ := by
      exact if_neg (by omega)
    rw [hM] at k
    have hR : ulR σ l = 0 := by
      exact if_neg (by omega)
    rw [hR] at k
    exact k
