-- B: what ties both sides between calls
abbrev eT : Ev := (true, false, false)
def RB (S0 : Int → Int → Int) (σ : Mm) : Prop := (∀ i j : Int, σ 0 i j = S0 i j) ∧ GI σ ∧ RS 6 σ σ σ
theorem RB.hl {S0 : Int → Int → Int} {σ : Mm} (h : RB S0 σ) : HL σ := fun i a b => h.2.1.1.h7 a b
theorem RB.hm {S0 : Int → Int → Int} {σ : Mm} (h : RB S0 σ) : HM σ := fun l a b => by
  rw [h.2.2.1.a7 (s := 6) (f := 5) a (by omega) (by omega)]
  exact h.2.1.1.h7 a (by omega)
theorem RB.hh {S0 : Int → Int → Int} {σ : Mm} (h : RB S0 σ) : ∀ l : Int, 0 ≤ l → l ≤ 3 → 0 ≤ σ 7 l 6 ∧ σ 7 l 6 ≤ 120 := fun l a b => h.2.1.1.h7 a (by omega)
theorem tk31 {l f : Int} (h0 : 0 ≤ l) (h1 : l ≤ 6) (hf : 0 ≤ f ∧ f ≤ 20 ∧ f ≠ 7) : Tk eT 31 (22 * l + f) := Or.inl (by simp only [Tb]; omega)
theorem RS.tk {σ0 V ρ ρ2 : Mm} (h : RS 6 σ0 V ρ) (e : ∀ (c : Nat) (i j : Int), Tk eT c j → ρ2 c i j = ρ c i j) : RS 6 ρ2 V ρ2 := by
  obtain ⟨⟨q1, q2, q3, q4, q5, q6, q7, q8⟩, k, f⟩ := h
  have e31 : ∀ (l g : Int), 0 ≤ l → l ≤ 6 → 0 ≤ g ∧ g ≤ 20 ∧ g ≠ 7 → ρ2 31 0 (22 * l + g) = ρ 31 0 (22 * l + g) := fun l g a b c => e 31 0 _ (tk31 a b c)
  refine ⟨⟨fun m u g x y z => ?_, fun m u g x y z => ?_, fun m u x y z w => ?_, fun w x y => ?_, fun w x y => ?_, fun w x y => ?_, fun w x y => ?_, fun c x y z => rfl⟩, fun l a b => ?_, fun l a b c => ?_⟩
  · rw [e31 m g x y (by unfold P7 at z; omega)]; exact q1 m u g x y z
  · rw [e31 m g x y (by unfold P11 at z; omega)]; exact q2 m u g x y z
  · rw [e 32 0 _ (Or.inl trivial), e 33 0 _ (Or.inl trivial), e 34 0 _ (Or.inl trivial)]; exact q3 m u x y z w
  · rw [e 39 0 w (Or.inl trivial), e 40 0 w (Or.inl trivial), e 41 0 w (Or.inl trivial), e 42 0 w (Or.inl trivial), e 43 0 w (Or.inl trivial), e 44 0 w (Or.inl trivial)]; exact q4 w x y
  · rw [e 45 0 w (Or.inl trivial), e 46 0 w (Or.inl trivial), e 47 0 w (Or.inl trivial), e 48 0 w (Or.inl trivial)]; exact q5 w x y
  · rw [e 35 0 w (Or.inl trivial)]; exact q6 w x y
  · rw [e 36 0 w (Or.inl trivial)]; exact q7 w x y
  · rw [e31 l 16 a b (by omega), e31 l 17 a b (by omega)]; exact k l a b
  · rw [e 31 0 (22 * l + 21) (Or.inl (by simp only [Tb]; omega))]; exact f l a b c
theorem RS.cl {σ0 V ρ ρ2 : Mm} (h : RS 6 σ0 V ρ) (e : ∀ (c : Nat) (x y : Int), 30 ≤ c → ρ2 c x y = ρ c x y) : RS 6 ρ2 V ρ2 := by
  refine ⟨?_, fun l a b => by rw [e 31 0 _ (by decide), e 31 0 _ (by decide)]; exact h.2.1 l a b, fun l a b c => by rw [e 31 0 _ (by decide)]; exact h.2.2 l a b c⟩
  obtain ⟨⟨q1, q2, q3, q4, q5, q6, q7, q8⟩, k, f⟩ := h
  refine ⟨fun m u g x y z => ?_, fun m u g x y z => ?_, fun m u x y z w => ?_, fun w x y => ?_, fun w x y => ?_, fun w x y => ?_, fun w x y => ?_, fun c x y z => rfl⟩
  · rw [e 31 _ _ (by decide)]; exact q1 m u g x y z
  · rw [e 31 _ _ (by decide)]; exact q2 m u g x y z
  · rw [e 32 _ _ (by decide), e 33 _ _ (by decide), e 34 _ _ (by decide)]; exact q3 m u x y z w
  · rw [e 39 _ _ (by decide), e 40 _ _ (by decide), e 41 _ _ (by decide), e 42 _ _ (by decide), e 43 _ _ (by decide), e 44 _ _ (by decide)]; exact q4 w x y
  · rw [e 45 _ _ (by decide), e 46 _ _ (by decide), e 47 _ _ (by decide), e 48 _ _ (by decide)]; exact q5 w x y
  · rw [e 35 _ _ (by decide)]; exact q6 w x y
  · rw [e 36 _ _ (by decide)]; exact q7 w x y
/-- the class's places in other words -/
theorem RS.vt {σ0 V W ρ : Mm} (h : RS 6 σ0 V ρ) (e : ∀ (c : Nat) (x y : Int), c < 30 → Tb c y → ¬ (c = 11 ∧ x = 7) → W c x y = V c x y) : RS 6 ρ W ρ := by
  obtain ⟨⟨q1, q2, q3, q4, q5, q6, q7, q8⟩, k, f⟩ := h
  have t7 : ∀ y : Int, y ≠ 11 → Tb 7 y := fun y z => z
  refine ⟨⟨fun m u g x y z => ?_, fun m u g x y z => ?_, fun m u x y z w => ?_, fun w x y => ?_, fun w x y => ?_, fun w x y => ?_, fun w x y => ?_, fun c x y z => rfl⟩, fun l a b => ?_, fun l a b c => ?_⟩
  · rw [e 7 m u (by decide) (t7 u (by unfold P7 at z; omega)) (by omega)]; exact q1 m u g x y z
  · rw [e 11 m u (by decide) trivial (by omega)]; exact q2 m u g x y z
  · rw [e 8 m u (by decide) trivial (by omega), e 9 m u (by decide) trivial (by omega), e 10 m u (by decide) trivial (by omega)]; exact q3 m u x y z w
  · rw [e 12 w 0 (by decide) trivial (by omega), e 12 w 1 (by decide) trivial (by omega), e 12 w 2 (by decide) trivial (by omega), e 12 w 3 (by decide) trivial (by omega), e 12 w 4 (by decide) trivial (by omega), e 12 w 5 (by decide) trivial (by omega)]; exact q4 w x y
  · rw [e 13 w 0 (by decide) trivial (by omega), e 13 w 1 (by decide) trivial (by omega), e 13 w 2 (by decide) trivial (by omega), e 13 w 3 (by decide) trivial (by omega)]; exact q5 w x y
  · rw [e 15 0 w (by decide) trivial (by omega)]; exact q6 w x y
  · rw [e 16 0 w (by decide) trivial (by omega)]; exact q7 w x y
  · rw [e 11 l 3 (by decide) trivial (by omega)]; exact k l a b
  · rw [e 7 l 1 (by decide) (t7 1 (by omega)) (by omega)] at c
    rw [e 7 l 0 (by decide) (t7 0 (by omega)) (by omega)]; exact f l a b c
theorem GI.tk {V W : Mm} (h : GI V) (e : ∀ (c : Nat) (x y : Int), c < 30 → Tb c y → ¬ (c = 11 ∧ x = 7) → W c x y = V c x y) : GI W := by
  have t7 : ∀ x y : Int, y ≠ 11 → W 7 x y = V 7 x y := fun x y z => e 7 x y (by decide) z (by omega)
  have t8 : ∀ x y : Int, W 8 x y = V 8 x y := fun x y => e 8 x y (by decide) trivial (by omega)
  have t9 : ∀ x y : Int, W 9 x y = V 9 x y := fun x y => e 9 x y (by decide) trivial (by omega)
  have t12 : ∀ x y : Int, W 12 x y = V 12 x y := fun x y => e 12 x y (by decide) trivial (by omega)
  have t13 : ∀ x y : Int, W 13 x y = V 13 x y := fun x y => e 13 x y (by decide) trivial (by omega)
  have t15 : ∀ x y : Int, W 15 x y = V 15 x y := fun x y => e 15 x y (by decide) trivial (by omega)
  obtain ⟨⟨c1, c2, c3, c4⟩, hj, hm⟩ := h
  refine ⟨⟨fun l a b => ?_, fun l a b => ?_, fun l a b => ?_, fun l a b => ?_⟩, hj.to (fun c x y q => ?_), fun l a b => ?_⟩
  · rw [t7 l 0 (by omega)]; exact c1 l a b
  · rw [t7 l 6 (by omega), show W 11 l = V 11 l from funext fun y => e 11 l y (by decide) trivial (by omega)]; exact c2 l a b
  · rw [t7 l 3 (by omega), t7 l 4 (by omega), t7 l 6 (by omega)]; exact c3 l a b
  · rw [t13]; exact c4 l a b
  · rcases q with q | q
    · rcases q with ⟨rfl, q⟩ | ⟨rfl, q⟩ | ⟨rfl, q⟩ | rfl
      · exact t7 x y (by omega)
      · exact t13 x y
      · exact t12 x y
      · exact t15 x y
    · rcases q with rfl | rfl | ⟨rfl, q⟩
      · exact t8 x y
      · exact t9 x y
      · exact t7 x y (by omega)
  · rw [t7 l 6 (by omega), t7 l 15 (by omega)]; exact hm l a b
/-- behind both calls -/
theorem RB.mk {S0 : Int → Int → Int} {V ρ1 ρ2 ρ3 : Mm} (h0 : ∀ i j : Int, ρ1 0 i j = S0 i j) (hG : GI ρ1) (e2 : ∀ (c : Nat) (i j : Int), Tk eT c j → ρ2 c i j = ρ1 c i j) (h : RS 6 ρ2 V ρ3) (hV : ∀ (c : Nat) (x y : Int), c < 30 → Tb c y → ¬ (c = 11 ∧ x = 7) → ρ1 c x y = V c x y) : RB S0 ρ3 := by
  have k : ∀ (c : Nat) (x y : Int), c < 30 → Tb c y → ρ3 c x y = ρ1 c x y := fun c x y a b => (h.1.cl x y a).trans (e2 c x y (Or.inl b))
  exact ⟨fun i j => (k 0 i j (by decide) trivial).trans (h0 i j), hG.tk (fun c x y a b _ => k c x y a b), h.vt (fun c x y a b z => (k c x y a b).trans (hV c x y a b z))⟩
-- what a call leaves as it is
abbrev Fz (c : Nat) : Prop := c = 0 ∨ 30 ≤ c
theorem nt_fz {V : Mm} {c : Nat} {x y : Int} (h : Fz c) : ntM V c x y = V c x y := if_neg (by omega)
theorem gv_fz {V : Mm} {i t : Int} {c : Nat} {x y : Int} (h : Fz c) : gvM V i t c x y = V c x y := gvM_nx (by unfold PS; omega) (by omega)
theorem pl_fz {V : Mm} {i t v : Int} {c : Nat} {x y : Int} (h : Fz c) : plM V i t v c x y = V c x y := plM_nx (by unfold PS; omega)
theorem co_fz {V : Mm} {l t v : Int} {c : Nat} {x y : Int} (h : Fz c) : coM V l t v c x y = V c x y := by
  unfold coM
  split
  · rw [nt_fz h, pl_fz h, gv_fz h]
  · rfl
theorem bst_fz {l s : Int} {c : Nat} {x y : Int} (h : Fz c) : ∀ (n : Nat) (v : Int) (V : Mm), bst l s n v V c x y = V c x y
  | 0, _, _ => rfl
  | n + 1, v, V => by rw [bst_s, bst_fz h n, pl_fz h, gv_fz h]
theorem bu_fz {V : Mm} {l m v s : Int} {c : Nat} {x y : Int} (h : Fz c) : buM V l m v s c x y = V c x y := by
  unfold buM
  split
  · rw [nt_fz h, bst_fz h]
  · rfl
theorem le_fz {V : Mm} {l m : Int} {c : Nat} {x y : Int} (h : Fz c) : leM V l m c x y = V c x y := by
  unfold leM
  split
  · exact dpN_nx (by unfold PS; omega) _ _
  · rfl
theorem un_fz {V : Mm} {l t : Int} {c : Nat} {x y : Int} (h : Fz c) : unM V l t c x y = V c x y := by
  unfold unM
  split
  · exact dpN_nx (by unfold PS; omega) _ _
  · rfl
theorem ta_fz {V : Mm} {l z : Int} {c : Nat} {x y : Int} (h : Fz c) : taM V l z c x y = V c x y := by
  unfold taM
  split
  · rw [rgM_ne (by omega), lyM_ne (by omega), remM_ne (by omega)]
  · rfl
theorem al_fz {V : Mm} {l z v : Int} {c : Nat} {x y : Int} (h : Fz c) : alM V l z v c x y = V c x y := by
  unfold alM
  split
  · rw [rgM_ne (by omega), lyM_ne (by omega), mu_ne (by omega)]
  · rfl
theorem on_fz {V : Mm} {l o b z s : Int} {c : Nat} {x y : Int} (h : Fz c) : onM V l o b z s c x y = V c x y := by
  unfold onM
  split
  · rw [etM_ne (by omega)]
    unfold bgM
    by_cases hx : x = l
    · rw [if_pos hx, if_neg (by omega), if_neg (by omega)]
    · rw [if_neg hx]
  · rfl
theorem sh_fz {V : Mm} {l : Int} {c : Nat} {x y : Int} (h : Fz c) : shM V l c x y = V c x y := by
  unfold shM
  split
  · rw [etM_ne (by omega), mu_ne (by omega)]
  · rfl
theorem cp_fz {V : Mm} {a b : Int} {c : Nat} {x y : Int} (h : Fz c) : cpM V a b c x y = V c x y := by
  unfold cpM
  by_cases hx : x = b
  · rw [if_pos hx, if_neg (by omega), if_neg (by omega), if_neg (by omega)]
  · rw [if_neg hx]
theorem kp_fz {V : Mm} {l z : Int} {c : Nat} {x y : Int} (h : Fz c) : kpM V l z c x y = V c x y := by
  unfold kpM
  split
  · exact cp_fz h
  · rfl
theorem bk_fz {V : Mm} {z : Int} {c : Nat} {x y : Int} (h : Fz c) : bkM V z c x y = V c x y := by
  unfold bkM
  split
  · rw [etM_ne (by omega), cp_fz h]
  · rfl
theorem wt_fz {V : Mm} {v l w b : Int} {c : Nat} {x y : Int} (h : Fz c) : wtM V v l w b c x y = V c x y := by
  unfold wtM
  split
  · rw [mu_ne (by omega), mu_ne (by omega), mu_ne (by omega), mu_ne (by omega), mu_ne (by omega), mu_ne (by omega)]
  · rfl
theorem ul_fz {V : Mm} {l : Int} {c : Nat} {x y : Int} (h : Fz c) : ulM V l c x y = V c x y := by
  unfold ulM
  split
  · rw [mu_ne (by omega)]
  · rfl
theorem lk_fz {V : Mm} {l o z w : Int} {c : Nat} {x y : Int} (h : Fz c) : lkM V l o z w c x y = V c x y := by
  unfold lkM
  rw [mu_ne (by omega), mu_ne (by omega), mu_ne (by omega), mu_ne (by omega)]
