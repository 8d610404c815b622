-- what ties class and reference, in tracked places alone
abbrev eF : Ev := (false, false, false)
def Gb (S : Nat → Int → Int → Prop) (σ ρ : Mm) : Prop := ∀ (c : Nat) (x y : Int), Tb c y → ¬ S c x y → ρ c x y = σ c x y
theorem WT.mono {e : Ev} {d M : Nat} {as : List Vl} {σ : Mm} {P P2 : Option Vl → Mm → Prop} (h : ∀ r ρ, P r ρ → P2 r ρ) (q : WT e d M as σ P) : WT e d M as σ P2 := fun τ hA => WP.mono (fun r τ2 hp => by obtain ⟨σ2, g1, g2⟩ := hp; exact ⟨σ2, h _ _ g1, g2⟩) _ _ _ _ (q τ hA)
theorem WT_lw {d M : Nat} {as : List Vl} {σ : Mm} {P : Option Vl → Mm → Prop} (h : ∀ ρ : Mm, InL ρ → (∀ (c : Nat) (i j : Int), Tb c j → ρ c i j = σ c i j) → (∀ (c : Nat) (i j : Int), Okv c j (ρ c i j)) → WT (true, false, false) d M as ρ (fun r ρ2 => (InL ρ2 ∧ P r ρ2) ∨ (ρ2 = ρ ∧ P r σ))) : WT eF d M as σ P := by
  refine WT_loose (true, false, false) (fun h => by cases h) (fun h => h) (fun c j q => ?_) (fun ρ hL hF hT hO => ?_)
  · rcases q with q | q | q | q
    · exact Or.inl q
    · cases q.1
    · cases q.1
    · exact Or.inr (Or.inr (Or.inr q))
  · refine WT.mono (fun r ρ2 hp => ?_) (h ρ (hL rfl) (fun c i j q => hT c i j (Or.inl q)) hO)
    rcases hp with ⟨h1, h2⟩ | ⟨rfl, h2⟩
    · exact ⟨ρ2, h2, fun _ => Or.inr h1, fun h => Or.inl h, fun _ _ _ _ => rfl⟩
    · exact ⟨σ, h2, fun _ => Or.inr (hL rfl), fun h => Or.inl h, fun c i j q => hT c i j q⟩
theorem Gb.of {S T : Nat → Int → Int → Prop} {σ ρ ρ2 : Mm} (hT : ∀ (c : Nat) (i j : Int), Tb c j → ρ c i j = σ c i j) (g : Gx T ρ ρ2) (hs : ∀ c x y, Tb c y → T c x y → S c x y) : Gb S σ ρ2 := fun c x y hb hn => (g c x y (fun t => hn (hs c x y hb t))).trans (hT c x y hb)
theorem pr_c {k : Nat} {σ ρ : Mm} (h : ∀ j : Int, ρ k 0 j = σ k 0 j) : pr k ρ = pr k σ := by
  funext x y; exact h _
theorem asc_c {k : Nat} {σ ρ : Mm} (h : ∀ j : Int, ρ k 0 j = σ k 0 j) : asc k ρ = asc k σ := by
  funext t; unfold asc; rw [pr_c h]
theorem cnt_c {k : Nat} {σ ρ : Mm} (h : ∀ j : Int, ρ k 0 j = σ k 0 j) : ∀ n : Nat, cntA k ρ n = cntA k σ n ∧ fstA k ρ n = fstA k σ n
  | 0 => ⟨rfl, rfl⟩
  | n + 1 => by
    obtain ⟨h1, h2⟩ := cnt_c h n
    refine ⟨?_, ?_⟩
    · show cntA k ρ n + (if asc k ρ (n : Int) = true then 1 else 0) = cntA k σ n + (if asc k σ (n : Int) = true then 1 else 0)
      rw [h1, asc_c h]
    · show (if fstA k ρ n = -1 then (if asc k ρ (n : Int) = true then -1 else (n : Int)) else fstA k ρ n) = (if fstA k σ n = -1 then (if asc k σ (n : Int) = true then -1 else (n : Int)) else fstA k σ n)
      rw [h2, asc_c h]
theorem trp_c {k : Nat} {σ ρ : Mm} (h : ∀ j : Int, ρ k 0 j = σ k 0 j) (w : Int) : trpF k ρ w = trpF k σ w := by
  unfold trpF; rw [(cnt_c h _).1, (cnt_c h _).2]
def Rw (S0 : Int → Int → Int) (σ : Mm) : Prop :=
  (∀ i j : Int, σ 0 i j = S0 i j) ∧
  (∀ i : Int, 0 ≤ i → i ≤ 3 → σ 7 i 0 = i) ∧
  (∀ i : Int, 0 ≤ i → i ≤ 6 → σ 7 i 1 = σ 31 0 (22 * i + 0) ∧ σ 7 i 2 = σ 31 0 (22 * i + 1) ∧ 0 ≤ σ 7 i 2 ∧ σ 7 i 2 ≤ 9 ∧ 0 ≤ σ 7 i 1 ∧ σ 7 i 1 ≤ 1) ∧
  (∀ i : Int, 4 ≤ i → i ≤ 6 → σ 7 i 1 = 1 → σ 7 i 0 = σ 31 0 (22 * i + 21) ∧ 0 ≤ σ 7 i 0 ∧ σ 7 i 0 ≤ 3) ∧
  (∀ i : Int, 0 ≤ i → i ≤ 3 → σ 13 i 0 = σ 45 0 i ∧ -1 ≤ σ 13 i 0 ∧ σ 13 i 0 ≤ 3 ∧ σ 13 i 0 ≠ i ∧ (σ 13 i 0 ≠ -1 → σ 7 i 1 = 1)) ∧
  (∀ j : Int, 0 ≤ j → j < 16 → σ 15 0 j = σ 35 0 j ∧ 0 ≤ σ 15 0 j ∧ σ 15 0 j ≤ 3)
theorem Rw.ho {S0 : Int → Int → Int} {σ : Mm} (h : Rw S0 σ) : ∀ i : Int, 0 ≤ i → i ≤ 3 → 0 ≤ σ 31 0 (22 * i + 1) ∧ σ 31 0 (22 * i + 1) ≤ 9 := fun i h0 h1 => by
  have := h.2.2.1 i h0 (by omega); omega
def OTa (σ : Mm) (x y r : Int) (ρ : Mm) : Prop := (((0 ≤ x ∧ x ≤ 15 ∧ 0 ≤ y ∧ y ≤ 3) ∧ ¬ (∃ i : Int, 0 ≤ i ∧ i ≤ 6 ∧ σ 7 i 1 = 1 ∧ σ 7 i 2 = 9)) ∧ Al1 σ ρ 15 0 x ∧ ρ 15 0 x = y ∧ r = 1) ∨ (¬ ((0 ≤ x ∧ x ≤ 15 ∧ 0 ≤ y ∧ y ≤ 3) ∧ ¬ (∃ i : Int, 0 ≤ i ∧ i ≤ 6 ∧ σ 7 i 1 = 1 ∧ σ 7 i 2 = 9)) ∧ r = 0 ∧ ρ = σ)
def OTb (σ : Mm) (x y r : Int) (ρ : Mm) : Prop := (((0 ≤ x ∧ x ≤ 15 ∧ 0 ≤ y ∧ y ≤ 3) ∧ ¬ (∃ i : Int, 0 ≤ i ∧ i ≤ 6 ∧ σ 31 0 (22 * i + 0) = 1 ∧ σ 31 0 (22 * i + 1) = 9)) ∧ Al1 σ ρ 35 0 x ∧ ρ 35 0 x = y ∧ r = 1) ∨ (¬ ((0 ≤ x ∧ x ≤ 15 ∧ 0 ≤ y ∧ y ≤ 3) ∧ ¬ (∃ i : Int, 0 ≤ i ∧ i ≤ 6 ∧ σ 31 0 (22 * i + 0) = 1 ∧ σ 31 0 (22 * i + 1) = 9)) ∧ r = 0 ∧ ρ = σ)
def OLa (σ : Mm) (l o z w r : Int) (ρ : Mm) : Prop := (((0 ≤ l ∧ l ≤ 3 ∧ σ 7 l 1 = 1 ∧ 0 ≤ w ∧ w < numF (σ 7 l 2) ∧ 0 ≤ o ∧ o ≤ 3 ∧ σ 7 o 1 = 1 ∧ l ≠ o ∧ 0 ≤ z ∧ z ≤ 100000 ∧ σ 13 o 0 = -1) ∧ ¬ (∃ i : Int, 0 ≤ i ∧ i ≤ 3 ∧ σ 13 i 0 = l)) ∧ Al1 σ ρ 13 l 0 ∧ ρ 13 l 0 = o ∧ r = 1) ∨ (¬ ((0 ≤ l ∧ l ≤ 3 ∧ σ 7 l 1 = 1 ∧ 0 ≤ w ∧ w < numF (σ 7 l 2) ∧ 0 ≤ o ∧ o ≤ 3 ∧ σ 7 o 1 = 1 ∧ l ≠ o ∧ 0 ≤ z ∧ z ≤ 100000 ∧ σ 13 o 0 = -1) ∧ ¬ (∃ i : Int, 0 ≤ i ∧ i ≤ 3 ∧ σ 13 i 0 = l)) ∧ r = 0 ∧ ρ = σ)
def OLb (σ : Mm) (l o z w r : Int) (ρ : Mm) : Prop := (((0 ≤ l ∧ l ≤ 3 ∧ σ 31 0 (22 * l + 0) = 1 ∧ 0 ≤ w ∧ w < numF (σ 31 0 (22 * l + 1)) ∧ 0 ≤ o ∧ o ≤ 3 ∧ σ 31 0 (22 * o + 0) = 1 ∧ l ≠ o ∧ 0 ≤ z ∧ z ≤ 100000 ∧ σ 45 0 o < 0) ∧ ¬ (∃ i : Int, 0 ≤ i ∧ i ≤ 3 ∧ σ 45 0 i = l)) ∧ Al1 σ ρ 45 0 l ∧ ρ 45 0 l = o ∧ r = 1) ∨ (¬ ((0 ≤ l ∧ l ≤ 3 ∧ σ 31 0 (22 * l + 0) = 1 ∧ 0 ≤ w ∧ w < numF (σ 31 0 (22 * l + 1)) ∧ 0 ≤ o ∧ o ≤ 3 ∧ σ 31 0 (22 * o + 0) = 1 ∧ l ≠ o ∧ 0 ≤ z ∧ z ≤ 100000 ∧ σ 45 0 o < 0) ∧ ¬ (∃ i : Int, 0 ≤ i ∧ i ≤ 3 ∧ σ 45 0 i = l)) ∧ r = 0 ∧ ρ = σ)
def OUa (σ : Mm) (l r : Int) (ρ : Mm) : Prop := ((0 ≤ l ∧ l ≤ 3 ∧ ¬ σ 13 l 0 = -1) ∧ Al1 σ ρ 13 l 0 ∧ ρ 13 l 0 = -1 ∧ r = 1) ∨ (¬ (0 ≤ l ∧ l ≤ 3 ∧ ¬ σ 13 l 0 = -1) ∧ r = 0 ∧ ρ = σ)
def OUb (σ : Mm) (l r : Int) (ρ : Mm) : Prop := ((0 ≤ l ∧ l ≤ 3 ∧ σ 31 0 (22 * l + 0) = 1 ∧ 0 ≤ σ 45 0 l) ∧ Al1 σ ρ 45 0 l ∧ ρ 45 0 l = -1 ∧ r = 1) ∨ (¬ (0 ≤ l ∧ l ≤ 3 ∧ σ 31 0 (22 * l + 0) = 1 ∧ 0 ≤ σ 45 0 l) ∧ r = 0 ∧ ρ = σ)
def OOa (σ : Mm) (l o b z y r : Int) (ρ : Mm) : Prop := ((0 ≤ l ∧ l ≤ 3 ∧ 0 ≤ o ∧ o ≤ 9 ∧ 0 ≤ y ∧ y ≤ 10000 ∧ (b = 0 ∨ (b = 1 ∧ 1 ≤ z ∧ z ≤ 120) ∨ (b = 2 ∧ 1 ≤ z ∧ z ≤ 10000)) ∧ (o = 9 → trpF 15 σ 3 = 64)) ∧ Gb (fun c x y => c = 7 ∧ x = l ∧ (y = 1 ∨ y = 2) ∨ c = 13 ∧ y = 0) σ ρ ∧ ρ 7 l 1 = 1 ∧ ρ 7 l 2 = o ∧ (∀ i : Int, 0 ≤ i → i ≤ 3 → ρ 13 i 0 = if i = l ∨ σ 13 i 0 = l then -1 else σ 13 i 0) ∧ r = ρ 7 0 1 + ρ 7 1 1 + ρ 7 2 1 + ρ 7 3 1) ∨ (¬ (0 ≤ l ∧ l ≤ 3 ∧ 0 ≤ o ∧ o ≤ 9 ∧ 0 ≤ y ∧ y ≤ 10000 ∧ (b = 0 ∨ (b = 1 ∧ 1 ≤ z ∧ z ≤ 120) ∨ (b = 2 ∧ 1 ≤ z ∧ z ≤ 10000)) ∧ (o = 9 → trpF 15 σ 3 = 64)) ∧ r = -1 ∧ ρ = σ)
def OOb (σ : Mm) (l o b z y r : Int) (ρ : Mm) : Prop := ((0 ≤ l ∧ l ≤ 3 ∧ 0 ≤ o ∧ o ≤ 9 ∧ 0 ≤ y ∧ y ≤ 10000 ∧ (b = 0 ∨ (b = 1 ∧ 1 ≤ z ∧ z ≤ 120) ∨ (b = 2 ∧ 1 ≤ z ∧ z ≤ 10000)) ∧ (o = 9 → fstA 35 σ (64 : Int).toNat < 0)) ∧ Gb (fun c x y => c = 31 ∧ x = 0 ∧ 22 * l ≤ y ∧ y < 22 * l + 22 ∨ c = 45 ∧ x = 0) σ ρ ∧ ρ 31 0 (22 * l + 0) = 1 ∧ ρ 31 0 (22 * l + 1) = o ∧ (∀ i : Int, 0 ≤ i → i ≤ 3 → ρ 45 0 i = if i = l ∨ σ 45 0 i = l then -1 else σ 45 0 i) ∧ r = ρ 31 0 (22 * 0 + 0) + ρ 31 0 (22 * 1 + 0) + ρ 31 0 (22 * 2 + 0) + ρ 31 0 (22 * 3 + 0)) ∨ (¬ (0 ≤ l ∧ l ≤ 3 ∧ 0 ≤ o ∧ o ≤ 9 ∧ 0 ≤ y ∧ y ≤ 10000 ∧ (b = 0 ∨ (b = 1 ∧ 1 ≤ z ∧ z ≤ 120) ∨ (b = 2 ∧ 1 ≤ z ∧ z ≤ 10000)) ∧ (o = 9 → fstA 35 σ (64 : Int).toNat < 0)) ∧ r = -1 ∧ ρ = σ)
def OSa (σ : Mm) (l r : Int) (ρ : Mm) : Prop := ((0 ≤ l ∧ l ≤ 3 ∧ σ 7 l 1 = 1) ∧ Gb (fun c x y => c = 7 ∧ x = l ∧ y = 1 ∨ c = 13 ∧ y = 0) σ ρ ∧ ρ 7 l 1 = 0 ∧ (∀ i : Int, 0 ≤ i → i ≤ 3 → ρ 13 i 0 = if i = l ∨ σ 13 i 0 = l then -1 else σ 13 i 0) ∧ r = 1) ∨ (¬ (0 ≤ l ∧ l ≤ 3 ∧ σ 7 l 1 = 1) ∧ r = 0 ∧ ρ = σ)
def OSb (σ : Mm) (l r : Int) (ρ : Mm) : Prop := ((0 ≤ l ∧ l ≤ 3 ∧ σ 31 0 (22 * l + 0) = 1) ∧ Gb (fun c x y => c = 31 ∧ x = 0 ∧ y = 22 * l + 0 ∨ c = 45 ∧ x = 0) σ ρ ∧ ρ 31 0 (22 * l + 0) = 0 ∧ (∀ i : Int, 0 ≤ i → i ≤ 3 → ρ 45 0 i = if i = l ∨ σ 45 0 i = l then -1 else σ 45 0 i) ∧ r = 1) ∨ (¬ (0 ≤ l ∧ l ≤ 3 ∧ σ 31 0 (22 * l + 0) = 1) ∧ r = 0 ∧ ρ = σ)
def OKa (σ : Mm) (l x : Int) (ρ : Mm) : Prop := ((0 ≤ l ∧ l ≤ 3 ∧ σ 7 l 1 = 1 ∧ 0 ≤ x ∧ x ≤ 2) ∧ Gb (fun c X y => c = 7 ∧ X = x + 4 ∧ (y = 0 ∨ y = 1 ∨ y = 2)) σ ρ ∧ ρ 7 (x + 4) 0 = σ 7 l 0 ∧ ρ 7 (x + 4) 1 = σ 7 l 1 ∧ ρ 7 (x + 4) 2 = σ 7 l 2) ∨ (¬ (0 ≤ l ∧ l ≤ 3 ∧ σ 7 l 1 = 1 ∧ 0 ≤ x ∧ x ≤ 2) ∧ ρ = σ)
def OKb (σ : Mm) (l x : Int) (ρ : Mm) : Prop := ((0 ≤ l ∧ l ≤ 3 ∧ σ 31 0 (22 * l + 0) = 1 ∧ 0 ≤ x ∧ x ≤ 2) ∧ Gb (fun c X y => c = 31 ∧ X = 0 ∧ 22 * (x + 4) ≤ y ∧ y < 22 * (x + 4) + 22) σ ρ ∧ ρ 31 0 (22 * (x + 4) + 0) = σ 31 0 (22 * l + 0) ∧ ρ 31 0 (22 * (x + 4) + 1) = σ 31 0 (22 * l + 1) ∧ ρ 31 0 (22 * (x + 4) + 21) = l) ∨ (¬ (0 ≤ l ∧ l ≤ 3 ∧ σ 31 0 (22 * l + 0) = 1 ∧ 0 ≤ x ∧ x ≤ 2) ∧ ρ = σ)
def OBa (σ : Mm) (l x : Int) (ρ : Mm) : Prop := ((0 ≤ x ∧ x ≤ 2 ∧ σ 7 (x + 4) 1 = 1) ∧ Gb (fun c X y => c = 7 ∧ X = l ∧ (y = 0 ∨ y = 1 ∨ y = 2) ∨ c = 13 ∧ y = 0) σ ρ ∧ ρ 7 l 0 = σ 7 (x + 4) 0 ∧ ρ 7 l 1 = σ 7 (x + 4) 1 ∧ ρ 7 l 2 = σ 7 (x + 4) 2 ∧ (∀ i : Int, 0 ≤ i → i ≤ 3 → ρ 13 i 0 = if i = l ∨ σ 13 i 0 = l then -1 else σ 13 i 0)) ∨ (¬ (0 ≤ x ∧ x ≤ 2 ∧ σ 7 (x + 4) 1 = 1) ∧ ρ = σ)
def OBb (σ : Mm) (l x : Int) (ρ : Mm) : Prop := ((0 ≤ x ∧ x ≤ 2 ∧ σ 31 0 (22 * (x + 4) + 0) = 1) ∧ Gb (fun c X y => c = 31 ∧ X = 0 ∧ 22 * l ≤ y ∧ y < 22 * l + 22 ∨ c = 45 ∧ X = 0) σ ρ ∧ ρ 31 0 (22 * l + 0) = σ 31 0 (22 * (x + 4) + 0) ∧ ρ 31 0 (22 * l + 1) = σ 31 0 (22 * (x + 4) + 1) ∧ (∀ i : Int, 0 ≤ i → i ≤ 3 → ρ 45 0 i = if i = l ∨ σ 45 0 i = l then -1 else σ 45 0 i)) ∨ (¬ (0 ≤ x ∧ x ≤ 2 ∧ σ 31 0 (22 * (x + 4) + 0) = 1) ∧ ρ = σ)
theorem a_table {d : Nat} {P : Option Vl → Mm → Prop} {σ : Mm} {x y : Int} (k : ∀ (r : Int) (ρ : Mm), OTa σ x y r ρ → P (some (vI r)) ρ) : WT eF (d + 2) 47 [vR 2 0, vI x, vI y] σ P := by
  exact s_table (fun a b ρ h1 h2 => k _ _ (Or.inl ⟨⟨a, b⟩, h1, h2, rfl⟩)) (fun a => k _ _ (Or.inr ⟨fun q => a q.1, rfl, rfl⟩)) (fun a => k _ _ (Or.inr ⟨fun q => q.2 a, rfl, rfl⟩))
theorem b_table {d : Nat} {P : Option Vl → Mm → Prop} {σ : Mm} {x y : Int} (k : ∀ (r : Int) (ρ : Mm), OTb σ x y r ρ → P (some (vI r)) ρ) : WT eF (d + 3) 143 [vR 30 0, vI x, vI y] σ P := by
  exact m_table (fun a b ρ h1 h2 => k _ _ (Or.inl ⟨⟨a, b⟩, h1, h2, rfl⟩)) (fun a => k _ _ (Or.inr ⟨fun q => a q.1, rfl, rfl⟩)) (fun a => k _ _ (Or.inr ⟨fun q => q.2 a, rfl, rfl⟩))
theorem a_link {d : Nat} {P : Option Vl → Mm → Prop} {σ : Mm} {l o z w : Int} (k : ∀ (r : Int) (ρ : Mm), OLa σ l o z w r ρ → P (some (vI r)) ρ) : WT eF (d + 5) 104 [vR 2 0, vI l, vI o, vI z, vI w] σ P := by
  exact s_link (fun a b ρ h1 h2 => k _ _ (Or.inl ⟨⟨a, b⟩, h1, h2, rfl⟩)) (fun a => k _ _ (Or.inr ⟨fun q => a q.1, rfl, rfl⟩)) (fun a => k _ _ (Or.inr ⟨fun q => q.2 a, rfl, rfl⟩))
theorem b_link {d : Nat} {P : Option Vl → Mm → Prop} {σ : Mm} {l o z w : Int} (ho : ∀ i : Int, 0 ≤ i → i ≤ 3 → 0 ≤ σ 31 0 (22 * i + 1) ∧ σ 31 0 (22 * i + 1) ≤ 9) (k : ∀ (r : Int) (ρ : Mm), OLb σ l o z w r ρ → P (some (vI r)) ρ) : WT eF (d + 4) 199 [vR 30 0, vI l, vI o, vI z, vI w] σ P := by
  exact m_link ho (fun a b ρ h1 h2 => k _ _ (Or.inl ⟨⟨a, b⟩, h1, h2, rfl⟩)) (fun a => k _ _ (Or.inr ⟨fun q => a q.1, rfl, rfl⟩)) (fun a => k _ _ (Or.inr ⟨fun q => q.2 a, rfl, rfl⟩))
theorem a_unlink {d : Nat} {P : Option Vl → Mm → Prop} {σ : Mm} {l : Int} (k : ∀ (r : Int) (ρ : Mm), OUa σ l r ρ → P (some (vI r)) ρ) : WT eF (d + 3) 105 [vR 2 0, vI l] σ P := by
  exact s_unlink (fun a ρ h1 h2 => k _ _ (Or.inl ⟨a, h1, h2, rfl⟩)) (fun a => k _ _ (Or.inr ⟨a, rfl, rfl⟩))
theorem b_unlink {d : Nat} {P : Option Vl → Mm → Prop} {σ : Mm} {l : Int} (k : ∀ (r : Int) (ρ : Mm), OUb σ l r ρ → P (some (vI r)) ρ) : WT eF (d + 3) 200 [vR 30 0, vI l] σ P := by
  exact m_unlink (fun a ρ h1 h2 => k _ _ (Or.inl ⟨a, h1, h2, rfl⟩)) (fun a => k _ _ (Or.inr ⟨a, rfl, rfl⟩))
theorem a_open {d : Nat} {P : Option Vl → Mm → Prop} {σ : Mm} {l o b z y : Int} (k : ∀ (r : Int) (ρ : Mm), OOa σ l o b z y r ρ → P (some (vI r)) ρ) : WT eF (d + 4) 58 [vR 2 0, vI l, vI o, vI b, vI z, vI y] σ P := by
  refine WT_lw (fun ρ hL hT hO => ?_)
  have e15 := trp_c (k := 15) (σ := σ) (ρ := ρ) (fun j => hT 15 0 j trivial) 3
  refine s_open_S hL (fun a r ρ2 g h1 h2 h3 h4 => Or.inl ⟨g.2, k _ _ (Or.inl ⟨by rw [e15] at a; exact a, Gb.of hT g.1 ?_, h1, h2, fun i h0 h6 => ?_, h4⟩)⟩) (fun a => Or.inr ⟨rfl, k _ _ (Or.inr ⟨by rw [e15] at a; exact a, rfl, rfl⟩)⟩)
  · rintro c x y hb (⟨rfl, rfl, q⟩ | q)
    · simp only [Tb] at hb
      exact Or.inl ⟨rfl, rfl, by omega⟩
    · exact Or.inr q
  · rw [h3 i h0 h6, hT 13 i 0 rfl]
theorem b_open {d : Nat} {P : Option Vl → Mm → Prop} {σ : Mm} {l o b z y : Int} (k : ∀ (r : Int) (ρ : Mm), OOb σ l o b z y r ρ → P (some (vI r)) ρ) : WT eF (d + 4) 174 [vR 30 0, vI l, vI o, vI b, vI z, vI y] σ P := by
  refine WT_lw (fun ρ hL hT hO => ?_)
  have e35 := (cnt_c (k := 35) (σ := σ) (ρ := ρ) (fun j => hT 35 0 j trivial) (64 : Int).toNat).2
  refine m_open_S (g0 := ρ 31 0 (22 * l + 0)) (g1 := ρ 31 0 (22 * l + 1)) (g2 := ρ 31 0 (22 * l + 2)) (g3 := ρ 31 0 (22 * l + 3)) (g5 := ρ 31 0 (22 * l + 5)) (g21 := ρ 31 0 (22 * l + 21)) rfl rfl rfl rfl rfl rfl hL (fun a r ρ2 g h1 h2 h3 h4 => Or.inl ⟨g.2, k _ _ (Or.inl ⟨by rw [e35] at a; exact a, Gb.of hT g.1 (fun c x y _ q => q), h1, h2, fun i h0 h6 => ?_, h4⟩)⟩) (fun a => Or.inr ⟨rfl, k _ _ (Or.inr ⟨by rw [e35] at a; exact a, rfl, rfl⟩)⟩)
  rw [h3 i h0 h6, hT 45 0 i trivial]
theorem a_shut {d : Nat} {P : Option Vl → Mm → Prop} {σ : Mm} {l : Int} (k : ∀ (r : Int) (ρ : Mm), OSa σ l r ρ → P (some (vI r)) ρ) : WT eF (d + 4) 60 [vR 2 0, vI l] σ P := by
  exact s_shut (g := σ 7 l 1) rfl (fun a ρ g h1 h2 => k _ _ (Or.inl ⟨a, fun c x y _ hn => g c x y hn, h1, h2, rfl⟩)) (fun a => k _ _ (Or.inr ⟨a, rfl, rfl⟩))
theorem b_shut {d : Nat} {P : Option Vl → Mm → Prop} {σ : Mm} {l : Int} (k : ∀ (r : Int) (ρ : Mm), OSb σ l r ρ → P (some (vI r)) ρ) : WT eF (d + 3) 176 [vR 30 0, vI l] σ P := by
  refine WT_lw (fun ρ hL hT hO => ?_)
  refine m_shut_S (g0 := ρ 31 0 (22 * l + 0)) rfl hL (fun a ρ2 g h1 h2 => Or.inl ⟨g.2, k _ _ (Or.inl ⟨?_, Gb.of hT g.1 (fun c x y _ q => q), h1, fun i h0 h6 => by rw [h2 i h0 h6, hT 45 0 i trivial], rfl⟩)⟩) (fun a => Or.inr ⟨rfl, k _ _ (Or.inr ⟨fun q => a ?_, rfl, rfl⟩)⟩)
  · have e := hT 31 0 (22 * l + 0) (by simp only [Tb]; omega)
    omega
  · have e := hT 31 0 (22 * l + 0) (by simp only [Tb]; omega)
    omega
theorem a_keep {d : Nat} {P : Option Vl → Mm → Prop} {σ : Mm} {l x : Int} (k : ∀ (r : Int) (ρ : Mm), OKa σ l x ρ → P (some (vI r)) ρ) : WT eF (d + 4) 114 [vR 2 0, vI l, vI x] σ P := by
  refine WT_lw (fun ρ hL hT hO => ?_)
  have e0 := hT 7 l 0 (Or.inl rfl)
  have e1 := hT 7 l 1 (Or.inr (Or.inl rfl))
  have e2 := hT 7 l 2 (Or.inr (Or.inr rfl))
  refine s_keep_S hL hO (fun a r ρ2 g h1 h2 h3 => Or.inl ⟨g.2, k _ _ (Or.inl ⟨by omega, Gb.of hT g.1 ?_, by omega, by omega, by omega⟩)⟩) (fun a => Or.inr ⟨rfl, k _ _ (Or.inr ⟨by omega, rfl⟩)⟩)
  rintro c X y hb ⟨rfl, rfl, q⟩
  simp only [Tb] at hb
  exact ⟨rfl, rfl, hb⟩
theorem b_keep {d : Nat} {P : Option Vl → Mm → Prop} {σ : Mm} {l x : Int} (k : ∀ (r : Int) (ρ : Mm), OKb σ l x ρ → P (some (vI r)) ρ) : WT eF (d + 4) 254 [vR 30 0, vI l, vI x] σ P := by
  refine WT_lw (fun ρ hL hT hO => ?_)
  refine m_keep_S hL (fun a r ρ2 g h1 h2 h3 => Or.inl ⟨g.2, k _ _ (Or.inl ?_)⟩) (fun a => Or.inr ⟨rfl, k _ _ (Or.inr ⟨fun q => a ?_, rfl⟩)⟩)
  · have e0 := hT 31 0 (22 * l + 0) (by simp only [Tb]; omega)
    have e1 := hT 31 0 (22 * l + 1) (by simp only [Tb]; omega)
    exact ⟨by omega, Gb.of hT g.1 (fun c x y _ q => q), by omega, by omega, h3⟩
  · have e0 := hT 31 0 (22 * l + 0) (by simp only [Tb]; omega)
    omega
theorem a_back {d : Nat} {P : Option Vl → Mm → Prop} {σ : Mm} {l x : Int} (hl : 0 ≤ l ∧ l ≤ 3) (hn : 0 ≤ x → x ≤ 2 → σ 7 (x + 4) 1 = 1 → σ 7 (x + 4) 0 = l) (k : ∀ (r : Int) (ρ : Mm), OBa σ l x ρ → P (some (vI r)) ρ) : WT eF (d + 3) 115 [vR 2 0, vI x] σ P := by
  refine WT_lw (fun ρ hL hT hO => ?_)
  have e0 := hT 7 (x + 4) 0 (Or.inl rfl)
  have e1 := hT 7 (x + 4) 1 (Or.inr (Or.inl rfl))
  have e2 := hT 7 (x + 4) 2 (Or.inr (Or.inr rfl))
  refine s_back_S hL hO (l := l) hl (fun a b c => by have := hn a b (by omega); omega) (fun a r ρ2 g h1 h2 h3 h4 => Or.inl ⟨g.2, k _ _ (Or.inl ⟨by omega, Gb.of hT g.1 ?_, by omega, by omega, by omega, fun i h0 h6 => by rw [h4 i h0 h6, hT 13 i 0 rfl]⟩)⟩) (fun a => Or.inr ⟨rfl, k _ _ (Or.inr ⟨by omega, rfl⟩)⟩)
  rintro c X y hb (⟨rfl, rfl, q⟩ | q)
  · simp only [Tb] at hb
    exact Or.inl ⟨rfl, rfl, hb⟩
  · exact Or.inr q
theorem b_back {d : Nat} {P : Option Vl → Mm → Prop} {σ : Mm} {l x : Int} (hl : 0 ≤ l ∧ l ≤ 3) (hn : 0 ≤ x → x ≤ 2 → σ 31 0 (22 * (x + 4) + 0) = 1 → σ 31 0 (22 * (x + 4) + 21) = l) (k : ∀ (r : Int) (ρ : Mm), OBb σ l x ρ → P (some (vI r)) ρ) : WT eF (d + 4) 255 [vR 30 0, vI x] σ P := by
  refine WT_lw (fun ρ hL hT hO => ?_)
  have ee : ∀ f : Int, f = 0 ∨ f = 1 ∨ f = 21 → 0 ≤ x → x ≤ 2 → ρ 31 0 (22 * (x + 4) + f) = σ 31 0 (22 * (x + 4) + f) := fun f hf h0 h1 => hT 31 0 _ (by simp only [Tb]; omega)
  refine m_back_S hL (l := l) hl (fun a b c => ?_) (fun a r ρ2 g h1 h2 h3 => Or.inl ⟨g.2, k _ _ (Or.inl ?_)⟩) (fun a => Or.inr ⟨rfl, k _ _ (Or.inr ⟨fun q => a ?_, rfl⟩)⟩)
  · have e0 := ee 0 (by omega) a b
    have e2 := ee 21 (by omega) a b
    have := hn a b (by omega)
    omega
  · have e0 := ee 0 (by omega) (by omega) (by omega)
    have e1 := ee 1 (by omega) (by omega) (by omega)
    exact ⟨by omega, Gb.of hT g.1 (fun c x y _ q => q), by omega, by omega, fun i h0 h6 => by rw [h3 i h0 h6, hT 45 0 i trivial]⟩
  · have e0 := ee 0 (by omega) (by omega) (by omega)
    omega
