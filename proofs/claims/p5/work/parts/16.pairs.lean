-- what ties class and reference, in tracked places alone
abbrev eF : Ev := (false, false, false)
def Gb (S : Nat → Int → Int → Prop) (σ ρ : Mm) : Prop := ∀ (c : Nat) (x y : Int), Tb c y → ¬ S c x y → ρ c x y = σ c x y
theorem WT.mono {e : Ev} {d M : Nat} {as : List Vl} {σ : Mm} {P P2 : Option Vl → Mm → Prop} (h : ∀ r ρ, P r ρ → P2 r ρ) (q : WT e d M as σ P) : WT e d M as σ P2 := fun τ hA => WP.mono (fun r τ2 hp => by obtain ⟨σ2, g1, g2⟩ := hp; exact ⟨σ2, h _ _ g1, g2⟩) _ _ _ _ (q τ hA)
theorem WT_lw {d M : Nat} {as : List Vl} {σ : Mm} {P : Option Vl → Mm → Prop} (h : ∀ ρ : Mm, InL ρ → (∀ (c : Nat) (i j : Int), Tb c j → ρ c i j = σ c i j) → (∀ (c : Nat) (i j : Int), Okv c j (ρ c i j)) → WT (true, false, false) d M as ρ (fun r ρ2 => (InL ρ2 ∧ P r ρ2) ∨ (ρ2 = ρ ∧ P r σ))) : WT eF d M as σ P := by
  refine WT_loose (true, false, false) (fun h => by cases h) (fun h => h) (fun c j q => ?_) (fun ρ hL hF hT hO => ?_)
  · rcases q with q | q | q | q
    · exact Or.inl q
    · cases q.1
    · cases q.1
    · exact Or.inr (Or.inr (Or.inr q))
  · refine WT.mono (fun r ρ2 hp => ?_) (h ρ (hL rfl) (fun c i j q => hT c i j (Or.inl q)) hO)
    rcases hp with ⟨h1, h2⟩ | ⟨rfl, h2⟩
    · exact ⟨ρ2, h2, fun _ => Or.inr h1, fun h => Or.inl h, fun _ _ _ _ => rfl⟩
    · exact ⟨σ, h2, fun _ => Or.inr (hL rfl), fun h => Or.inl h, fun c i j q => hT c i j q⟩
theorem Gb.of {S T : Nat → Int → Int → Prop} {σ ρ ρ2 : Mm} (hT : ∀ (c : Nat) (i j : Int), Tb c j → ρ c i j = σ c i j) (g : Gx T ρ ρ2) (hs : ∀ c x y, Tb c y → T c x y → S c x y) : Gb S σ ρ2 := fun c x y hb hn => (g c x y (fun t => hn (hs c x y hb t))).trans (hT c x y hb)
theorem pr_c {k : Nat} {σ ρ : Mm} (h : ∀ j : Int, ρ k 0 j = σ k 0 j) : pr k ρ = pr k σ := by
  funext x y; exact h _
theorem asc_c {k : Nat} {σ ρ : Mm} (h : ∀ j : Int, ρ k 0 j = σ k 0 j) : asc k ρ = asc k σ := by
  funext t; unfold asc; rw [pr_c h]
theorem cnt_c {k : Nat} {σ ρ : Mm} (h : ∀ j : Int, ρ k 0 j = σ k 0 j) : ∀ n : Nat, cntA k ρ n = cntA k σ n ∧ fstA k ρ n = fstA k σ n
  | 0 => ⟨rfl, rfl⟩
  | n + 1 => by
    obtain ⟨h1, h2⟩ := cnt_c h n
    refine ⟨?_, ?_⟩
    · show cntA k ρ n + (if asc k ρ (n : Int) = true then 1 else 0) = cntA k σ n + (if asc k σ (n : Int) = true then 1 else 0)
      rw [h1, asc_c h]
    · show (if fstA k ρ n = -1 then (if asc k ρ (n : Int) = true then -1 else (n : Int)) else fstA k ρ n) = (if fstA k σ n = -1 then (if asc k σ (n : Int) = true then -1 else (n : Int)) else fstA k σ n)
      rw [h2, asc_c h]
theorem trp_c {k : Nat} {σ ρ : Mm} (h : ∀ j : Int, ρ k 0 j = σ k 0 j) (w : Int) : trpF k ρ w = trpF k σ w := by
  unfold trpF; rw [(cnt_c h _).1, (cnt_c h _).2]
def Rw (S0 : Int → Int → Int) (σ : Mm) : Prop :=
  (∀ i j : Int, σ 0 i j = S0 i j) ∧
  (∀ i : Int, 0 ≤ i → i ≤ 3 → σ 7 i 0 = i) ∧
  (∀ i : Int, 0 ≤ i → i ≤ 6 → σ 7 i 1 = σ 31 0 (22 * i + 0) ∧ σ 7 i 2 = σ 31 0 (22 * i + 1) ∧ 0 ≤ σ 7 i 2 ∧ σ 7 i 2 ≤ 9 ∧ 0 ≤ σ 7 i 1 ∧ σ 7 i 1 ≤ 1) ∧
  (∀ i : Int, 4 ≤ i → i ≤ 6 → σ 7 i 1 = 1 → σ 7 i 0 = σ 31 0 (22 * i + 21) ∧ 0 ≤ σ 7 i 0 ∧ σ 7 i 0 ≤ 3) ∧
  (∀ i : Int, 0 ≤ i → i ≤ 3 → σ 13 i 0 = σ 45 0 i ∧ -1 ≤ σ 13 i 0 ∧ σ 13 i 0 ≤ 3 ∧ σ 13 i 0 ≠ i ∧ (σ 13 i 0 ≠ -1 → σ 7 i 1 = 1)) ∧
  (∀ j : Int, 0 ≤ j → j < 16 → σ 15 0 j = σ 35 0 j ∧ 0 ≤ σ 15 0 j ∧ σ 15 0 j ≤ 3)
theorem Rw.ho {S0 : Int → Int → Int} {σ : Mm} (h : Rw S0 σ) : ∀ i : Int, 0 ≤ i → i ≤ 3 → 0 ≤ σ 31 0 (22 * i + 1) ∧ σ 31 0 (22 * i + 1) ≤ 9 := fun i h0 h1 => by
  have := h.2.2.1 i h0 (by omega); omega
def OTa (σ : Mm) (x y r : Int) (ρ : Mm) : Prop := (((0 ≤ x ∧ x ≤ 15 ∧ 0 ≤ y ∧ y ≤ 3) ∧ ¬ (∃ i : Int, 0 ≤ i ∧ i ≤ 6 ∧ σ 7 i 1 = 1 ∧ σ 7 i 2 = 9)) ∧ Al1 σ ρ 15 0 x ∧ ρ 15 0 x = y ∧ r = 1) ∨ (¬ ((0 ≤ x ∧ x ≤ 15 ∧ 0 ≤ y ∧ y ≤ 3) ∧ ¬ (∃ i : Int, 0 ≤ i ∧ i ≤ 6 ∧ σ 7 i 1 = 1 ∧ σ 7 i 2 = 9)) ∧ r = 0 ∧ ρ = σ)
def OTb (σ : Mm) (x y r : Int) (ρ : Mm) : Prop := (((0 ≤ x ∧ x ≤ 15 ∧ 0 ≤ y ∧ y ≤ 3) ∧ ¬ (∃ i : Int, 0 ≤ i ∧ i ≤ 6 ∧ σ 31 0 (22 * i + 0) = 1 ∧ σ 31 0 (22 * i + 1) = 9)) ∧ Al1 σ ρ 35 0 x ∧ ρ 35 0 x = y ∧ r = 1) ∨ (¬ ((0 ≤ x ∧ x ≤ 15 ∧ 0 ≤ y ∧ y ≤ 3) ∧ ¬ (∃ i : Int, 0 ≤ i ∧ i ≤ 6 ∧ σ 31 0 (22 * i + 0) = 1 ∧ σ 31 0 (22 * i + 1) = 9)) ∧ r = 0 ∧ ρ = σ)
def OLa (σ : Mm) (l o z w r : Int) (ρ : Mm) : Prop := (((0 ≤ l ∧ l ≤ 3 ∧ σ 7 l 1 = 1 ∧ 0 ≤ w ∧ w < numF (σ 7 l 2) ∧ 0 ≤ o ∧ o ≤ 3 ∧ σ 7 o 1 = 1 ∧ l ≠ o ∧ 0 ≤ z ∧ z ≤ 100000 ∧ σ 13 o 0 = -1) ∧ ¬ (∃ i : Int, 0 ≤ i ∧ i ≤ 3 ∧ σ 13 i 0 = l)) ∧ Al1 σ ρ 13 l 0 ∧ ρ 13 l 0 = o ∧ r = 1) ∨ (¬ ((0 ≤ l ∧ l ≤ 3 ∧ σ 7 l 1 = 1 ∧ 0 ≤ w ∧ w < numF (σ 7 l 2) ∧ 0 ≤ o ∧ o ≤ 3 ∧ σ 7 o 1 = 1 ∧ l ≠ o ∧ 0 ≤ z ∧ z ≤ 100000 ∧ σ 13 o 0 = -1) ∧ ¬ (∃ i : Int, 0 ≤ i ∧ i ≤ 3 ∧ σ 13 i 0 = l)) ∧ r = 0 ∧ ρ = σ)
def OLb (σ : Mm) (l o z w r : Int) (ρ : Mm) : Prop := (((0 ≤ l ∧ l ≤ 3 ∧ σ 31 0 (22 * l + 0) = 1 ∧ 0 ≤ w ∧ w < numF (σ 31 0 (22 * l + 1)) ∧ 0 ≤ o ∧ o ≤ 3 ∧ σ 31 0 (22 * o + 0) = 1 ∧ l ≠ o ∧ 0 ≤ z ∧ z ≤ 100000 ∧ σ 45 0 o < 0) ∧ ¬ (∃ i : Int, 0 ≤ i ∧ i ≤ 3 ∧ σ 45 0 i = l)) ∧ Al1 σ ρ 45 0 l ∧ ρ 45 0 l = o ∧ r = 1) ∨ (¬ ((0 ≤ l ∧ l ≤ 3 ∧ σ 31 0 (22 * l + 0) = 1 ∧ 0 ≤ w ∧ w < numF (σ 31 0 (22 * l + 1)) ∧ 0 ≤ o ∧ o ≤ 3 ∧ σ 31 0 (22 * o + 0) = 1 ∧ l ≠ o ∧ 0 ≤ z ∧ z ≤ 100000 ∧ σ 45 0 o < 0) ∧ ¬ (∃ i : Int, 0 ≤ i ∧ i ≤ 3 ∧ σ 45 0 i = l)) ∧ r = 0 ∧ ρ = σ)
def OUa (σ : Mm) (l r : Int) (ρ : Mm) : Prop := ((0 ≤ l ∧ l ≤ 3 ∧ ¬ σ 13 l 0 = -1) ∧ Al1 σ ρ 13 l 0 ∧ ρ 13 l 0 = -1 ∧ r = 1) ∨ (¬ (0 ≤ l ∧ l ≤ 3 ∧ ¬ σ 13 l 0 = -1) ∧ r = 0 ∧ ρ = σ)
def OUb (σ : Mm) (l r : Int) (ρ : Mm) : Prop := ((0 ≤ l ∧ l ≤ 3 ∧ σ 31 0 (22 * l + 0) = 1 ∧ 0 ≤ σ 45 0 l) ∧ Al1 σ ρ 45 0 l ∧ ρ 45 0 l = -1 ∧ r = 1) ∨ (¬ (0 ≤ l ∧ l ≤ 3 ∧ σ 31 0 (22 * l + 0) = 1 ∧ 0 ≤ σ 45 0 l) ∧ r = 0 ∧ ρ = σ)
def OOa (σ : Mm) (l o b z y r : Int) (ρ : Mm) : Prop := ((0 ≤ l ∧ l ≤ 3 ∧ 0 ≤ o ∧ o ≤ 9 ∧ 0 ≤ y ∧ y ≤ 10000 ∧ (b = 0 ∨ (b = 1 ∧ 1 ≤ z ∧ z ≤ 120) ∨ (b = 2 ∧ 1 ≤ z ∧ z ≤ 10000)) ∧ (o = 9 → trpF 15 σ 3 = 64)) ∧ Gb (fun c x y => c = 7 ∧ x = l ∧ (y = 1 ∨ y = 2) ∨ c = 13 ∧ y = 0) σ ρ ∧ ρ 7 l 1 = 1 ∧ ρ 7 l 2 = o ∧ (∀ i : Int, 0 ≤ i → i ≤ 3 → ρ 13 i 0 = if i = l ∨ σ 13 i 0 = l then -1 else σ 13 i 0) ∧ r = ρ 7 0 1 + ρ 7 1 1 + ρ 7 2 1 + ρ 7 3 1) ∨ (¬ (0 ≤ l ∧ l ≤ 3 ∧ 0 ≤ o ∧ o ≤ 9 ∧ 0 ≤ y ∧ y ≤ 10000 ∧ (b = 0 ∨ (b = 1 ∧ 1 ≤ z ∧ z ≤ 120) ∨ (b = 2 ∧ 1 ≤ z ∧ z ≤ 10000)) ∧ (o = 9 → trpF 15 σ 3 = 64)) ∧ r = -1 ∧ ρ = σ)
def OOb (σ : Mm) (l o b z y r : Int) (ρ : Mm) : Prop := ((0 ≤ l ∧ l ≤ 3 ∧ 0 ≤ o ∧ o ≤ 9 ∧ 0 ≤ y ∧ y ≤ 10000 ∧ (b = 0 ∨ (b = 1 ∧ 1 ≤ z ∧ z ≤ 120) ∨ (b = 2 ∧ 1 ≤ z ∧ z ≤ 10000)) ∧ (o = 9 → fstA 35 σ (64 : Int).toNat < 0)) ∧ Gb (fun c x y => c = 31 ∧ x = 0 ∧ 22 * l ≤ y ∧ y < 22 * l + 22 ∨ c = 45 ∧ x = 0) σ ρ ∧ ρ 31 0 (22 * l + 0) = 1 ∧ ρ 31 0 (22 * l + 1) = o ∧ (∀ i : Int, 0 ≤ i → i ≤ 3 → ρ 45 0 i = if i = l ∨ σ 45 0 i = l then -1 else σ 45 0 i) ∧ r = ρ 31 0 (22 * 0 + 0) + ρ 31 0 (22 * 1 + 0) + ρ 31 0 (22 * 2 + 0) + ρ 31 0 (22 * 3 + 0)) ∨ (¬ (0 ≤ l ∧ l ≤ 3 ∧ 0 ≤ o ∧ o ≤ 9 ∧ 0 ≤ y ∧ y ≤ 10000 ∧ (b = 0 ∨ (b = 1 ∧ 1 ≤ z ∧ z ≤ 120) ∨ (b = 2 ∧ 1 ≤ z ∧ z ≤ 10000)) ∧ (o = 9 → fstA 35 σ (64 : Int).toNat < 0)) ∧ r = -1 ∧ ρ = σ)
def OSa (σ : Mm) (l r : Int) (ρ : Mm) : Prop := ((0 ≤ l ∧ l ≤ 3 ∧ σ 7 l 1 = 1) ∧ Gb (fun c x y => c = 7 ∧ x = l ∧ y = 1 ∨ c = 13 ∧ y = 0) σ ρ ∧ ρ 7 l 1 = 0 ∧ (∀ i : Int, 0 ≤ i → i ≤ 3 → ρ 13 i 0 = if i = l ∨ σ 13 i 0 = l then -1 else σ 13 i 0) ∧ r = 1) ∨ (¬ (0 ≤ l ∧ l ≤ 3 ∧ σ 7 l 1 = 1) ∧ r = 0 ∧ ρ = σ)
def OSb (σ : Mm) (l r : Int) (ρ : Mm) : Prop := ((0 ≤ l ∧ l ≤ 3 ∧ σ 31 0 (22 * l + 0) = 1) ∧ Gb (fun c x y => c = 31 ∧ x = 0 ∧ y = 22 * l + 0 ∨ c = 45 ∧ x = 0) σ ρ ∧ ρ 31 0 (22 * l + 0) = 0 ∧ (∀ i : Int, 0 ≤ i → i ≤ 3 → ρ 45 0 i = if i = l ∨ σ 45 0 i = l then -1 else σ 45 0 i) ∧ r = 1) ∨ (¬ (0 ≤ l ∧ l ≤ 3 ∧ σ 31 0 (22 * l + 0) = 1) ∧ r = 0 ∧ ρ = σ)
def OKa (σ : Mm) (l x : Int) (ρ : Mm) : Prop := ((0 ≤ l ∧ l ≤ 3 ∧ σ 7 l 1 = 1 ∧ 0 ≤ x ∧ x ≤ 2) ∧ Gb (fun c X y => c = 7 ∧ X = x + 4 ∧ (y = 0 ∨ y = 1 ∨ y = 2)) σ ρ ∧ ρ 7 (x + 4) 0 = σ 7 l 0 ∧ ρ 7 (x + 4) 1 = σ 7 l 1 ∧ ρ 7 (x + 4) 2 = σ 7 l 2) ∨ (¬ (0 ≤ l ∧ l ≤ 3 ∧ σ 7 l 1 = 1 ∧ 0 ≤ x ∧ x ≤ 2) ∧ ρ = σ)
def OKb (σ : Mm) (l x : Int) (ρ : Mm) : Prop := ((0 ≤ l ∧ l ≤ 3 ∧ σ 31 0 (22 * l + 0) = 1 ∧ 0 ≤ x ∧ x ≤ 2) ∧ Gb (fun c X y => c = 31 ∧ X = 0 ∧ 22 * (x + 4) ≤ y ∧ y < 22 * (x + 4) + 22) σ ρ ∧ ρ 31 0 (22 * (x + 4) + 0) = σ 31 0 (22 * l + 0) ∧ ρ 31 0 (22 * (x + 4) + 1) = σ 31 0 (22 * l + 1) ∧ ρ 31 0 (22 * (x + 4) + 21) = l) ∨ (¬ (0 ≤ l ∧ l ≤ 3 ∧ σ 31 0 (22 * l + 0) = 1 ∧ 0 ≤ x ∧ x ≤ 2) ∧ ρ = σ)
def OBa (σ : Mm) (l x : Int) (ρ : Mm) : Prop := ((0 ≤ x ∧ x ≤ 2 ∧ σ 7 (x + 4) 1 = 1) ∧ Gb (fun c X y => c = 7 ∧ X = l ∧ (y = 0 ∨ y = 1 ∨ y = 2) ∨ c = 13 ∧ y = 0) σ ρ ∧ ρ 7 l 0 = σ 7 (x + 4) 0 ∧ ρ 7 l 1 = σ 7 (x + 4) 1 ∧ ρ 7 l 2 = σ 7 (x + 4) 2 ∧ (∀ i : Int, 0 ≤ i → i ≤ 3 → ρ 13 i 0 = if i = l ∨ σ 13 i 0 = l then -1 else σ 13 i 0)) ∨ (¬ (0 ≤ x ∧ x ≤ 2 ∧ σ 7 (x + 4) 1 = 1) ∧ ρ = σ)
def OBb (σ : Mm) (l x : Int) (ρ : Mm) : Prop := ((0 ≤ x ∧ x ≤ 2 ∧ σ 31 0 (22 * (x + 4) + 0) = 1) ∧ Gb (fun c X y => c = 31 ∧ X = 0 ∧ 22 * l ≤ y ∧ y < 22 * l + 22 ∨ c = 45 ∧ X = 0) σ ρ ∧ ρ 31 0 (22 * l + 0) = σ 31 0 (22 * (x + 4) + 0) ∧ ρ 31 0 (22 * l + 1) = σ 31 0 (22 * (x + 4) + 1) ∧ (∀ i : Int, 0 ≤ i → i ≤ 3 → ρ 45 0 i = if i = l ∨ σ 45 0 i = l then -1 else σ 45 0 i)) ∨ (¬ (0 ≤ x ∧ x ≤ 2 ∧ σ 31 0 (22 * (x + 4) + 0) = 1) ∧ ρ = σ)
theorem a_table {d : Nat} {P : Option Vl → Mm → Prop} {σ : Mm} {x y : Int} (k : ∀ (r : Int) (ρ : Mm), OTa σ x y r ρ → P (some (vI r)) ρ) : WT eF (d + 2) 47 [vR 2 0, vI x, vI y] σ P := by
  exact s_table (fun a b ρ h1 h2 => k _ _ (Or.inl ⟨⟨a, b⟩, h1, h2, rfl⟩)) (fun a => k _ _ (Or.inr ⟨fun q => a q.1, rfl, rfl⟩)) (fun a => k _ _ (Or.inr ⟨fun q => q.2 a, rfl, rfl⟩))
theorem b_table {d : Nat} {P : Option Vl → Mm → Prop} {σ : Mm} {x y : Int} (k : ∀ (r : Int) (ρ : Mm), OTb σ x y r ρ → P (some (vI r)) ρ) : WT eF (d + 3) 143 [vR 30 0, vI x, vI y] σ P := by
  exact m_table (fun a b ρ h1 h2 => k _ _ (Or.inl ⟨⟨a, b⟩, h1, h2, rfl⟩)) (fun a => k _ _ (Or.inr ⟨fun q => a q.1, rfl, rfl⟩)) (fun a => k _ _ (Or.inr ⟨fun q => q.2 a, rfl, rfl⟩))
theorem a_link {d : Nat} {P : Option Vl → Mm → Prop} {σ : Mm} {l o z w : Int} (k : ∀ (r : Int) (ρ : Mm), OLa σ l o z w r ρ → P (some (vI r)) ρ) : WT eF (d + 5) 104 [vR 2 0, vI l, vI o, vI z, vI w] σ P := by
  exact s_link (fun a b ρ h1 h2 => k _ _ (Or.inl ⟨⟨a, b⟩, h1, h2, rfl⟩)) (fun a => k _ _ (Or.inr ⟨fun q => a q.1, rfl, rfl⟩)) (fun a => k _ _ (Or.inr ⟨fun q => q.2 a, rfl, rfl⟩))
theorem b_link {d : Nat} {P : Option Vl → Mm → Prop} {σ : Mm} {l o z w : Int} (ho : ∀ i : Int, 0 ≤ i → i ≤ 3 → 0 ≤ σ 31 0 (22 * i + 1) ∧ σ 31 0 (22 * i + 1) ≤ 9) (k : ∀ (r : Int) (ρ : Mm), OLb σ l o z w r ρ → P (some (vI r)) ρ) : WT eF (d + 4) 199 [vR 30 0, vI l, vI o, vI z, vI w] σ P := by
  exact m_link ho (fun a b ρ h1 h2 => k _ _ (Or.inl ⟨⟨a, b⟩, h1, h2, rfl⟩)) (fun a => k _ _ (Or.inr ⟨fun q => a q.1, rfl, rfl⟩)) (fun a => k _ _ (Or.inr ⟨fun q => q.2 a, rfl, rfl⟩))
theorem a_unlink {d : Nat} {P : Option Vl → Mm → Prop} {σ : Mm} {l : Int} (k : ∀ (r : Int) (ρ : Mm), OUa σ l r ρ → P (some (vI r)) ρ) : WT eF (d + 3) 105 [vR 2 0, vI l] σ P := by
  exact s_unlink (fun a ρ h1 h2 => k _ _ (Or.inl ⟨a, h1, h2, rfl⟩)) (fun a => k _ _ (Or.inr ⟨a, rfl, rfl⟩))
theorem b_unlink {d : Nat} {P : Option Vl → Mm → Prop} {σ : Mm} {l : Int} (k : ∀ (r : Int) (ρ : Mm), OUb σ l r ρ → P (some (vI r)) ρ) : WT eF (d + 3) 200 [vR 30 0, vI l] σ P := by
  exact m_unlink (fun a ρ h1 h2 => k _ _ (Or.inl ⟨a, h1, h2, rfl⟩)) (fun a => k _ _ (Or.inr ⟨a, rfl, rfl⟩))
theorem a_open {d : Nat} {P : Option Vl → Mm → Prop} {σ : Mm} {l o b z y : Int} (k : ∀ (r : Int) (ρ : Mm), OOa σ l o b z y r ρ → P (some (vI r)) ρ) : WT eF (d + 4) 58 [vR 2 0, vI l, vI o, vI b, vI z, vI y] σ P := by
  refine WT_lw (fun ρ hL hT hO => ?_)
  have e15 := trp_c (k := 15) (σ := σ) (ρ := ρ) (fun j => hT 15 0 j trivial) 3
  refine s_open_S hL (fun a r ρ2 g h1 h2 h3 h4 => Or.inl ⟨g.2, k _ _ (Or.inl ⟨by rw [e15] at a; exact a, Gb.of hT g.1 ?_, h1, h2, fun i h0 h6 => ?_, h4⟩)⟩) (fun a => Or.inr ⟨rfl, k _ _ (Or.inr ⟨by rw [e15] at a; exact a, rfl, rfl⟩)⟩)
  · rintro c x y hb (⟨rfl, rfl, q⟩ | q)
    · simp only [Tb] at hb
      exact Or.inl ⟨rfl, rfl, by omega⟩
    · exact Or.inr q
  · rw [h3 i h0 h6, hT 13 i 0 rfl]
theorem b_open {d : Nat} {P : Option Vl → Mm → Prop} {σ : Mm} {l o b z y : Int} (k : ∀ (r : Int) (ρ : Mm), OOb σ l o b z y r ρ → P (some (vI r)) ρ) : WT eF (d + 4) 174 [vR 30 0, vI l, vI o, vI b, vI z, vI y] σ P := by
  refine WT_lw (fun ρ hL hT hO => ?_)
  have e35 := (cnt_c (k := 35) (σ := σ) (ρ := ρ) (fun j => hT 35 0 j trivial) (64 : Int).toNat).2
  refine m_open_S (g0 := ρ 31 0 (22 * l + 0)) (g1 := ρ 31 0 (22 * l + 1)) (g2 := ρ 31 0 (22 * l + 2)) (g3 := ρ 31 0 (22 * l + 3)) (g5 := ρ 31 0 (22 * l + 5)) (g21 := ρ 31 0 (22 * l + 21)) rfl rfl rfl rfl rfl rfl hL (fun a r ρ2 g h1 h2 h3 h4 => Or.inl ⟨g.2, k _ _ (Or.inl ⟨by rw [e35] at a; exact a, Gb.of hT g.1 (fun c x y _ q => q), h1, h2, fun i h0 h6 => ?_, h4⟩)⟩) (fun a => Or.inr ⟨rfl, k _ _ (Or.inr ⟨by rw [e35] at a; exact a, rfl, rfl⟩)⟩)
  rw [h3 i h0 h6, hT 45 0 i trivial]
theorem a_shut {d : Nat} {P : Option Vl → Mm → Prop} {σ : Mm} {l : Int} (k : ∀ (r : Int) (ρ : Mm), OSa σ l r ρ → P (some (vI r)) ρ) : WT eF (d + 4) 60 [vR 2 0, vI l] σ P := by
  exact s_shut (g := σ 7 l 1) rfl (fun a ρ g h1 h2 => k _ _ (Or.inl ⟨a, fun c x y _ hn => g c x y hn, h1, h2, rfl⟩)) (fun a => k _ _ (Or.inr ⟨a, rfl, rfl⟩))
theorem b_shut {d : Nat} {P : Option Vl → Mm → Prop} {σ : Mm} {l : Int} (k : ∀ (r : Int) (ρ : Mm), OSb σ l r ρ → P (some (vI r)) ρ) : WT eF (d + 3) 176 [vR 30 0, vI l] σ P := by
  refine WT_lw (fun ρ hL hT hO => ?_)
  refine m_shut_S (g0 := ρ 31 0 (22 * l + 0)) rfl hL (fun a ρ2 g h1 h2 => Or.inl ⟨g.2, k _ _ (Or.inl ⟨?_, Gb.of hT g.1 (fun c x y _ q => q), h1, fun i h0 h6 => by rw [h2 i h0 h6, hT 45 0 i trivial], rfl⟩)⟩) (fun a => Or.inr ⟨rfl, k _ _ (Or.inr ⟨fun q => a ?_, rfl, rfl⟩)⟩)
  · have e := hT 31 0 (22 * l + 0) (by simp only [Tb]; omega)
    omega
  · have e := hT 31 0 (22 * l + 0) (by simp only [Tb]; omega)
    omega
theorem a_keep {d : Nat} {P : Option Vl → Mm → Prop} {σ : Mm} {l x : Int} (k : ∀ (r : Int) (ρ : Mm), OKa σ l x ρ → P (some (vI r)) ρ) : WT eF (d + 4) 114 [vR 2 0, vI l, vI x] σ P := by
  refine WT_lw (fun ρ hL hT hO => ?_)
  have e0 := hT 7 l 0 (Or.inl rfl)
  have e1 := hT 7 l 1 (Or.inr (Or.inl rfl))
  have e2 := hT 7 l 2 (Or.inr (Or.inr rfl))
  refine s_keep_S hL hO (fun a r ρ2 g h1 h2 h3 => Or.inl ⟨g.2, k _ _ (Or.inl ⟨by omega, Gb.of hT g.1 ?_, by omega, by omega, by omega⟩)⟩) (fun a => Or.inr ⟨rfl, k _ _ (Or.inr ⟨by omega, rfl⟩)⟩)
  rintro c X y hb ⟨rfl, rfl, q⟩
  simp only [Tb] at hb
  exact ⟨rfl, rfl, hb⟩
theorem b_keep {d : Nat} {P : Option Vl → Mm → Prop} {σ : Mm} {l x : Int} (k : ∀ (r : Int) (ρ : Mm), OKb σ l x ρ → P (some (vI r)) ρ) : WT eF (d + 4) 254 [vR 30 0, vI l, vI x] σ P := by
  refine WT_lw (fun ρ hL hT hO => ?_)
  refine m_keep_S hL (fun a r ρ2 g h1 h2 h3 => Or.inl ⟨g.2, k _ _ (Or.inl ?_)⟩) (fun a => Or.inr ⟨rfl, k _ _ (Or.inr ⟨fun q => a ?_, rfl⟩)⟩)
  · have e0 := hT 31 0 (22 * l + 0) (by simp only [Tb]; omega)
    have e1 := hT 31 0 (22 * l + 1) (by simp only [Tb]; omega)
    exact ⟨by omega, Gb.of hT g.1 (fun c x y _ q => q), by omega, by omega, h3⟩
  · have e0 := hT 31 0 (22 * l + 0) (by simp only [Tb]; omega)
    omega
theorem a_back {d : Nat} {P : Option Vl → Mm → Prop} {σ : Mm} {l x : Int} (hl : 0 ≤ l ∧ l ≤ 3) (hn : 0 ≤ x → x ≤ 2 → σ 7 (x + 4) 1 = 1 → σ 7 (x + 4) 0 = l) (k : ∀ (r : Int) (ρ : Mm), OBa σ l x ρ → P (some (vI r)) ρ) : WT eF (d + 3) 115 [vR 2 0, vI x] σ P := by
  refine WT_lw (fun ρ hL hT hO => ?_)
  have e0 := hT 7 (x + 4) 0 (Or.inl rfl)
  have e1 := hT 7 (x + 4) 1 (Or.inr (Or.inl rfl))
  have e2 := hT 7 (x + 4) 2 (Or.inr (Or.inr rfl))
  refine s_back_S hL hO (l := l) hl (fun a b c => by have := hn a b (by omega); omega) (fun a r ρ2 g h1 h2 h3 h4 => Or.inl ⟨g.2, k _ _ (Or.inl ⟨by omega, Gb.of hT g.1 ?_, by omega, by omega, by omega, fun i h0 h6 => by rw [h4 i h0 h6, hT 13 i 0 rfl]⟩)⟩) (fun a => Or.inr ⟨rfl, k _ _ (Or.inr ⟨by omega, rfl⟩)⟩)
  rintro c X y hb (⟨rfl, rfl, q⟩ | q)
  · simp only [Tb] at hb
    exact Or.inl ⟨rfl, rfl, hb⟩
  · exact Or.inr q
theorem b_back {d : Nat} {P : Option Vl → Mm → Prop} {σ : Mm} {l x : Int} (hl : 0 ≤ l ∧ l ≤ 3) (hn : 0 ≤ x → x ≤ 2 → σ 31 0 (22 * (x + 4) + 0) = 1 → σ 31 0 (22 * (x + 4) + 21) = l) (k : ∀ (r : Int) (ρ : Mm), OBb σ l x ρ → P (some (vI r)) ρ) : WT eF (d + 4) 255 [vR 30 0, vI x] σ P := by
  refine WT_lw (fun ρ hL hT hO => ?_)
  have ee : ∀ f : Int, f = 0 ∨ f = 1 ∨ f = 21 → 0 ≤ x → x ≤ 2 → ρ 31 0 (22 * (x + 4) + f) = σ 31 0 (22 * (x + 4) + f) := fun f hf h0 h1 => hT 31 0 _ (by simp only [Tb]; omega)
  refine m_back_S hL (l := l) hl (fun a b c => ?_) (fun a r ρ2 g h1 h2 h3 => Or.inl ⟨g.2, k _ _ (Or.inl ?_)⟩) (fun a => Or.inr ⟨rfl, k _ _ (Or.inr ⟨fun q => a ?_, rfl⟩)⟩)
  · have e0 := ee 0 (by omega) a b
    have e2 := ee 21 (by omega) a b
    have := hn a b (by omega)
    omega
  · have e0 := ee 0 (by omega) (by omega) (by omega)
    have e1 := ee 1 (by omega) (by omega) (by omega)
    exact ⟨by omega, Gb.of hT g.1 (fun c x y _ q => q), by omega, by omega, fun i h0 h6 => by rw [h3 i h0 h6, hT 45 0 i trivial]⟩
  · have e0 := ee 0 (by omega) (by omega) (by omega)
    omega
-- each pair of calls that write keeps what ties both sides, and answers alike
theorem used_iff {S0 : Int → Int → Int} {σ : Mm} (h : Rw S0 σ) (v : Int) : (∃ i : Int, 0 ≤ i ∧ i ≤ 6 ∧ σ 7 i 1 = 1 ∧ σ 7 i 2 = v) ↔ (∃ i : Int, 0 ≤ i ∧ i ≤ 6 ∧ σ 31 0 (22 * i + 0) = 1 ∧ σ 31 0 (22 * i + 1) = v) := by
  constructor
  · rintro ⟨i, h0, h6, p, q⟩
    have := h.2.2.1 i h0 h6
    exact ⟨i, h0, h6, by omega, by omega⟩
  · rintro ⟨i, h0, h6, p, q⟩
    have := h.2.2.1 i h0 h6
    exact ⟨i, h0, h6, by omega, by omega⟩
theorem rw_table {S0 : Int → Int → Int} {σ ρ1 ρ2 : Mm} {x y r1 r2 : Int} (h : Rw S0 σ) (a : OTa σ x y r1 ρ1) (b : OTb ρ1 x y r2 ρ2) : Rw S0 ρ2 ∧ r1 = r2 := by
  have hu := used_iff h 9
  rcases a with ⟨⟨a1, a2⟩, a3, a4, rfl⟩ | ⟨a1, rfl, rfl⟩
  · have e31 : ∀ j : Int, ρ1 31 0 j = σ 31 0 j := fun j => a3 31 0 j (by omega)
    rcases b with ⟨⟨b1, b2⟩, b3, b4, rfl⟩ | ⟨b1, rfl, rfl⟩
    · refine ⟨⟨fun i j => ?_, fun i h0 h3 => ?_, fun i h0 h6 => ?_, fun i h4 h6 ho => ?_, fun i h0 h3 => ?_, fun j h0 h1 => ?_⟩, rfl⟩
      · rw [b3 0 i j (by omega), a3 0 i j (by omega)]; exact h.1 i j
      · rw [b3 7 i 0 (by omega), a3 7 i 0 (by omega)]; exact h.2.1 i h0 h3
      · rw [b3 7 i 1 (by omega), a3 7 i 1 (by omega), b3 7 i 2 (by omega), a3 7 i 2 (by omega), b3 31 0 _ (by omega), b3 31 0 _ (by omega), e31, e31]; exact h.2.2.1 i h0 h6
      · rw [b3 7 i 1 (by omega), a3 7 i 1 (by omega)] at ho
        rw [b3 7 i 0 (by omega), a3 7 i 0 (by omega), b3 31 0 _ (by omega), e31]; exact h.2.2.2.1 i h4 h6 ho
      · rw [b3 13 i 0 (by omega), a3 13 i 0 (by omega), b3 45 0 i (by omega), a3 45 0 i (by omega), b3 7 i 1 (by omega), a3 7 i 1 (by omega)]; exact h.2.2.2.2.1 i h0 h3
      · have hc := h.2.2.2.2.2 j h0 h1
        have z1 := b3 15 0 j (by omega)
        by_cases hj : j = x
        · subst hj
          omega
        · have z2 := a3 15 0 j (by omega)
          have z3 := b3 35 0 j (by omega)
          have z4 := a3 35 0 j (by omega)
          omega
    · exfalso
      refine b1 ⟨a1, fun q => a2 (hu.mpr ?_)⟩
      obtain ⟨i, h0, h6, p, q⟩ := q
      rw [e31] at p q
      exact ⟨i, h0, h6, p, q⟩
  · rcases b with ⟨⟨b1, b2⟩, b3, b4, rfl⟩ | ⟨b1, rfl, rfl⟩
    · exact absurd ⟨b1, fun q => b2 (hu.mp q)⟩ a1
    · exact ⟨h, rfl⟩
theorem rw_link {S0 : Int → Int → Int} {σ ρ1 ρ2 : Mm} {l o z w r1 r2 : Int} (h : Rw S0 σ) (a : OLa σ l o z w r1 ρ1) (b : OLb ρ1 l o z w r2 ρ2) : Rw S0 ρ2 ∧ r1 = r2 := by
  have hk := h.2.2.2.2.1
  have hl := h.2.2.1
  rcases a with ⟨⟨a1, a2⟩, a3, a4, rfl⟩ | ⟨a1, rfl, rfl⟩
  · obtain ⟨p1, p2, p3, p4, p5, p6, p7, p8, p9, p10, p11, p12⟩ := a1
    have e31 : ∀ j : Int, ρ1 31 0 j = σ 31 0 j := fun j => a3 31 0 j (by omega)
    have e45 : ∀ j : Int, ρ1 45 0 j = σ 45 0 j := fun j => a3 45 0 j (by omega)
    rcases b with ⟨⟨b1, b2⟩, b3, b4, rfl⟩ | ⟨b1, rfl, rfl⟩
    · refine ⟨⟨fun i j => ?_, fun i h0 h3 => ?_, fun i h0 h6 => ?_, fun i h4 h6 ho => ?_, fun i h0 h3 => ?_, fun j h0 h1 => ?_⟩, rfl⟩
      · rw [b3 0 i j (by omega), a3 0 i j (by omega)]; exact h.1 i j
      · rw [b3 7 i 0 (by omega), a3 7 i 0 (by omega)]; exact h.2.1 i h0 h3
      · rw [b3 7 i 1 (by omega), a3 7 i 1 (by omega), b3 7 i 2 (by omega), a3 7 i 2 (by omega), b3 31 0 _ (by omega), b3 31 0 _ (by omega), e31, e31]; exact hl i h0 h6
      · rw [b3 7 i 1 (by omega), a3 7 i 1 (by omega)] at ho
        rw [b3 7 i 0 (by omega), a3 7 i 0 (by omega), b3 31 0 _ (by omega), e31]; exact h.2.2.2.1 i h4 h6 ho
      · have z1 := b3 13 i 0 (by omega)
        have z2 := b3 7 i 1 (by omega)
        have z3 := a3 7 i 1 (by omega)
        by_cases hi : i = l
        · subst hi
          omega
        · have z4 := a3 13 i 0 (by omega)
          have z5 := b3 45 0 i (by omega)
          have z6 := e45 i
          have := hk i h0 h3
          omega
      · rw [b3 15 0 j (by omega), a3 15 0 j (by omega), b3 35 0 j (by omega), a3 35 0 j (by omega)]; exact h.2.2.2.2.2 j h0 h1
    · exfalso
      have q1 := hl l (by omega) (by omega)
      have q2 := hl o (by omega) (by omega)
      have q3 := hk o (by omega) (by omega)
      rw [q1.2.1] at p5
      refine b1 ⟨⟨p1, p2, by rw [e31]; omega, p4, by rw [e31]; exact p5, p6, p7, by rw [e31]; omega, p9, p10, p11, by rw [e45]; omega⟩, fun q => a2 ?_⟩
      obtain ⟨i, h0, h3, q⟩ := q
      rw [e45] at q
      have := hk i h0 h3
      exact ⟨i, h0, h3, by omega⟩
  · rcases b with ⟨⟨b1, b2⟩, b3, b4, rfl⟩ | ⟨b1, rfl, rfl⟩
    · exfalso
      obtain ⟨p1, p2, p3, p4, p5, p6, p7, p8, p9, p10, p11, p12⟩ := b1
      have q1 := hl l (by omega) (by omega)
      have q2 := hl o (by omega) (by omega)
      have q3 := hk o (by omega) (by omega)
      rw [← q1.2.1] at p5
      refine a1 ⟨⟨p1, p2, by omega, p4, p5, p6, p7, by omega, p9, p10, p11, by omega⟩, fun q => b2 ?_⟩
      obtain ⟨i, h0, h3, q⟩ := q
      have := hk i h0 h3
      exact ⟨i, h0, h3, by omega⟩
    · exact ⟨h, rfl⟩
theorem rw_unlink {S0 : Int → Int → Int} {σ ρ1 ρ2 : Mm} {l r1 r2 : Int} (h : Rw S0 σ) (a : OUa σ l r1 ρ1) (b : OUb ρ1 l r2 ρ2) : Rw S0 ρ2 ∧ r1 = r2 := by
  have hk := h.2.2.2.2.1
  have hl := h.2.2.1
  rcases a with ⟨a1, a3, a4, rfl⟩ | ⟨a1, rfl, rfl⟩
  · have e31 : ∀ j : Int, ρ1 31 0 j = σ 31 0 j := fun j => a3 31 0 j (by omega)
    have e45 : ∀ j : Int, ρ1 45 0 j = σ 45 0 j := fun j => a3 45 0 j (by omega)
    rcases b with ⟨b1, b3, b4, rfl⟩ | ⟨b1, rfl, rfl⟩
    · refine ⟨⟨fun i j => ?_, fun i h0 h3 => ?_, fun i h0 h6 => ?_, fun i h4 h6 ho => ?_, fun i h0 h3 => ?_, fun j h0 h1 => ?_⟩, rfl⟩
      · rw [b3 0 i j (by omega), a3 0 i j (by omega)]; exact h.1 i j
      · rw [b3 7 i 0 (by omega), a3 7 i 0 (by omega)]; exact h.2.1 i h0 h3
      · rw [b3 7 i 1 (by omega), a3 7 i 1 (by omega), b3 7 i 2 (by omega), a3 7 i 2 (by omega), b3 31 0 _ (by omega), b3 31 0 _ (by omega), e31, e31]; exact hl i h0 h6
      · rw [b3 7 i 1 (by omega), a3 7 i 1 (by omega)] at ho
        rw [b3 7 i 0 (by omega), a3 7 i 0 (by omega), b3 31 0 _ (by omega), e31]; exact h.2.2.2.1 i h4 h6 ho
      · have z1 := b3 13 i 0 (by omega)
        have z2 := b3 7 i 1 (by omega)
        have z3 := a3 7 i 1 (by omega)
        by_cases hi : i = l
        · subst hi
          omega
        · have z4 := a3 13 i 0 (by omega)
          have z5 := b3 45 0 i (by omega)
          have z6 := e45 i
          have := hk i h0 h3
          omega
      · rw [b3 15 0 j (by omega), a3 15 0 j (by omega), b3 35 0 j (by omega), a3 35 0 j (by omega)]; exact h.2.2.2.2.2 j h0 h1
    · exfalso
      have q1 := hl l (by omega) (by omega)
      have q3 := hk l (by omega) (by omega)
      have q4 := q3.2.2.2.2 a1.2.2
      exact b1 ⟨a1.1, a1.2.1, by rw [e31]; omega, by rw [e45]; omega⟩
  · rcases b with ⟨b1, b3, b4, rfl⟩ | ⟨b1, rfl, rfl⟩
    · exfalso
      have q3 := hk l (by omega) (by omega)
      omega
    · exact ⟨h, rfl⟩
theorem rw_open {S0 : Int → Int → Int} {σ ρ1 ρ2 : Mm} {l o b z y r1 r2 : Int} (h : Rw S0 σ) (a : OOa σ l o b z y r1 ρ1) (c : OOb ρ1 l o b z y r2 ρ2) : Rw S0 ρ2 ∧ r1 = r2 := by
  have hk := h.2.2.2.2.1
  have hl := h.2.2.1
  have hc := h.2.2.2.2.2
  have key : trpF 15 σ 3 = 64 ↔ fstA 35 σ (64 : Int).toNat < 0 := by
    have e1 : trpF 15 σ 3 = cntA 15 σ (64 : Int).toNat := if_pos rfl
    have e2 := cnt_eq (k := 15) (k2 := 35) (σ := σ) (ρ := σ) (fun j h0 h1 => (hc j h0 h1).1) (fun j h0 h1 => (hc j h0 h1).2) (64 : Int).toNat (by decide)
    have e3 := cnt_fst 35 σ (64 : Int).toNat
    have e4 : ((64 : Int).toNat : Int) = 64 := by decide
    rw [e1, e2.1]
    rw [e4] at e3
    omega
  rcases a with ⟨a1, a3, a4, a5, a6, rfl⟩ | ⟨a1, rfl, rfl⟩
  · have e35 : fstA 35 ρ1 (64 : Int).toNat = fstA 35 σ (64 : Int).toNat := (cnt_c (fun j => a3 35 0 j trivial (by omega)) _).2
    have e45 : ∀ j : Int, ρ1 45 0 j = σ 45 0 j := fun j => a3 45 0 j trivial (by omega)
    have hc7 : ∀ (i j : Int), j = 0 ∨ j = 1 ∨ j = 2 → ¬ (i = l ∧ (j = 1 ∨ j = 2)) → ρ1 7 i j = σ 7 i j := fun i j hj q => a3 7 i j hj (by omega)
    have hc31 : ∀ j : Int, Tb 31 j → ρ1 31 0 j = σ 31 0 j := fun j hj => a3 31 0 j hj (by omega)
    rcases c with ⟨b1, b3, b4, b5, b6, rfl⟩ | ⟨b1, rfl, rfl⟩
    · have hd7 : ∀ (i j : Int), j = 0 ∨ j = 1 ∨ j = 2 → ρ2 7 i j = ρ1 7 i j := fun i j hj => b3 7 i j hj (by omega)
      have T31 : ∀ i f : Int, 0 ≤ i → i ≤ 6 → f = 0 ∨ f = 1 ∨ f = 21 → Tb 31 (22 * i + f) := fun i f h0 h6 hf => by simp only [Tb]; omega
      have hd31 : ∀ i f : Int, 0 ≤ i → i ≤ 6 → f = 0 ∨ f = 1 ∨ f = 21 → i ≠ l → ρ2 31 0 (22 * i + f) = σ 31 0 (22 * i + f) := fun i f h0 h6 hf hi => (b3 31 0 _ (T31 i f h0 h6 hf) (by omega)).trans (hc31 _ (T31 i f h0 h6 hf))
      have L2 : ∀ i : Int, 0 ≤ i → i ≤ 6 → ρ2 7 i 1 = ρ2 31 0 (22 * i + 0) ∧ ρ2 7 i 2 = ρ2 31 0 (22 * i + 1) ∧ 0 ≤ ρ2 7 i 2 ∧ ρ2 7 i 2 ≤ 9 ∧ 0 ≤ ρ2 7 i 1 ∧ ρ2 7 i 1 ≤ 1 := fun i h0 h6 => by
        have z1 := hd7 i 1 (by omega)
        have z2 := hd7 i 2 (by omega)
        by_cases hi : i = l
        · subst hi
          omega
        · have z3 := hc7 i 1 (by omega) (by omega)
          have z4 := hc7 i 2 (by omega) (by omega)
          have z5 := hd31 i 0 h0 h6 (by omega) hi
          have z6 := hd31 i 1 h0 h6 (by omega) hi
          have := hl i h0 h6
          omega
      refine ⟨⟨fun i j => ?_, fun i h0 h3 => ?_, L2, fun i h4 h6 ho => ?_, fun i h0 h3 => ?_, fun j h0 h1 => ?_⟩, ?_⟩
      · rw [b3 0 i j trivial (by omega), a3 0 i j trivial (by omega)]; exact h.1 i j
      · rw [hd7 i 0 (by omega), hc7 i 0 (by omega) (by omega)]; exact h.2.1 i h0 h3
      · have hil : i ≠ l := by omega
        rw [hd7 i 1 (by omega), hc7 i 1 (by omega) (by omega)] at ho
        rw [hd7 i 0 (by omega), hc7 i 0 (by omega) (by omega), hd31 i 21 (by omega) h6 (by omega) hil]
        exact h.2.2.2.1 i h4 h6 ho
      · have z1 := b3 13 i 0 rfl (by omega)
        have z2 := a6 i h0 h3
        have z3 := b6 i h0 h3
        rw [e45] at z3
        have z4 := hk i h0 h3
        rw [← z4.1] at z3
        have z5 := hd7 i 1 (by omega)
        by_cases hi : i = l ∨ σ 13 i 0 = l
        · rw [if_pos hi] at z2 z3
          omega
        · rw [if_neg hi] at z2 z3
          have z6 := hc7 i 1 (by omega) (by omega)
          omega
      · rw [b3 15 0 j trivial (by omega), a3 15 0 j trivial (by omega), b3 35 0 j trivial (by omega), a3 35 0 j trivial (by omega)]; exact hc j h0 h1
      · have w0 := L2 0 (by omega) (by omega)
        have w1 := L2 1 (by omega) (by omega)
        have w2 := L2 2 (by omega) (by omega)
        have w3 := L2 3 (by omega) (by omega)
        have u0 := hd7 0 1 (by omega)
        have u1 := hd7 1 1 (by omega)
        have u2 := hd7 2 1 (by omega)
        have u3 := hd7 3 1 (by omega)
        omega
    · exfalso
      refine b1 ?_
      rw [e35]
      exact ⟨a1.1, a1.2.1, a1.2.2.1, a1.2.2.2.1, a1.2.2.2.2.1, a1.2.2.2.2.2.1, a1.2.2.2.2.2.2.1, fun q => key.mp (a1.2.2.2.2.2.2.2 q)⟩
  · rcases c with ⟨b1, b3, b4, b5, b6, rfl⟩ | ⟨b1, rfl, rfl⟩
    · exfalso
      exact a1 ⟨b1.1, b1.2.1, b1.2.2.1, b1.2.2.2.1, b1.2.2.2.2.1, b1.2.2.2.2.2.1, b1.2.2.2.2.2.2.1, fun q => key.mpr (b1.2.2.2.2.2.2.2 q)⟩
    · exact ⟨h, rfl⟩
theorem rw_shut {S0 : Int → Int → Int} {σ ρ1 ρ2 : Mm} {l r1 r2 : Int} (h : Rw S0 σ) (a : OSa σ l r1 ρ1) (c : OSb ρ1 l r2 ρ2) : Rw S0 ρ2 ∧ r1 = r2 := by
  have hk := h.2.2.2.2.1
  have hl := h.2.2.1
  have hc := h.2.2.2.2.2
  have T31 : ∀ i f : Int, 0 ≤ i → i ≤ 6 → f = 0 ∨ f = 1 ∨ f = 21 → Tb 31 (22 * i + f) := fun i f h0 h6 hf => by simp only [Tb]; omega
  rcases a with ⟨a1, a3, a4, a6, rfl⟩ | ⟨a1, rfl, rfl⟩
  · have e45 : ∀ j : Int, ρ1 45 0 j = σ 45 0 j := fun j => a3 45 0 j trivial (by omega)
    have hc7 : ∀ (i j : Int), j = 0 ∨ j = 1 ∨ j = 2 → ¬ (i = l ∧ j = 1) → ρ1 7 i j = σ 7 i j := fun i j hj q => a3 7 i j hj (by omega)
    have hc31 : ∀ j : Int, Tb 31 j → ρ1 31 0 j = σ 31 0 j := fun j hj => a3 31 0 j hj (by omega)
    rcases c with ⟨b1, b3, b4, b6, rfl⟩ | ⟨b1, rfl, rfl⟩
    · have hd7 : ∀ (i j : Int), j = 0 ∨ j = 1 ∨ j = 2 → ρ2 7 i j = ρ1 7 i j := fun i j hj => b3 7 i j hj (by omega)
      have hd31 : ∀ i f : Int, 0 ≤ i → i ≤ 6 → f = 0 ∨ f = 1 ∨ f = 21 → ¬ (i = l ∧ f = 0) → ρ2 31 0 (22 * i + f) = σ 31 0 (22 * i + f) := fun i f h0 h6 hf hi => (b3 31 0 _ (T31 i f h0 h6 hf) (by omega)).trans (hc31 _ (T31 i f h0 h6 hf))
      refine ⟨⟨fun i j => ?_, fun i h0 h3 => ?_, fun i h0 h6 => ?_, fun i h4 h6 ho => ?_, fun i h0 h3 => ?_, fun j h0 h1 => ?_⟩, rfl⟩
      · rw [b3 0 i j trivial (by omega), a3 0 i j trivial (by omega)]; exact h.1 i j
      · rw [hd7 i 0 (by omega), hc7 i 0 (by omega) (by omega)]; exact h.2.1 i h0 h3
      · have z1 := hd7 i 1 (by omega)
        have z2 := hd7 i 2 (by omega)
        have z4 := hc7 i 2 (by omega) (by omega)
        have z6 := hd31 i 1 h0 h6 (by omega) (by omega)
        have := hl i h0 h6
        by_cases hi : i = l
        · subst hi
          omega
        · have z3 := hc7 i 1 (by omega) (by omega)
          have z5 := hd31 i 0 h0 h6 (by omega) (by omega)
          omega
      · have hil : i ≠ l := by omega
        rw [hd7 i 1 (by omega), hc7 i 1 (by omega) (by omega)] at ho
        rw [hd7 i 0 (by omega), hc7 i 0 (by omega) (by omega), hd31 i 21 (by omega) h6 (by omega) (by omega)]
        exact h.2.2.2.1 i h4 h6 ho
      · have z1 := b3 13 i 0 rfl (by omega)
        have z2 := a6 i h0 h3
        have z3 := b6 i h0 h3
        rw [e45] at z3
        have z4 := hk i h0 h3
        rw [← z4.1] at z3
        have z5 := hd7 i 1 (by omega)
        by_cases hi : i = l ∨ σ 13 i 0 = l
        · rw [if_pos hi] at z2 z3
          omega
        · rw [if_neg hi] at z2 z3
          have z6 := hc7 i 1 (by omega) (by omega)
          omega
      · rw [b3 15 0 j trivial (by omega), a3 15 0 j trivial (by omega), b3 35 0 j trivial (by omega), a3 35 0 j trivial (by omega)]; exact hc j h0 h1
    · exfalso
      have z := hc31 _ (T31 l 0 (by omega) (by omega) (by omega))
      have := hl l (by omega) (by omega)
      omega
  · rcases c with ⟨b1, b3, b4, b6, rfl⟩ | ⟨b1, rfl, rfl⟩
    · exfalso
      have := hl l (by omega) (by omega)
      omega
    · exact ⟨h, rfl⟩
theorem rw_keep {S0 : Int → Int → Int} {σ ρ1 ρ2 : Mm} {l x : Int} (h : Rw S0 σ) (a : OKa σ l x ρ1) (c : OKb ρ1 l x ρ2) : Rw S0 ρ2 := by
  have hk := h.2.2.2.2.1
  have hl := h.2.2.1
  have hc := h.2.2.2.2.2
  have T31 : ∀ i f : Int, 0 ≤ i → i ≤ 6 → f = 0 ∨ f = 1 ∨ f = 21 → Tb 31 (22 * i + f) := fun i f h0 h6 hf => by simp only [Tb]; omega
  rcases a with ⟨a1, a3, a4, a5, a6⟩ | ⟨a1, rfl⟩
  · have hc7 : ∀ (i j : Int), j = 0 ∨ j = 1 ∨ j = 2 → i ≠ x + 4 → ρ1 7 i j = σ 7 i j := fun i j hj q => a3 7 i j hj (by omega)
    have hc31 : ∀ j : Int, Tb 31 j → ρ1 31 0 j = σ 31 0 j := fun j hj => a3 31 0 j hj (by omega)
    rcases c with ⟨b1, b3, b4, b5, b6⟩ | ⟨b1, rfl⟩
    · have hd7 : ∀ (i j : Int), j = 0 ∨ j = 1 ∨ j = 2 → ρ2 7 i j = ρ1 7 i j := fun i j hj => b3 7 i j hj (by omega)
      have hd31 : ∀ i f : Int, 0 ≤ i → i ≤ 6 → f = 0 ∨ f = 1 ∨ f = 21 → i ≠ x + 4 → ρ2 31 0 (22 * i + f) = σ 31 0 (22 * i + f) := fun i f h0 h6 hf hi => (b3 31 0 _ (T31 i f h0 h6 hf) (by omega)).trans (hc31 _ (T31 i f h0 h6 hf))
      have y0 := hc31 _ (T31 l 0 (by omega) (by omega) (by omega))
      have y1 := hc31 _ (T31 l 1 (by omega) (by omega) (by omega))
      refine ⟨fun i j => ?_, fun i h0 h3 => ?_, fun i h0 h6 => ?_, fun i h4 h6 ho => ?_, fun i h0 h3 => ?_, fun j h0 h1 => ?_⟩
      · rw [b3 0 i j trivial (by omega), a3 0 i j trivial (by omega)]; exact h.1 i j
      · rw [hd7 i 0 (by omega), hc7 i 0 (by omega) (by omega)]; exact h.2.1 i h0 h3
      · have z1 := hd7 i 1 (by omega)
        have z2 := hd7 i 2 (by omega)
        by_cases hi : i = x + 4
        · subst hi
          have := hl l (by omega) (by omega)
          omega
        · have z3 := hc7 i 1 (by omega) (by omega)
          have z4 := hc7 i 2 (by omega) (by omega)
          have z5 := hd31 i 0 h0 h6 (by omega) (by omega)
          have z6 := hd31 i 1 h0 h6 (by omega) (by omega)
          have := hl i h0 h6
          omega
      · have z1 := hd7 i 1 (by omega)
        have z0 := hd7 i 0 (by omega)
        by_cases hi : i = x + 4
        · subst hi
          have := h.2.1 l (by omega) (by omega)
          omega
        · have z3 := hc7 i 1 (by omega) (by omega)
          have z4 := hc7 i 0 (by omega) (by omega)
          have z5 := hd31 i 21 (by omega) h6 (by omega) (by omega)
          have := h.2.2.2.1 i h4 h6 (by omega)
          omega
      · rw [b3 13 i 0 rfl (by omega), a3 13 i 0 rfl (by omega), b3 45 0 i trivial (by omega), a3 45 0 i trivial (by omega), hd7 i 1 (by omega), hc7 i 1 (by omega) (by omega)]
        exact hk i h0 h3
      · rw [b3 15 0 j trivial (by omega), a3 15 0 j trivial (by omega), b3 35 0 j trivial (by omega), a3 35 0 j trivial (by omega)]; exact hc j h0 h1
    · exfalso
      have z := hc31 _ (T31 l 0 (by omega) (by omega) (by omega))
      have := hl l (by omega) (by omega)
      omega
  · rcases c with ⟨b1, b3, b4, b5, b6⟩ | ⟨b1, rfl⟩
    · exfalso
      have := hl l (by omega) (by omega)
      omega
    · exact h
def bl (σ : Mm) (x : Int) : Int := if 0 ≤ x ∧ x ≤ 2 ∧ σ 7 (x + 4) 1 = 1 then σ 7 (x + 4) 0 else 0
theorem bl_ok {S0 : Int → Int → Int} {σ : Mm} (h : Rw S0 σ) (x : Int) : (0 ≤ bl σ x ∧ bl σ x ≤ 3) ∧ (0 ≤ x → x ≤ 2 → σ 7 (x + 4) 1 = 1 → σ 7 (x + 4) 0 = bl σ x) := by
  unfold bl
  by_cases hx : 0 ≤ x ∧ x ≤ 2 ∧ σ 7 (x + 4) 1 = 1
  · rw [if_pos hx]
    have := h.2.2.2.1 (x + 4) (by omega) (by omega) hx.2.2
    exact ⟨this.2, fun _ _ _ => rfl⟩
  · rw [if_neg hx]
    exact ⟨⟨by omega, by omega⟩, fun a b c => absurd ⟨a, b, c⟩ hx⟩
theorem bl_ok2 {S0 : Int → Int → Int} {σ ρ1 : Mm} {x : Int} (h : Rw S0 σ) (a : OBa σ (bl σ x) x ρ1) : 0 ≤ x → x ≤ 2 → ρ1 31 0 (22 * (x + 4) + 0) = 1 → ρ1 31 0 (22 * (x + 4) + 21) = bl σ x := fun h0 h2 ho => by
  have hb := bl_ok h x
  have q := h.2.2.1 (x + 4) (by omega) (by omega)
  rcases a with ⟨a1, a3, -⟩ | ⟨a1, rfl⟩
  · have z0 := a3 31 0 (22 * (x + 4) + 0) (by simp only [Tb]; omega) (by omega)
    have z1 := a3 31 0 (22 * (x + 4) + 21) (by simp only [Tb]; omega) (by omega)
    have q2 := h.2.2.2.1 (x + 4) (by omega) (by omega) (by omega)
    have q3 := hb.2 h0 h2 (by omega)
    omega
  · have q2 := h.2.2.2.1 (x + 4) (by omega) (by omega) (by omega)
    have q3 := hb.2 h0 h2 (by omega)
    omega
theorem rw_back {S0 : Int → Int → Int} {σ ρ1 ρ2 : Mm} {x : Int} (h : Rw S0 σ) (a : OBa σ (bl σ x) x ρ1) (c : OBb ρ1 (bl σ x) x ρ2) : Rw S0 ρ2 := by
  have hk := h.2.2.2.2.1
  have hl := h.2.2.1
  have hc := h.2.2.2.2.2
  have hb := bl_ok h x
  revert a c hb
  generalize bl σ x = l
  intro a c hb
  have T31 : ∀ i f : Int, 0 ≤ i → i ≤ 6 → f = 0 ∨ f = 1 ∨ f = 21 → Tb 31 (22 * i + f) := fun i f h0 h6 hf => by simp only [Tb]; omega
  rcases a with ⟨a1, a3, a4, a5, a7, a6⟩ | ⟨a1, rfl⟩
  · have e45 : ∀ j : Int, ρ1 45 0 j = σ 45 0 j := fun j => a3 45 0 j trivial (by omega)
    have hc7 : ∀ (i j : Int), j = 0 ∨ j = 1 ∨ j = 2 → i ≠ l → ρ1 7 i j = σ 7 i j := fun i j hj q => a3 7 i j hj (by omega)
    have hc31 : ∀ j : Int, Tb 31 j → ρ1 31 0 j = σ 31 0 j := fun j hj => a3 31 0 j hj (by omega)
    have hx := hl (x + 4) (by omega) (by omega)
    have hnx := hb.2 (by omega) (by omega) (by omega)
    rcases c with ⟨b1, b3, b4, b5, b6⟩ | ⟨b1, rfl⟩
    · have hd7 : ∀ (i j : Int), j = 0 ∨ j = 1 ∨ j = 2 → ρ2 7 i j = ρ1 7 i j := fun i j hj => b3 7 i j hj (by omega)
      have hd31 : ∀ i f : Int, 0 ≤ i → i ≤ 6 → f = 0 ∨ f = 1 ∨ f = 21 → i ≠ l → ρ2 31 0 (22 * i + f) = σ 31 0 (22 * i + f) := fun i f h0 h6 hf hi => (b3 31 0 _ (T31 i f h0 h6 hf) (by omega)).trans (hc31 _ (T31 i f h0 h6 hf))
      have y0 := hc31 _ (T31 (x + 4) 0 (by omega) (by omega) (by omega))
      have y1 := hc31 _ (T31 (x + 4) 1 (by omega) (by omega) (by omega))
      refine ⟨fun i j => ?_, fun i h0 h3 => ?_, fun i h0 h6 => ?_, fun i h4 h6 ho => ?_, fun i h0 h3 => ?_, fun j h0 h1 => ?_⟩
      · rw [b3 0 i j trivial (by omega), a3 0 i j trivial (by omega)]; exact h.1 i j
      · have z0 := hd7 i 0 (by omega)
        by_cases hi : i = l
        · subst hi
          omega
        · have z1 := hc7 i 0 (by omega) hi
          have := h.2.1 i h0 h3
          omega
      · have z1 := hd7 i 1 (by omega)
        have z2 := hd7 i 2 (by omega)
        by_cases hi : i = l
        · subst hi
          omega
        · have z3 := hc7 i 1 (by omega) (by omega)
          have z4 := hc7 i 2 (by omega) (by omega)
          have z5 := hd31 i 0 h0 h6 (by omega) (by omega)
          have z6 := hd31 i 1 h0 h6 (by omega) (by omega)
          have := hl i h0 h6
          omega
      · have hil : i ≠ l := by omega
        rw [hd7 i 1 (by omega), hc7 i 1 (by omega) (by omega)] at ho
        rw [hd7 i 0 (by omega), hc7 i 0 (by omega) (by omega), hd31 i 21 (by omega) h6 (by omega) (by omega)]
        exact h.2.2.2.1 i h4 h6 ho
      · have z1 := b3 13 i 0 rfl (by omega)
        have z2 := a6 i h0 h3
        have z3 := b6 i h0 h3
        rw [e45] at z3
        have z4 := hk i h0 h3
        rw [← z4.1] at z3
        have z5 := hd7 i 1 (by omega)
        by_cases hi : i = l ∨ σ 13 i 0 = l
        · rw [if_pos hi] at z2 z3
          omega
        · rw [if_neg hi] at z2 z3
          have z6 := hc7 i 1 (by omega) (by omega)
          omega
      · rw [b3 15 0 j trivial (by omega), a3 15 0 j trivial (by omega), b3 35 0 j trivial (by omega), a3 35 0 j trivial (by omega)]; exact hc j h0 h1
    · exfalso
      have y0 := hc31 _ (T31 (x + 4) 0 (by omega) (by omega) (by omega))
      omega
  · rcases c with ⟨b1, b3, b4, b5, b6⟩ | ⟨b1, rfl⟩
    · exfalso
      have := hl (x + 4) (by omega) (by omega)
      omega
    · exact h
-- element, told whole
def cB (p : Int → Bool) : Nat → Int
  | 0 => 0
  | n + 1 => cB p n + (if p (n : Int) = true then 1 else 0)
def fB (p : Int → Bool) : Nat → Int
  | 0 => -1
  | n + 1 => if fB p n = -1 then (if p (n : Int) = true then (n : Int) else -1) else fB p n
theorem cB_y {p : Int → Bool} {t : Int} (h0 : 0 ≤ t) (h : p t = true) : cB p (t + 1).toNat = cB p t.toNat + 1 := by
  rw [nat_succ h0]
  show cB p t.toNat + (if p (t.toNat : Int) = true then 1 else 0) = _
  rw [Int.toNat_of_nonneg h0, if_pos h]
theorem cB_n {p : Int → Bool} {t : Int} (h0 : 0 ≤ t) (h : ¬ p t = true) : cB p (t + 1).toNat = cB p t.toNat := by
  rw [nat_succ h0]
  show cB p t.toNat + (if p (t.toNat : Int) = true then 1 else 0) = _
  rw [Int.toNat_of_nonneg h0, if_neg h]
  omega
theorem cB_at {p : Int → Bool} {k t : Int} (h : k = cB p t.toNat) (ht : t = 4) : k = cB p (4 : Int).toNat := by
  subst ht; exact h
theorem fB_n {p : Int → Bool} {t : Int} (h0 : 0 ≤ t) (h : ¬ p t = true) : fB p (t + 1).toNat = fB p t.toNat := by
  rw [nat_succ h0]
  show (if fB p t.toNat = -1 then (if p (t.toNat : Int) = true then (t.toNat : Int) else -1) else fB p t.toNat) = _
  rw [Int.toNat_of_nonneg h0, if_neg h]
  split <;> omega
theorem fB_new {p : Int → Bool} {t : Int} (h0 : 0 ≤ t) (hf : fB p t.toNat = -1) (h : p t = true) : fB p (t + 1).toNat = t := by
  rw [nat_succ h0]
  show (if fB p t.toNat = -1 then (if p (t.toNat : Int) = true then (t.toNat : Int) else -1) else fB p t.toNat) = _
  rw [Int.toNat_of_nonneg h0, if_pos hf, if_pos h]
theorem fB_stay {p : Int → Bool} {n m : Nat} {x : Int} (h : fB p n = x) (hx : x ≠ -1) (hm : n ≤ m) : fB p m = x := by
  induction m with
  | zero => rw [show n = 0 from by omega] at h; exact h
  | succ m ih =>
    by_cases e : n = m + 1
    · rw [← e]; exact h
    · have q := ih (by omega)
      show (if fB p m = -1 then _ else fB p m) = x
      rw [if_neg (by omega)]
      exact q
theorem cB_all {p : Int → Bool} : ∀ n : Nat, cB p n ≤ n ∧ (cB p n = n → ∀ j : Int, 0 ≤ j → j < n → p j = true)
  | 0 => ⟨Int.le_refl _, fun _ j h0 h1 => by omega⟩
  | n + 1 => by
    obtain ⟨h1, h2⟩ := cB_all (p := p) n
    have e : cB p (n + 1) = cB p n + (if p (n : Int) = true then 1 else 0) := rfl
    by_cases hp : p (n : Int) = true
    · rw [e, if_pos hp]
      refine ⟨by omega, fun h j g0 g1 => ?_⟩
      by_cases hj : j = n
      · rw [hj]; exact hp
      · exact h2 (by omega) j g0 (by omega)
    · rw [e, if_neg hp]
      exact ⟨by omega, fun h => by omega⟩
def its (w e x : Int) : Int := if w = 0 then x else e
def pb (k : Nat) (σ : Mm) (w e x : Int) : Bool := pr k σ e x == its w e x && pr k σ x e == its w e x
def qq (k : Nat) (σ : Mm) (w e : Int) : Bool := decide (cB (pb k σ w e) (4 : Int).toNat = 4)
theorem pb_y {k : Nat} {σ : Mm} {w e x i : Int} (hi : its w e x = i) (h1 : pr k σ e x = i) (h2 : pr k σ x e = i) : pb k σ w e x = true := by
  unfold pb; rw [hi, h1, h2]; simp
theorem pb_n1 {k : Nat} {σ : Mm} {w e x i : Int} (hi : its w e x = i) (h1 : ¬ pr k σ e x = i) : ¬ pb k σ w e x = true := by
  unfold pb; rw [hi]; intro q; simp at q; exact h1 q.1
theorem pb_n2 {k : Nat} {σ : Mm} {w e x i : Int} (hi : its w e x = i) (h1 : ¬ pr k σ x e = i) : ¬ pb k σ w e x = true := by
  unfold pb; rw [hi]; intro q; simp at q; exact h1 q.2
theorem qq_y {k : Nat} {σ : Mm} {w e c : Int} (h : c = cB (pb k σ w e) (4 : Int).toNat) (hc : c = 4) : qq k σ w e = true := by
  unfold qq; rw [← h]; exact decide_eq_true hc
theorem qq_n {k : Nat} {σ : Mm} {w e c : Int} (h : c = cB (pb k σ w e) (4 : Int).toNat) (hc : ¬ c = 4) : ¬ qq k σ w e = true := by
  unfold qq; rw [← h]; intro q; exact hc (of_decide_eq_true q)
theorem qq_no {k : Nat} {σ : Mm} {w e x : Int} (h0 : 0 ≤ x) (h1 : x < 4) (h : ¬ pb k σ w e x = true) : ¬ qq k σ w e = true := by
  unfold qq
  intro q
  have e4 : ((4 : Int).toNat : Int) = 4 := by decide
  exact h ((cB_all (p := pb k σ w e) (4 : Int).toNat).2 ((of_decide_eq_true q).trans (by decide)) x h0 (by omega))
def ip (k : Nat) (σ : Mm) (x : Int) : Bool := pr k σ x x == x
theorem ip_y {k : Nat} {σ : Mm} {x : Int} (h : pr k σ x x = x) : ip k σ x = true := by unfold ip; rw [h]; exact beq_self_eq_true _
theorem ip_n {k : Nat} {σ : Mm} {x : Int} (h : ¬ pr k σ x x = x) : ¬ ip k σ x = true := by unfold ip; intro q; exact h (eq_of_beq q)
def cq (k : Nat) (σ : Mm) (v : Int) : Bool := pr k σ (v / 4) (v % 4) == pr k σ (v % 4) (v / 4)
theorem cq_y {k : Nat} {σ : Mm} {v : Int} (h : pr k σ (v / 4) (v % 4) = pr k σ (v % 4) (v / 4)) : cq k σ v = true := by unfold cq; rw [h]; exact beq_self_eq_true _
theorem cq_n {k : Nat} {σ : Mm} {v : Int} (h : ¬ pr k σ (v / 4) (v % 4) = pr k σ (v % 4) (v / 4)) : ¬ cq k σ v = true := by unfold cq; intro q; exact h (eq_of_beq q)
theorem cq_y2 {k : Nat} {σ : Mm} {x y : Int} (h0 : 0 ≤ y ∧ y < 4) (h : pr k σ x y = pr k σ y x) : cq k σ (4 * x + y) = true := cq_y (by rw [show (4 * x + y) / 4 = x from by omega, show (4 * x + y) % 4 = y from by omega]; exact h)
theorem cq_n2 {k : Nat} {σ : Mm} {x y : Int} (h0 : 0 ≤ y ∧ y < 4) (h : ¬ pr k σ x y = pr k σ y x) : ¬ cq k σ (4 * x + y) = true := cq_n (by rw [show (4 * x + y) / 4 = x from by omega, show (4 * x + y) % 4 = y from by omega]; exact h)
def elF (k : Nat) (σ : Mm) (w : Int) : Int := if w = 0 then fB (qq k σ 0) (4 : Int).toNat else if w = 1 then fB (qq k σ 1) (4 : Int).toNat else if w = 2 then cB (ip k σ) (4 : Int).toNat else if w = 3 then cB (cq k σ) (16 : Int).toNat else -1
theorem cB_eq {p q : Int → Bool} : ∀ n : Nat, (∀ j : Int, 0 ≤ j → j < n → p j = q j) → cB p n = cB q n
  | 0, _ => rfl
  | n + 1, h => by
    show cB p n + (if p (n : Int) = true then 1 else 0) = cB q n + (if q (n : Int) = true then 1 else 0)
    rw [cB_eq n fun j h0 h1 => h j h0 (by omega), h n (by omega) (by omega)]
theorem fB_eq {p q : Int → Bool} : ∀ n : Nat, (∀ j : Int, 0 ≤ j → j < n → p j = q j) → fB p n = fB q n
  | 0, _ => rfl
  | n + 1, h => by
    show (if fB p n = -1 then (if p (n : Int) = true then (n : Int) else -1) else fB p n) = (if fB q n = -1 then (if q (n : Int) = true then (n : Int) else -1) else fB q n)
    rw [fB_eq n fun j h0 h1 => h j h0 (by omega), h n (by omega) (by omega)]
theorem el_eq {S0 : Int → Int → Int} {σ : Mm} (hR : Rw S0 σ) (w : Int) : elF 15 σ w = elF 35 σ w := by
  have hp : ∀ x y : Int, 0 ≤ x → x < 4 → 0 ≤ y → y < 4 → pr 15 σ x y = pr 35 σ x y := fun x y h0 h1 h2 h3 => (hR.2.2.2.2.2 (4 * x + y) (by omega) (by omega)).1
  have hq : ∀ w e : Int, 0 ≤ e → e < ((4 : Int).toNat : Int) → qq 15 σ w e = qq 35 σ w e := fun w e h0 h1 => by
    have e4 : ((4 : Int).toNat : Int) = 4 := by decide
    unfold qq
    rw [cB_eq (p := pb 15 σ w e) (q := pb 35 σ w e) (4 : Int).toNat fun j g0 g1 => by
      unfold pb
      rw [hp e j (by omega) (by omega) (by omega) (by omega), hp j e (by omega) (by omega) (by omega) (by omega)]]
  have e4 : ((4 : Int).toNat : Int) = 4 := by decide
  have e16 : ((16 : Int).toNat : Int) = 16 := by decide
  unfold elF
  rw [fB_eq _ (hq 0), fB_eq _ (hq 1), cB_eq (p := ip 15 σ) (q := ip 35 σ) (4 : Int).toNat fun j g0 g1 => by unfold ip; rw [hp j j (by omega) (by omega) (by omega) (by omega)], cB_eq (p := cq 15 σ) (q := cq 35 σ) (16 : Int).toNat fun j g0 g1 => by unfold cq; rw [hp (j / 4) (j % 4) (by omega) (by omega) (by omega) (by omega), hp (j % 4) (j / 4) (by omega) (by omega) (by omega) (by omega)]]
theorem s_firstNeutralX {e : Ev} {d : Nat} {P : Option Vl → Mm → Prop} {σ : Mm}   (k : P (some (vI (fB (qq 15 σ 0) (4 : Int).toNat))) σ) : WT e (d + 2) 53 [vR 2 0] σ P := by
  refine WT_in fun K hK => ?_
  have hK : StpY e cX5_firstNeutral RX5 (some .int) (WT e (d + 1)) P K := hK
  have hM := hK.1
  have hC := hK.1.1
  show K 0 [some (vR 2 0), none, none, none] [] σ
  refine r_iconst hC dX5_firstNeutral_0 rfl ?_
  refine r_istore_n hC dX5_firstNeutral_1 rfl ?_
  have L2 : ∀ (n2 : Nat) (w1 : Int), 0 ≤ w1 ∧ w1 ≤ 4 → (-1 = fB (qq 15 σ 0) ((w1)).toNat) → 4 - w1 < (n2 : Int) → K 2 [some (vR 2 0), some (vI w1), none, none] [] σ := by
    intro n2
    induction n2 with
    | zero => intro w1  f_w1 i0_2 hm  ; omega
    | succ n2 ih2 =>
      intro w1  f_w1 i0_2 hm2  
      refine r_iload_n hC dX5_firstNeutral_2 rfl ?_
      refine r_iconst hC dX5_firstNeutral_3 rfl ?_
      refine r_icmp_ge (tgt := 63) hC dX5_firstNeutral_4 rfl (fun h2 => ?_) (fun h2 => ?_)
      · refine r_iconst hC dX5_firstNeutral_63 rfl ?_
        refine y_iret hK rfl dX5_firstNeutral_64 ?_
        obtain rfl : w1 = 4 := by omega
        rw [← i0_2] at k
        exact k
      · refine r_iconst hC dX5_firstNeutral_7 rfl ?_
        refine r_istore_n hC dX5_firstNeutral_8 rfl ?_
        refine r_iconst hC dX5_firstNeutral_9 rfl ?_
        refine r_istore_n hC dX5_firstNeutral_10 rfl ?_
        have L11 : ∀ (n11 : Nat) (w3 w4 : Int), 0 ≤ w3 ∧ w3 ≤ 4 → 0 ≤ w4 ∧ w4 ≤ 4 → ((w4) = cB (pb 15 σ 0 (w1)) ((w3)).toNat) → ((w4) ≤ (w3)) → 4 - w3 < (n11 : Int) → K 11 [some (vR 2 0), some (vI w1), some (vI w4), some (vI w3)] [] σ := by
          intro n11
          induction n11 with
          | zero => intro w3 w4  f_w3 f_w4 i0_11 i1_11 hm  ; omega
          | succ n11 ih11 =>
            intro w3 w4  f_w3 f_w4 i0_11 i1_11 hm11  
            refine r_iload_n hC dX5_firstNeutral_11 rfl ?_
            refine r_iconst hC dX5_firstNeutral_12 rfl ?_
            refine r_icmp_ge (tgt := 50) hC dX5_firstNeutral_13 rfl (fun h5 => ?_) (fun h5 => ?_)
            · refine r_iload_n hC dX5_firstNeutral_50 rfl ?_
              refine r_iconst hC dX5_firstNeutral_51 rfl ?_
              refine r_icmp_ne (tgt := 57) hC dX5_firstNeutral_52 rfl (fun h6 => ?_) (fun h6 => ?_)
              · refine r_iincE hC ((w1 + 1)) dX5_firstNeutral_57 rfl rfl (by omega) (by unfold inR; omega) ?_
                refine r_goto (tgt := 2) hC dX5_firstNeutral_60 rfl ?_
                refine r_forget hC (ls2 := [some (vR 2 0), some (vI (w1 + 1)), none, none]) (lsub_some (lsub_some (lsub_none (lsub_none lsub_nil)))) ?_
                exact ih2 ((w1 + 1))  (by omega) (by first | rfl | (rw [fB_n (by omega) (qq_n (cB_at i0_11 (by omega)) (by omega))]; exact i0_2)) (by omega)  
              · refine r_iload_n hC dX5_firstNeutral_55 rfl ?_
                refine y_iret hK rfl dX5_firstNeutral_56 ?_
                have e := fB_stay (m := (4 : Int).toNat) (fB_new (by omega) i0_2.symm (qq_y (cB_at i0_11 (by omega)) (by omega))) (by omega) (by omega)
                rw [e] at k
                exact k
            · refine r_iload_n hC dX5_firstNeutral_16 rfl ?_
              refine r_aload_n hC dX5_firstNeutral_17 rfl ?_
              refine r_iload_n hC dX5_firstNeutral_18 rfl ?_
              refine r_iload_n hC dX5_firstNeutral_19 rfl ?_
              refine z_inv2 hM dX5_firstNeutral_20 vl_RX5_90 rfl rfl rfl (Nat.le_of_ble_eq_true rfl) (Nat.le_of_ble_eq_true rfl) ?_
              refine s_productX (by omega) (by omega) (fun h7 => ?_)
              refine r_iload_n hC dX5_firstNeutral_23 rfl ?_
              refine r_icmp_ne (tgt := 41) hC dX5_firstNeutral_24 rfl (fun h8 => ?_) (fun h8 => ?_)
              · refine r_iconst hC dX5_firstNeutral_41 rfl ?_
                refine r_iaddE hC (w4) dX5_firstNeutral_42 (by omega) (by unfold inR; omega) ?_
                refine r_istore_n hC dX5_firstNeutral_43 rfl ?_
                refine r_iincE hC ((w3 + 1)) dX5_firstNeutral_44 rfl rfl (by omega) (by unfold inR; omega) ?_
                refine r_goto (tgt := 11) hC dX5_firstNeutral_47 rfl ?_
                exact ih11 ((w3 + 1)) (w4)  (by omega) (by omega) (by first | rfl | (rw [cB_y (by omega) (pb_y (i := w3) rfl (by assumption) (by assumption))]; omega) | (rw [cB_n (by omega) (pb_n1 (i := w3) rfl (by assumption))]; omega) | (rw [cB_n (by omega) (pb_n2 (i := w3) rfl (by assumption))]; omega)) (by omega) (by omega)  
              · refine r_aload_n hC dX5_firstNeutral_27 rfl ?_
                refine r_iload_n hC dX5_firstNeutral_28 rfl ?_
                refine r_iload_n hC dX5_firstNeutral_29 rfl ?_
                refine z_inv2 hM dX5_firstNeutral_30 vl_RX5_90 rfl rfl rfl (Nat.le_of_ble_eq_true rfl) (Nat.le_of_ble_eq_true rfl) ?_
                refine s_productX (by omega) (by omega) (fun h9 => ?_)
                refine r_iload_n hC dX5_firstNeutral_33 rfl ?_
                refine r_icmp_ne (tgt := 41) hC dX5_firstNeutral_34 rfl (fun h10 => ?_) (fun h10 => ?_)
                · refine r_iconst hC dX5_firstNeutral_41 rfl ?_
                  refine r_iaddE hC (w4) dX5_firstNeutral_42 (by omega) (by unfold inR; omega) ?_
                  refine r_istore_n hC dX5_firstNeutral_43 rfl ?_
                  refine r_iincE hC ((w3 + 1)) dX5_firstNeutral_44 rfl rfl (by omega) (by unfold inR; omega) ?_
                  refine r_goto (tgt := 11) hC dX5_firstNeutral_47 rfl ?_
                  exact ih11 ((w3 + 1)) (w4)  (by omega) (by omega) (by first | rfl | (rw [cB_y (by omega) (pb_y (i := w3) rfl (by assumption) (by assumption))]; omega) | (rw [cB_n (by omega) (pb_n1 (i := w3) rfl (by assumption))]; omega) | (rw [cB_n (by omega) (pb_n2 (i := w3) rfl (by assumption))]; omega)) (by omega) (by omega)  
                · refine r_iconst hC dX5_firstNeutral_37 rfl ?_
                  refine r_goto (tgt := 42) hC dX5_firstNeutral_38 rfl ?_
                  refine r_iaddE hC ((w4 + 1)) dX5_firstNeutral_42 (by omega) (by unfold inR; omega) ?_
                  refine r_istore_n hC dX5_firstNeutral_43 rfl ?_
                  refine r_iincE hC ((w3 + 1)) dX5_firstNeutral_44 rfl rfl (by omega) (by unfold inR; omega) ?_
                  refine r_goto (tgt := 11) hC dX5_firstNeutral_47 rfl ?_
                  exact ih11 ((w3 + 1)) ((w4 + 1))  (by omega) (by omega) (by first | rfl | (rw [cB_y (by omega) (pb_y (i := w3) rfl (by assumption) (by assumption))]; omega) | (rw [cB_n (by omega) (pb_n1 (i := w3) rfl (by assumption))]; omega) | (rw [cB_n (by omega) (pb_n2 (i := w3) rfl (by assumption))]; omega)) (by omega) (by omega)  
        exact L11 6 (0) (0)  (by omega) (by omega) (by first | rfl | (rw [cB_y (by omega) (pb_y (i := w3) rfl (by assumption) (by assumption))]; omega) | (rw [cB_n (by omega) (pb_n1 (i := w3) rfl (by assumption))]; omega) | (rw [cB_n (by omega) (pb_n2 (i := w3) rfl (by assumption))]; omega)) (by omega) (by omega)  
  exact L2 6 (0)  (by omega) (by first | rfl | (rw [fB_n (by omega) (qq_n (cB_at i0_11 (by omega)) (by omega))]; exact i0_2)) (by omega)  
theorem s_firstAbsorbingX {e : Ev} {d : Nat} {P : Option Vl → Mm → Prop} {σ : Mm}   (k : P (some (vI (fB (qq 15 σ 1) (4 : Int).toNat))) σ) : WT e (d + 2) 54 [vR 2 0] σ P := by
  refine WT_in fun K hK => ?_
  have hK : StpY e cX5_firstAbsorbing RX5 (some .int) (WT e (d + 1)) P K := hK
  have hM := hK.1
  have hC := hK.1.1
  show K 0 [some (vR 2 0), none, none, none] [] σ
  refine r_iconst hC dX5_firstAbsorbing_0 rfl ?_
  refine r_istore_n hC dX5_firstAbsorbing_1 rfl ?_
  have L2 : ∀ (n2 : Nat) (w1 : Int), 0 ≤ w1 ∧ w1 ≤ 4 → (-1 = fB (qq 15 σ 1) ((w1)).toNat) → 4 - w1 < (n2 : Int) → K 2 [some (vR 2 0), some (vI w1), none, none] [] σ := by
    intro n2
    induction n2 with
    | zero => intro w1  f_w1 i0_2 hm  ; omega
    | succ n2 ih2 =>
      intro w1  f_w1 i0_2 hm2  
      refine r_iload_n hC dX5_firstAbsorbing_2 rfl ?_
      refine r_iconst hC dX5_firstAbsorbing_3 rfl ?_
      refine r_icmp_ge (tgt := 63) hC dX5_firstAbsorbing_4 rfl (fun h2 => ?_) (fun h2 => ?_)
      · refine r_iconst hC dX5_firstAbsorbing_63 rfl ?_
        refine y_iret hK rfl dX5_firstAbsorbing_64 ?_
        obtain rfl : w1 = 4 := by omega
        rw [← i0_2] at k
        exact k
      · refine r_iconst hC dX5_firstAbsorbing_7 rfl ?_
        refine r_istore_n hC dX5_firstAbsorbing_8 rfl ?_
        refine r_iconst hC dX5_firstAbsorbing_9 rfl ?_
        refine r_istore_n hC dX5_firstAbsorbing_10 rfl ?_
        have L11 : ∀ (n11 : Nat) (w3 w4 : Int), 0 ≤ w3 ∧ w3 ≤ 4 → 0 ≤ w4 ∧ w4 ≤ 4 → ((w4) = cB (pb 15 σ 1 (w1)) ((w3)).toNat) → ((w4) ≤ (w3)) → 4 - w3 < (n11 : Int) → K 11 [some (vR 2 0), some (vI w1), some (vI w4), some (vI w3)] [] σ := by
          intro n11
          induction n11 with
          | zero => intro w3 w4  f_w3 f_w4 i0_11 i1_11 hm  ; omega
          | succ n11 ih11 =>
            intro w3 w4  f_w3 f_w4 i0_11 i1_11 hm11  
            refine r_iload_n hC dX5_firstAbsorbing_11 rfl ?_
            refine r_iconst hC dX5_firstAbsorbing_12 rfl ?_
            refine r_icmp_ge (tgt := 50) hC dX5_firstAbsorbing_13 rfl (fun h5 => ?_) (fun h5 => ?_)
            · refine r_iload_n hC dX5_firstAbsorbing_50 rfl ?_
              refine r_iconst hC dX5_firstAbsorbing_51 rfl ?_
              refine r_icmp_ne (tgt := 57) hC dX5_firstAbsorbing_52 rfl (fun h6 => ?_) (fun h6 => ?_)
              · refine r_iincE hC ((w1 + 1)) dX5_firstAbsorbing_57 rfl rfl (by omega) (by unfold inR; omega) ?_
                refine r_goto (tgt := 2) hC dX5_firstAbsorbing_60 rfl ?_
                refine r_forget hC (ls2 := [some (vR 2 0), some (vI (w1 + 1)), none, none]) (lsub_some (lsub_some (lsub_none (lsub_none lsub_nil)))) ?_
                exact ih2 ((w1 + 1))  (by omega) (by first | rfl | (rw [fB_n (by omega) (qq_n (cB_at i0_11 (by omega)) (by omega))]; exact i0_2)) (by omega)  
              · refine r_iload_n hC dX5_firstAbsorbing_55 rfl ?_
                refine y_iret hK rfl dX5_firstAbsorbing_56 ?_
                have e := fB_stay (m := (4 : Int).toNat) (fB_new (by omega) i0_2.symm (qq_y (cB_at i0_11 (by omega)) (by omega))) (by omega) (by omega)
                rw [e] at k
                exact k
            · refine r_iload_n hC dX5_firstAbsorbing_16 rfl ?_
              refine r_aload_n hC dX5_firstAbsorbing_17 rfl ?_
              refine r_iload_n hC dX5_firstAbsorbing_18 rfl ?_
              refine r_iload_n hC dX5_firstAbsorbing_19 rfl ?_
              refine z_inv2 hM dX5_firstAbsorbing_20 vl_RX5_90 rfl rfl rfl (Nat.le_of_ble_eq_true rfl) (Nat.le_of_ble_eq_true rfl) ?_
              refine s_productX (by omega) (by omega) (fun h7 => ?_)
              refine r_iload_n hC dX5_firstAbsorbing_23 rfl ?_
              refine r_icmp_ne (tgt := 41) hC dX5_firstAbsorbing_24 rfl (fun h8 => ?_) (fun h8 => ?_)
              · refine r_iconst hC dX5_firstAbsorbing_41 rfl ?_
                refine r_iaddE hC (w4) dX5_firstAbsorbing_42 (by omega) (by unfold inR; omega) ?_
                refine r_istore_n hC dX5_firstAbsorbing_43 rfl ?_
                refine r_iincE hC ((w3 + 1)) dX5_firstAbsorbing_44 rfl rfl (by omega) (by unfold inR; omega) ?_
                refine r_goto (tgt := 11) hC dX5_firstAbsorbing_47 rfl ?_
                exact ih11 ((w3 + 1)) (w4)  (by omega) (by omega) (by first | rfl | (rw [cB_y (by omega) (pb_y (i := w1) rfl (by assumption) (by assumption))]; omega) | (rw [cB_n (by omega) (pb_n1 (i := w1) rfl (by assumption))]; omega) | (rw [cB_n (by omega) (pb_n2 (i := w1) rfl (by assumption))]; omega)) (by omega) (by omega)  
              · refine r_aload_n hC dX5_firstAbsorbing_27 rfl ?_
                refine r_iload_n hC dX5_firstAbsorbing_28 rfl ?_
                refine r_iload_n hC dX5_firstAbsorbing_29 rfl ?_
                refine z_inv2 hM dX5_firstAbsorbing_30 vl_RX5_90 rfl rfl rfl (Nat.le_of_ble_eq_true rfl) (Nat.le_of_ble_eq_true rfl) ?_
                refine s_productX (by omega) (by omega) (fun h9 => ?_)
                refine r_iload_n hC dX5_firstAbsorbing_33 rfl ?_
                refine r_icmp_ne (tgt := 41) hC dX5_firstAbsorbing_34 rfl (fun h10 => ?_) (fun h10 => ?_)
                · refine r_iconst hC dX5_firstAbsorbing_41 rfl ?_
                  refine r_iaddE hC (w4) dX5_firstAbsorbing_42 (by omega) (by unfold inR; omega) ?_
                  refine r_istore_n hC dX5_firstAbsorbing_43 rfl ?_
                  refine r_iincE hC ((w3 + 1)) dX5_firstAbsorbing_44 rfl rfl (by omega) (by unfold inR; omega) ?_
                  refine r_goto (tgt := 11) hC dX5_firstAbsorbing_47 rfl ?_
                  exact ih11 ((w3 + 1)) (w4)  (by omega) (by omega) (by first | rfl | (rw [cB_y (by omega) (pb_y (i := w1) rfl (by assumption) (by assumption))]; omega) | (rw [cB_n (by omega) (pb_n1 (i := w1) rfl (by assumption))]; omega) | (rw [cB_n (by omega) (pb_n2 (i := w1) rfl (by assumption))]; omega)) (by omega) (by omega)  
                · refine r_iconst hC dX5_firstAbsorbing_37 rfl ?_
                  refine r_goto (tgt := 42) hC dX5_firstAbsorbing_38 rfl ?_
                  refine r_iaddE hC ((w4 + 1)) dX5_firstAbsorbing_42 (by omega) (by unfold inR; omega) ?_
                  refine r_istore_n hC dX5_firstAbsorbing_43 rfl ?_
                  refine r_iincE hC ((w3 + 1)) dX5_firstAbsorbing_44 rfl rfl (by omega) (by unfold inR; omega) ?_
                  refine r_goto (tgt := 11) hC dX5_firstAbsorbing_47 rfl ?_
                  exact ih11 ((w3 + 1)) ((w4 + 1))  (by omega) (by omega) (by first | rfl | (rw [cB_y (by omega) (pb_y (i := w1) rfl (by assumption) (by assumption))]; omega) | (rw [cB_n (by omega) (pb_n1 (i := w1) rfl (by assumption))]; omega) | (rw [cB_n (by omega) (pb_n2 (i := w1) rfl (by assumption))]; omega)) (by omega) (by omega)  
        exact L11 6 (0) (0)  (by omega) (by omega) (by first | rfl | (rw [cB_y (by omega) (pb_y (i := w1) rfl (by assumption) (by assumption))]; omega) | (rw [cB_n (by omega) (pb_n1 (i := w1) rfl (by assumption))]; omega) | (rw [cB_n (by omega) (pb_n2 (i := w1) rfl (by assumption))]; omega)) (by omega) (by omega)  
  exact L2 6 (0)  (by omega) (by first | rfl | (rw [fB_n (by omega) (qq_n (cB_at i0_11 (by omega)) (by omega))]; exact i0_2)) (by omega)  
theorem s_idempotentsX {e : Ev} {d : Nat} {P : Option Vl → Mm → Prop} {σ : Mm}   (k : P (some (vI (cB (ip 15 σ) (4 : Int).toNat))) σ) : WT e (d + 2) 55 [vR 2 0] σ P := by
  refine WT_in fun K hK => ?_
  have hK : StpY e cX5_idempotents RX5 (some .int) (WT e (d + 1)) P K := hK
  have hM := hK.1
  have hC := hK.1.1
  show K 0 [some (vR 2 0), none, none] [] σ
  refine r_iconst hC dX5_idempotents_0 rfl ?_
  refine r_istore_n hC dX5_idempotents_1 rfl ?_
  refine r_iconst hC dX5_idempotents_2 rfl ?_
  refine r_istore_n hC dX5_idempotents_3 rfl ?_
  have L4 : ∀ (n4 : Nat) (w1 w2 : Int), 0 ≤ w1 ∧ w1 ≤ 4 → 0 ≤ w2 ∧ w2 ≤ 4 → ((w2) = cB (ip 15 σ) ((w1)).toNat) → ((w2) ≤ (w1)) → 4 - w1 < (n4 : Int) → K 4 [some (vR 2 0), some (vI w2), some (vI w1)] [] σ := by
    intro n4
    induction n4 with
    | zero => intro w1 w2  f_w1 f_w2 i0_4 i1_4 hm  ; omega
    | succ n4 ih4 =>
      intro w1 w2  f_w1 f_w2 i0_4 i1_4 hm4  
      refine r_iload_n hC dX5_idempotents_4 rfl ?_
      refine r_iconst hC dX5_idempotents_5 rfl ?_
      refine r_icmp_ge (tgt := 33) hC dX5_idempotents_6 rfl (fun h3 => ?_) (fun h3 => ?_)
      · refine r_iload_n hC dX5_idempotents_33 rfl ?_
        refine y_iret hK rfl dX5_idempotents_34 ?_
        obtain rfl : w1 = 4 := by omega
        rw [← i0_4] at k
        exact k
      · refine r_iload_n hC dX5_idempotents_9 rfl ?_
        refine r_aload_n hC dX5_idempotents_10 rfl ?_
        refine r_iload_n hC dX5_idempotents_11 rfl ?_
        refine r_iload_n hC dX5_idempotents_12 rfl ?_
        refine z_inv2 hM dX5_idempotents_13 vl_RX5_90 rfl rfl rfl (Nat.le_of_ble_eq_true rfl) (Nat.le_of_ble_eq_true rfl) ?_
        refine s_productX (by omega) (by omega) (fun h4 => ?_)
        refine r_iload_n hC dX5_idempotents_16 rfl ?_
        refine r_icmp_ne (tgt := 24) hC dX5_idempotents_17 rfl (fun h5 => ?_) (fun h5 => ?_)
        · refine r_iconst hC dX5_idempotents_24 rfl ?_
          refine r_iaddE hC (w2) dX5_idempotents_25 (by omega) (by unfold inR; omega) ?_
          refine r_istore_n hC dX5_idempotents_26 rfl ?_
          refine r_iincE hC ((w1 + 1)) dX5_idempotents_27 rfl rfl (by omega) (by unfold inR; omega) ?_
          refine r_goto (tgt := 4) hC dX5_idempotents_30 rfl ?_
          exact ih4 ((w1 + 1)) (w2)  (by omega) (by omega) (by first | rfl | (rw [cB_y (by omega) (ip_y (by assumption))]; omega) | (rw [cB_n (by omega) (ip_n (by assumption))]; omega)) (by omega) (by omega)  
        · refine r_iconst hC dX5_idempotents_20 rfl ?_
          refine r_goto (tgt := 25) hC dX5_idempotents_21 rfl ?_
          refine r_iaddE hC ((w2 + 1)) dX5_idempotents_25 (by omega) (by unfold inR; omega) ?_
          refine r_istore_n hC dX5_idempotents_26 rfl ?_
          refine r_iincE hC ((w1 + 1)) dX5_idempotents_27 rfl rfl (by omega) (by unfold inR; omega) ?_
          refine r_goto (tgt := 4) hC dX5_idempotents_30 rfl ?_
          exact ih4 ((w1 + 1)) ((w2 + 1))  (by omega) (by omega) (by first | rfl | (rw [cB_y (by omega) (ip_y (by assumption))]; omega) | (rw [cB_n (by omega) (ip_n (by assumption))]; omega)) (by omega) (by omega)  
  exact L4 6 (0) (0)  (by omega) (by omega) (by first | rfl | (rw [cB_y (by omega) (ip_y (by assumption))]; omega) | (rw [cB_n (by omega) (ip_n (by assumption))]; omega)) (by omega) (by omega)  
theorem s_commutingX {e : Ev} {d : Nat} {P : Option Vl → Mm → Prop} {σ : Mm}   (k : P (some (vI (cB (cq 15 σ) (16 : Int).toNat))) σ) : WT e (d + 2) 56 [vR 2 0] σ P := by
  refine WT_in fun K hK => ?_
  have hK : StpY e cX5_commutingPairs RX5 (some .int) (WT e (d + 1)) P K := hK
  have hM := hK.1
  have hC := hK.1.1
  show K 0 [some (vR 2 0), none, none, none] [] σ
  refine r_iconst hC dX5_commutingPairs_0 rfl ?_
  refine r_istore_n hC dX5_commutingPairs_1 rfl ?_
  refine r_iconst hC dX5_commutingPairs_2 rfl ?_
  refine r_istore_n hC dX5_commutingPairs_3 rfl ?_
  have L4 : ∀ (n4 : Nat) (w1 w2 : Int), 0 ≤ w1 ∧ w1 ≤ 16 → 0 ≤ w2 ∧ w2 ≤ 4 → ((w1) = cB (cq 15 σ) (4 * (w2)).toNat) → ((w1) ≤ 4 * (w2)) → 4 - w2 < (n4 : Int) → K 4 [some (vR 2 0), some (vI w1), some (vI w2), none] [] σ := by
    intro n4
    induction n4 with
    | zero => intro w1 w2  f_w1 f_w2 i0_4 i1_4 hm  ; omega
    | succ n4 ih4 =>
      intro w1 w2  f_w1 f_w2 i0_4 i1_4 hm4  
      refine r_iload_n hC dX5_commutingPairs_4 rfl ?_
      refine r_iconst hC dX5_commutingPairs_5 rfl ?_
      refine r_icmp_ge (tgt := 51) hC dX5_commutingPairs_6 rfl (fun h3 => ?_) (fun h3 => ?_)
      · refine r_iload_n hC dX5_commutingPairs_51 rfl ?_
        refine y_iret hK rfl dX5_commutingPairs_52 ?_
        obtain rfl : w2 = 4 := by omega
        rw [show (4 * (4 : Int)) = 16 from rfl] at i0_4
        rw [← i0_4] at k
        exact k
      · refine r_iconst hC dX5_commutingPairs_9 rfl ?_
        refine r_istore_n hC dX5_commutingPairs_10 rfl ?_
        have L11 : ∀ (n11 : Nat) (w4 w5 : Int), 0 ≤ w4 ∧ w4 ≤ 4 → 0 ≤ w5 ∧ w5 ≤ 16 → ((w5) = cB (cq 15 σ) (4 * (w2) + (w4)).toNat) → ((w5) ≤ 4 * (w2) + (w4)) → 4 - w4 < (n11 : Int) → K 11 [some (vR 2 0), some (vI w5), some (vI w2), some (vI w4)] [] σ := by
          intro n11
          induction n11 with
          | zero => intro w4 w5  f_w4 f_w5 i0_11 i1_11 hm  ; omega
          | succ n11 ih11 =>
            intro w4 w5  f_w4 f_w5 i0_11 i1_11 hm11  
            refine r_iload_n hC dX5_commutingPairs_11 rfl ?_
            refine r_iconst hC dX5_commutingPairs_12 rfl ?_
            refine r_icmp_ge (tgt := 45) hC dX5_commutingPairs_13 rfl (fun h6 => ?_) (fun h6 => ?_)
            · refine r_iincE hC ((w2 + 1)) dX5_commutingPairs_45 rfl rfl (by omega) (by unfold inR; omega) ?_
              refine r_goto (tgt := 4) hC dX5_commutingPairs_48 rfl ?_
              refine r_forget hC (ls2 := [some (vR 2 0), some (vI w5), some (vI (w2 + 1)), none]) (lsub_some (lsub_some (lsub_some (lsub_none lsub_nil)))) ?_
              exact ih4 (w5) ((w2 + 1))  (by omega) (by omega) (by first | rfl | exact i0_11.trans (congrArg (fun z : Int => cB (cq 15 σ) z.toNat) (by omega))) (by omega) (by omega)  
            · refine r_iload_n hC dX5_commutingPairs_16 rfl ?_
              refine r_aload_n hC dX5_commutingPairs_17 rfl ?_
              refine r_iload_n hC dX5_commutingPairs_18 rfl ?_
              refine r_iload_n hC dX5_commutingPairs_19 rfl ?_
              refine z_inv2 hM dX5_commutingPairs_20 vl_RX5_90 rfl rfl rfl (Nat.le_of_ble_eq_true rfl) (Nat.le_of_ble_eq_true rfl) ?_
              refine s_productX (by omega) (by omega) (fun h7 => ?_)
              refine r_aload_n hC dX5_commutingPairs_23 rfl ?_
              refine r_iload_n hC dX5_commutingPairs_24 rfl ?_
              refine r_iload_n hC dX5_commutingPairs_25 rfl ?_
              refine z_inv2 hM dX5_commutingPairs_26 vl_RX5_90 rfl rfl rfl (Nat.le_of_ble_eq_true rfl) (Nat.le_of_ble_eq_true rfl) ?_
              refine s_productX (by omega) (by omega) (fun h8 => ?_)
              refine r_icmp_ne (tgt := 36) hC dX5_commutingPairs_29 rfl (fun h9 => ?_) (fun h9 => ?_)
              · refine r_iconst hC dX5_commutingPairs_36 rfl ?_
                refine r_iaddE hC (w5) dX5_commutingPairs_37 (by omega) (by unfold inR; omega) ?_
                refine r_istore_n hC dX5_commutingPairs_38 rfl ?_
                refine r_iincE hC ((w4 + 1)) dX5_commutingPairs_39 rfl rfl (by omega) (by unfold inR; omega) ?_
                refine r_goto (tgt := 11) hC dX5_commutingPairs_42 rfl ?_
                exact ih11 ((w4 + 1)) (w5)  (by omega) (by omega) (by first | (rw [Int.add_zero]; exact i0_4) | (rw [show 4 * w2 + (w4 + 1) = 4 * w2 + w4 + 1 from by omega, cB_y (by omega) (cq_y2 (by omega) (by assumption))]; omega) | (rw [show 4 * w2 + (w4 + 1) = 4 * w2 + w4 + 1 from by omega, cB_n (by omega) (cq_n2 (by omega) (by assumption))]; omega)) (by omega) (by omega)  
              · refine r_iconst hC dX5_commutingPairs_32 rfl ?_
                refine r_goto (tgt := 37) hC dX5_commutingPairs_33 rfl ?_
                refine r_iaddE hC ((w5 + 1)) dX5_commutingPairs_37 (by omega) (by unfold inR; omega) ?_
                refine r_istore_n hC dX5_commutingPairs_38 rfl ?_
                refine r_iincE hC ((w4 + 1)) dX5_commutingPairs_39 rfl rfl (by omega) (by unfold inR; omega) ?_
                refine r_goto (tgt := 11) hC dX5_commutingPairs_42 rfl ?_
                exact ih11 ((w4 + 1)) ((w5 + 1))  (by omega) (by omega) (by first | (rw [Int.add_zero]; exact i0_4) | (rw [show 4 * w2 + (w4 + 1) = 4 * w2 + w4 + 1 from by omega, cB_y (by omega) (cq_y2 (by omega) (by assumption))]; omega) | (rw [show 4 * w2 + (w4 + 1) = 4 * w2 + w4 + 1 from by omega, cB_n (by omega) (cq_n2 (by omega) (by assumption))]; omega)) (by omega) (by omega)  
        exact L11 6 (0) (w1)  (by omega) (by omega) (by first | (rw [Int.add_zero]; exact i0_4) | (rw [show 4 * w2 + (w4 + 1) = 4 * w2 + w4 + 1 from by omega, cB_y (by omega) (cq_y2 (by omega) (by assumption))]; omega) | (rw [show 4 * w2 + (w4 + 1) = 4 * w2 + w4 + 1 from by omega, cB_n (by omega) (cq_n2 (by omega) (by assumption))]; omega)) (by omega) (by omega)  
  exact L4 6 (0) (0)  (by omega) (by omega) (by first | rfl | exact i0_11.trans (congrArg (fun z : Int => cB (cq 15 σ) z.toNat) (by omega))) (by omega) (by omega)  
theorem s_elementX {e : Ev} {d : Nat} {P : Option Vl → Mm → Prop} {σ : Mm} {w : Int}   (k : P (some (vI (elF 15 σ w))) σ) : WT e (d + 3) 50 [vR 2 0, vI w] σ P := by
  refine WT_in fun K hK => ?_
  have hK : StpY e cX5_element RX5 (some .int) (WT e (d + 2)) P K := hK
  have hM := hK.1
  have hC := hK.1.1
  show K 0 [some (vR 2 0), some (vI w)] [] σ
  refine r_rngz hC (fun g0 => ?_)
  have r_w : -2147483648 ≤ w ∧ w ≤ 2147483647 := inR_le (g0 (vI w) (by simp))
  refine r_iload_n hC dX5_element_0 rfl ?_
  rcases (by omega : (w < 0 ∨ 3 < w) ∨ w = 0 ∨ w = 1 ∨ w = 2 ∨ w = 3) with h1 | h1 | h1 | h1 | h1
  · refine r_tableOut (tgt := 52) hC dX5_element_1 h1 rfl ?_
    refine r_iconst hC dX5_element_52 rfl ?_
    refine y_iret hK rfl dX5_element_53 ?_
    have e : elF 15 σ w = (-1) := by unfold elF; (repeat' split) <;> first | rfl | omega
    rw [e] at k
    exact k
  · refine r_tableIn (tgt := 32) (off := 31) hC dX5_element_1 (by omega) (by omega) (by rw [h1]; rfl) rfl ?_
    refine r_aload_n hC dX5_element_32 rfl ?_
    refine z_inv0 hM dX5_element_33 vl_RX5_77 rfl rfl rfl (Nat.le_of_ble_eq_true rfl) (Nat.le_of_ble_eq_true rfl) ?_
    refine s_firstNeutralX ?_
    refine y_iret hK rfl dX5_element_36 ?_
    have e : elF 15 σ w = (fB (qq 15 σ 0) (4 : Int).toNat) := by unfold elF; (repeat' split) <;> first | rfl | omega
    rw [e] at k
    exact k
  · refine r_tableIn (tgt := 37) (off := 36) hC dX5_element_1 (by omega) (by omega) (by rw [h1]; rfl) rfl ?_
    refine r_aload_n hC dX5_element_37 rfl ?_
    refine z_inv0 hM dX5_element_38 vl_RX5_81 rfl rfl rfl (Nat.le_of_ble_eq_true rfl) (Nat.le_of_ble_eq_true rfl) ?_
    refine s_firstAbsorbingX ?_
    refine y_iret hK rfl dX5_element_41 ?_
    have e : elF 15 σ w = (fB (qq 15 σ 1) (4 : Int).toNat) := by unfold elF; (repeat' split) <;> first | rfl | omega
    rw [e] at k
    exact k
  · refine r_tableIn (tgt := 42) (off := 41) hC dX5_element_1 (by omega) (by omega) (by rw [h1]; rfl) rfl ?_
    refine r_aload_n hC dX5_element_42 rfl ?_
    refine z_inv0 hM dX5_element_43 vl_RX5_84 rfl rfl rfl (Nat.le_of_ble_eq_true rfl) (Nat.le_of_ble_eq_true rfl) ?_
    refine s_idempotentsX ?_
    refine y_iret hK rfl dX5_element_46 ?_
    have e : elF 15 σ w = (cB (ip 15 σ) (4 : Int).toNat) := by unfold elF; (repeat' split) <;> first | rfl | omega
    rw [e] at k
    exact k
  · refine r_tableIn (tgt := 47) (off := 46) hC dX5_element_1 (by omega) (by omega) (by rw [h1]; rfl) rfl ?_
    refine r_aload_n hC dX5_element_47 rfl ?_
    refine z_inv0 hM dX5_element_48 vl_RX5_87 rfl rfl rfl (Nat.le_of_ble_eq_true rfl) (Nat.le_of_ble_eq_true rfl) ?_
    refine s_commutingX ?_
    refine y_iret hK rfl dX5_element_51 ?_
    have e : elF 15 σ w = (cB (cq 15 σ) (16 : Int).toNat) := by unfold elF; (repeat' split) <;> first | rfl | omega
    rw [e] at k
    exact k
theorem m_isSuchX {e : Ev} {d : Nat} {P : Option Vl → Mm → Prop} {σ : Mm} {e_ w : Int} (b_e_ : 0 ≤ e_ ∧ e_ ≤ 3) (b_w : 0 ≤ w ∧ w ≤ 1)  (k1 : qq 35 σ w e_ = true → P (some (vI 1)) σ) (k0 : ¬ qq 35 σ w e_ = true → P (some (vI 0)) σ) : WT e (d + 2) 150 [vR 30 0, vI e_, vI w] σ P := by
  refine WT_in fun K hK => ?_
  have hK : StpY e cX6_isSuch RX6 (some .boolean) (WT e (d + 1)) P K := hK
  have hM := hK.1
  have hC := hK.1.1
  show K 0 [some (vR 30 0), some (vI e_), some (vI w), none, none] [] σ
  refine r_iconst hC dX6_isSuch_0 rfl ?_
  refine r_istore_n hC dX6_isSuch_1 rfl ?_
  have L2 : ∀ (n2 : Nat) (w1 : Int), 0 ≤ w1 ∧ w1 ≤ 4 → ((w1) = cB (pb 35 σ w e_) ((w1)).toNat) → 4 - w1 < (n2 : Int) → K 2 [some (vR 30 0), some (vI e_), some (vI w), some (vI w1), none] [] σ := by
    intro n2
    induction n2 with
    | zero => intro w1  f_w1 i0_2 hm  ; omega
    | succ n2 ih2 =>
      intro w1  f_w1 i0_2 hm2  
      refine r_iload_n hC dX6_isSuch_2 rfl ?_
      refine r_iconst hC dX6_isSuch_3 rfl ?_
      refine r_icmp_ge (tgt := 48) hC dX6_isSuch_4 rfl (fun h2 => ?_) (fun h2 => ?_)
      · refine r_iconst hC dX6_isSuch_48 rfl ?_
        refine y_zret hK rfl dX6_isSuch_49 (by omega) ?_
        exact k1 (qq_y (cB_at i0_2 (by omega)) (by omega))
      · refine r_iload_n hC dX6_isSuch_7 rfl ?_
        refine r_if_ne (tgt := 15) hC dX6_isSuch_8 rfl (fun h3 => ?_) (fun h3 => ?_)
        · refine r_iload_n hC dX6_isSuch_15 rfl ?_
          refine r_istore hC dX6_isSuch_16 rfl ?_
          refine r_aload_n hC dX6_isSuch_18 rfl ?_
          refine r_iload_n hC dX6_isSuch_19 rfl ?_
          refine r_iload_n hC dX6_isSuch_20 rfl ?_
          refine z_inv2 hM dX6_isSuch_21 vl_RX6_88 rfl rfl rfl (Nat.le_of_ble_eq_true rfl) (Nat.le_of_ble_eq_true rfl) ?_
          refine m_productX (by omega) (by omega) (fun h4 => ?_)
          refine r_iload hC dX6_isSuch_24 rfl ?_
          refine r_icmp_ne (tgt := 40) hC dX6_isSuch_26 rfl (fun h5 => ?_) (fun h5 => ?_)
          · refine r_iconst hC dX6_isSuch_40 rfl ?_
            refine y_zret hK rfl dX6_isSuch_41 (by omega) ?_
            first | exact k0 (qq_no (x := w1) (by omega) (by omega) (pb_n1 (i := e_) (by unfold its; first | exact if_pos (by omega) | exact if_neg (by omega)) (by omega))) | exact k0 (qq_no (x := w1) (by omega) (by omega) (pb_n2 (i := e_) (by unfold its; first | exact if_pos (by omega) | exact if_neg (by omega)) (by omega)))
          · refine r_aload_n hC dX6_isSuch_29 rfl ?_
            refine r_iload_n hC dX6_isSuch_30 rfl ?_
            refine r_iload_n hC dX6_isSuch_31 rfl ?_
            refine z_inv2 hM dX6_isSuch_32 vl_RX6_88 rfl rfl rfl (Nat.le_of_ble_eq_true rfl) (Nat.le_of_ble_eq_true rfl) ?_
            refine m_productX (by omega) (by omega) (fun h6 => ?_)
            refine r_iload hC dX6_isSuch_35 rfl ?_
            refine r_icmp_eq (tgt := 42) hC dX6_isSuch_37 rfl (fun h7 => ?_) (fun h7 => ?_)
            · refine r_iincE hC ((w1 + 1)) dX6_isSuch_42 rfl rfl (by omega) (by unfold inR; omega) ?_
              refine r_goto (tgt := 2) hC dX6_isSuch_45 rfl ?_
              refine r_forget hC (ls2 := [some (vR 30 0), some (vI e_), some (vI w), some (vI (w1 + 1)), none]) (lsub_some (lsub_some (lsub_some (lsub_some (lsub_none lsub_nil))))) ?_
              exact ih2 ((w1 + 1))  (by omega) (by first | rfl | (rw [cB_y (by omega) (pb_y (i := w1) (by unfold its; first | exact if_pos (by omega) | exact if_neg (by omega)) (by omega) (by omega))]; omega) | (rw [cB_y (by omega) (pb_y (i := e_) (by unfold its; first | exact if_pos (by omega) | exact if_neg (by omega)) (by omega) (by omega))]; omega)) (by omega)  
            · refine r_iconst hC dX6_isSuch_40 rfl ?_
              refine y_zret hK rfl dX6_isSuch_41 (by omega) ?_
              first | exact k0 (qq_no (x := w1) (by omega) (by omega) (pb_n1 (i := e_) (by unfold its; first | exact if_pos (by omega) | exact if_neg (by omega)) (by omega))) | exact k0 (qq_no (x := w1) (by omega) (by omega) (pb_n2 (i := e_) (by unfold its; first | exact if_pos (by omega) | exact if_neg (by omega)) (by omega)))
        · refine r_iload_n hC dX6_isSuch_11 rfl ?_
          refine r_goto (tgt := 16) hC dX6_isSuch_12 rfl ?_
          refine r_istore hC dX6_isSuch_16 rfl ?_
          refine r_aload_n hC dX6_isSuch_18 rfl ?_
          refine r_iload_n hC dX6_isSuch_19 rfl ?_
          refine r_iload_n hC dX6_isSuch_20 rfl ?_
          refine z_inv2 hM dX6_isSuch_21 vl_RX6_88 rfl rfl rfl (Nat.le_of_ble_eq_true rfl) (Nat.le_of_ble_eq_true rfl) ?_
          refine m_productX (by omega) (by omega) (fun h8 => ?_)
          refine r_iload hC dX6_isSuch_24 rfl ?_
          refine r_icmp_ne (tgt := 40) hC dX6_isSuch_26 rfl (fun h9 => ?_) (fun h9 => ?_)
          · refine r_iconst hC dX6_isSuch_40 rfl ?_
            refine y_zret hK rfl dX6_isSuch_41 (by omega) ?_
            first | exact k0 (qq_no (x := w1) (by omega) (by omega) (pb_n1 (i := w1) (by unfold its; first | exact if_pos (by omega) | exact if_neg (by omega)) (by omega))) | exact k0 (qq_no (x := w1) (by omega) (by omega) (pb_n2 (i := w1) (by unfold its; first | exact if_pos (by omega) | exact if_neg (by omega)) (by omega)))
          · refine r_aload_n hC dX6_isSuch_29 rfl ?_
            refine r_iload_n hC dX6_isSuch_30 rfl ?_
            refine r_iload_n hC dX6_isSuch_31 rfl ?_
            refine z_inv2 hM dX6_isSuch_32 vl_RX6_88 rfl rfl rfl (Nat.le_of_ble_eq_true rfl) (Nat.le_of_ble_eq_true rfl) ?_
            refine m_productX (by omega) (by omega) (fun h10 => ?_)
            refine r_iload hC dX6_isSuch_35 rfl ?_
            refine r_icmp_eq (tgt := 42) hC dX6_isSuch_37 rfl (fun h11 => ?_) (fun h11 => ?_)
            · refine r_iincE hC ((w1 + 1)) dX6_isSuch_42 rfl rfl (by omega) (by unfold inR; omega) ?_
              refine r_goto (tgt := 2) hC dX6_isSuch_45 rfl ?_
              refine r_forget hC (ls2 := [some (vR 30 0), some (vI e_), some (vI w), some (vI (w1 + 1)), none]) (lsub_some (lsub_some (lsub_some (lsub_some (lsub_none lsub_nil))))) ?_
              exact ih2 ((w1 + 1))  (by omega) (by first | rfl | (rw [cB_y (by omega) (pb_y (i := w1) (by unfold its; first | exact if_pos (by omega) | exact if_neg (by omega)) (by omega) (by omega))]; omega) | (rw [cB_y (by omega) (pb_y (i := e_) (by unfold its; first | exact if_pos (by omega) | exact if_neg (by omega)) (by omega) (by omega))]; omega)) (by omega)  
            · refine r_iconst hC dX6_isSuch_40 rfl ?_
              refine y_zret hK rfl dX6_isSuch_41 (by omega) ?_
              first | exact k0 (qq_no (x := w1) (by omega) (by omega) (pb_n1 (i := w1) (by unfold its; first | exact if_pos (by omega) | exact if_neg (by omega)) (by omega))) | exact k0 (qq_no (x := w1) (by omega) (by omega) (pb_n2 (i := w1) (by unfold its; first | exact if_pos (by omega) | exact if_neg (by omega)) (by omega)))
  exact L2 6 (0)  (by omega) (by first | rfl | (rw [cB_y (by omega) (pb_y (i := w1) (by unfold its; first | exact if_pos (by omega) | exact if_neg (by omega)) (by omega) (by omega))]; omega) | (rw [cB_y (by omega) (pb_y (i := e_) (by unfold its; first | exact if_pos (by omega) | exact if_neg (by omega)) (by omega) (by omega))]; omega)) (by omega)  
theorem m_elementX {e : Ev} {d : Nat} {P : Option Vl → Mm → Prop} {σ : Mm} {w : Int}   (k : P (some (vI (elF 35 σ w))) σ) : WT e (d + 3) 151 [vR 30 0, vI w] σ P := by
  refine WT_in fun K hK => ?_
  have hK : StpY e cX6_element RX6 (some .int) (WT e (d + 2)) P K := hK
  have hM := hK.1
  have hC := hK.1.1
  show K 0 [some (vR 30 0), some (vI w), none, none] [] σ
  refine r_rngz hC (fun g0 => ?_)
  have r_w : -2147483648 ≤ w ∧ w ≤ 2147483647 := inR_le (g0 (vI w) (by simp))
  refine r_iload_n hC dX6_element_0 rfl ?_
  refine r_iconst hC dX6_element_1 rfl ?_
  refine r_iconst hC dX6_element_2 rfl ?_
  refine z_ins3 hM dX6_element_3 tl_RX6_76 rfl (Nat.le_of_ble_eq_true rfl) (Nat.le_of_ble_eq_true rfl) ?_
  refine m_isIn (fun h2 => ?_) (fun h2 => ?_)
  · refine r_if_eq (tgt := 35) hC dX6_element_6 rfl (fun h3 => by omega) (fun h3 => ?_)
    refine r_iconst hC dX6_element_9 rfl ?_
    refine r_istore_n hC dX6_element_10 rfl ?_
    have L11 : ∀ (n11 : Nat) (w4 : Int), 0 ≤ w4 ∧ w4 ≤ 4 → (-1 = fB (qq 35 σ w) ((w4)).toNat) → 4 - w4 < (n11 : Int) → K 11 [some (vR 30 0), some (vI w), some (vI w4), none] [] σ := by
      intro n11
      induction n11 with
      | zero => intro w4  f_w4 i0_11 hm  ; omega
      | succ n11 ih11 =>
        intro w4  f_w4 i0_11 hm11  
        refine r_iload_n hC dX6_element_11 rfl ?_
        refine r_iconst hC dX6_element_12 rfl ?_
        refine r_icmp_ge (tgt := 33) hC dX6_element_13 rfl (fun h5 => ?_) (fun h5 => ?_)
        · refine r_iconst hC dX6_element_33 rfl ?_
          refine y_iret hK rfl dX6_element_34 ?_
          obtain rfl : w4 = 4 := by omega
          have e2 : elF 35 σ w = -1 := by
            unfold elF
            rcases (by omega : w = 0 ∨ w = 1) with rfl | rfl
            · exact i0_11.symm
            · exact i0_11.symm
          rw [e2] at k
          exact k
        · refine r_aload_n hC dX6_element_16 rfl ?_
          refine r_iload_n hC dX6_element_17 rfl ?_
          refine r_iload_n hC dX6_element_18 rfl ?_
          refine z_inv2 hM dX6_element_19 vl_RX6_101 rfl rfl rfl (Nat.le_of_ble_eq_true rfl) (Nat.le_of_ble_eq_true rfl) ?_
          refine m_isSuchX (by omega) (by omega) (fun h6 => ?_) (fun h6 => ?_)
          · refine r_if_eq (tgt := 27) hC dX6_element_22 rfl (fun h7 => by omega) (fun h7 => ?_)
            refine r_iload_n hC dX6_element_25 rfl ?_
            refine y_iret hK rfl dX6_element_26 ?_
            have e := fB_stay (m := (4 : Int).toNat) (fB_new (by omega) i0_11.symm (by assumption)) (by omega) (by omega)
            have e2 : elF 35 σ w = w4 := by
              unfold elF
              rcases (by omega : w = 0 ∨ w = 1) with rfl | rfl
              · exact e
              · exact e
            rw [e2] at k
            exact k
          · refine r_if_eq (tgt := 27) hC dX6_element_22 rfl (fun h8 => ?_) (fun h8 => by omega)
            refine r_iincE hC ((w4 + 1)) dX6_element_27 rfl rfl (by omega) (by unfold inR; omega) ?_
            refine r_goto (tgt := 11) hC dX6_element_30 rfl ?_
            exact ih11 ((w4 + 1))  (by omega) (by first | rfl | (rw [fB_n (by omega) (by assumption)]; exact i0_11)) (by omega)  
    exact L11 6 (0)  (by omega) (by first | rfl | (rw [fB_n (by omega) (by assumption)]; exact i0_11)) (by omega)  
  · refine r_if_eq (tgt := 35) hC dX6_element_6 rfl (fun h9 => ?_) (fun h9 => by omega)
    refine r_iconst hC dX6_element_35 rfl ?_
    refine r_istore_n hC dX6_element_36 rfl ?_
    refine r_iload_n hC dX6_element_37 rfl ?_
    refine r_iconst hC dX6_element_38 rfl ?_
    refine r_icmp_ne (tgt := 75) hC dX6_element_39 rfl (fun h10 => ?_) (fun h10 => ?_)
    · refine r_iload_n hC dX6_element_75 rfl ?_
      refine r_iconst hC dX6_element_76 rfl ?_
      refine r_icmp_eq (tgt := 82) hC dX6_element_77 rfl (fun h11 => ?_) (fun h11 => ?_)
      · refine r_iconst hC dX6_element_82 rfl ?_
        refine r_istore_n hC dX6_element_83 rfl ?_
        have L84 : ∀ (n84 : Nat) (w12 w13 : Int), 0 ≤ w12 ∧ w12 ≤ 16 → 0 ≤ w13 ∧ w13 ≤ 16 → ((w13) = cB (cq 35 σ) ((w12)).toNat) → ((w13) ≤ (w12)) → 16 - w12 < (n84 : Int) → K 84 [some (vR 30 0), some (vI w), some (vI w13), some (vI w12)] [] σ := by
          intro n84
          induction n84 with
          | zero => intro w12 w13  f_w12 f_w13 i0_84 i1_84 hm  ; omega
          | succ n84 ih84 =>
            intro w12 w13  f_w12 f_w13 i0_84 i1_84 hm84  
            refine r_iload_n hC dX6_element_84 rfl ?_
            refine r_bipush hC dX6_element_85 rfl ?_
            refine r_icmp_ge (tgt := 127) hC dX6_element_87 rfl (fun h14 => ?_) (fun h14 => ?_)
            · refine r_iload_n hC dX6_element_127 rfl ?_
              refine y_iret hK rfl dX6_element_128 ?_
              obtain rfl : w12 = 16 := by omega
              obtain rfl : w = 3 := by omega
              have e2 : elF 35 σ 3 = w13 := i0_84.symm
              rw [e2] at k
              exact k
            · refine r_iload_n hC dX6_element_90 rfl ?_
              refine r_aload_n hC dX6_element_91 rfl ?_
              refine r_iload_n hC dX6_element_92 rfl ?_
              refine r_iconst hC dX6_element_93 rfl ?_
              refine r_idivN hC dX6_element_94 (by omega) (by omega) ?_
              refine r_iload_n hC dX6_element_95 rfl ?_
              refine r_iconst hC dX6_element_96 rfl ?_
              refine r_iremN hC dX6_element_97 (by omega) (by omega) ?_
              refine z_inv2 hM dX6_element_98 vl_RX6_88 rfl rfl rfl (Nat.le_of_ble_eq_true rfl) (Nat.le_of_ble_eq_true rfl) ?_
              refine m_productX (by omega) (by omega) (fun h15 => ?_)
              refine r_aload_n hC dX6_element_101 rfl ?_
              refine r_iload_n hC dX6_element_102 rfl ?_
              refine r_iconst hC dX6_element_103 rfl ?_
              refine r_iremN hC dX6_element_104 (by omega) (by omega) ?_
              refine r_iload_n hC dX6_element_105 rfl ?_
              refine r_iconst hC dX6_element_106 rfl ?_
              refine r_idivN hC dX6_element_107 (by omega) (by omega) ?_
              refine z_inv2 hM dX6_element_108 vl_RX6_88 rfl rfl rfl (Nat.le_of_ble_eq_true rfl) (Nat.le_of_ble_eq_true rfl) ?_
              refine m_productX (by omega) (by omega) (fun h16 => ?_)
              refine r_icmp_ne (tgt := 118) hC dX6_element_111 rfl (fun h17 => ?_) (fun h17 => ?_)
              · refine r_iconst hC dX6_element_118 rfl ?_
                refine r_iaddE hC (w13) dX6_element_119 (by omega) (by unfold inR; omega) ?_
                refine r_istore_n hC dX6_element_120 rfl ?_
                refine r_iincE hC ((w12 + 1)) dX6_element_121 rfl rfl (by omega) (by unfold inR; omega) ?_
                refine r_goto (tgt := 84) hC dX6_element_124 rfl ?_
                exact ih84 ((w12 + 1)) (w13)  (by omega) (by omega) (by first | rfl | (rw [cB_y (by omega) (cq_y (by assumption))]; omega) | (rw [cB_n (by omega) (cq_n (by assumption))]; omega)) (by omega) (by omega)  
              · refine r_iconst hC dX6_element_114 rfl ?_
                refine r_goto (tgt := 119) hC dX6_element_115 rfl ?_
                refine r_iaddE hC ((w13 + 1)) dX6_element_119 (by omega) (by unfold inR; omega) ?_
                refine r_istore_n hC dX6_element_120 rfl ?_
                refine r_iincE hC ((w12 + 1)) dX6_element_121 rfl rfl (by omega) (by unfold inR; omega) ?_
                refine r_goto (tgt := 84) hC dX6_element_124 rfl ?_
                exact ih84 ((w12 + 1)) ((w13 + 1))  (by omega) (by omega) (by first | rfl | (rw [cB_y (by omega) (cq_y (by assumption))]; omega) | (rw [cB_n (by omega) (cq_n (by assumption))]; omega)) (by omega) (by omega)  
        exact L84 18 (0) (0)  (by omega) (by omega) (by first | rfl | (rw [cB_y (by omega) (cq_y (by assumption))]; omega) | (rw [cB_n (by omega) (cq_n (by assumption))]; omega)) (by omega) (by omega)  
      · refine r_iconst hC dX6_element_80 rfl ?_
        refine y_iret hK rfl dX6_element_81 ?_
        have e : elF 35 σ w = (-1) := by unfold elF; (repeat' split) <;> first | rfl | omega
        rw [e] at k
        exact k
    · refine r_iconst hC dX6_element_42 rfl ?_
      refine r_istore_n hC dX6_element_43 rfl ?_
      have L44 : ∀ (n44 : Nat) (w18 w19 : Int), 0 ≤ w18 ∧ w18 ≤ 4 → 0 ≤ w19 ∧ w19 ≤ 4 → ((w19) = cB (ip 35 σ) ((w18)).toNat) → ((w19) ≤ (w18)) → 4 - w18 < (n44 : Int) → K 44 [some (vR 30 0), some (vI w), some (vI w19), some (vI w18)] [] σ := by
        intro n44
        induction n44 with
        | zero => intro w18 w19  f_w18 f_w19 i0_44 i1_44 hm  ; omega
        | succ n44 ih44 =>
          intro w18 w19  f_w18 f_w19 i0_44 i1_44 hm44  
          refine r_iload_n hC dX6_element_44 rfl ?_
          refine r_iconst hC dX6_element_45 rfl ?_
          refine r_icmp_ge (tgt := 73) hC dX6_element_46 rfl (fun h20 => ?_) (fun h20 => ?_)
          · refine r_iload_n hC dX6_element_73 rfl ?_
            refine y_iret hK rfl dX6_element_74 ?_
            obtain rfl : w18 = 4 := by omega
            obtain rfl : w = 2 := by omega
            have e2 : elF 35 σ 2 = w19 := i0_44.symm
            rw [e2] at k
            exact k
          · refine r_iload_n hC dX6_element_49 rfl ?_
            refine r_aload_n hC dX6_element_50 rfl ?_
            refine r_iload_n hC dX6_element_51 rfl ?_
            refine r_iload_n hC dX6_element_52 rfl ?_
            refine z_inv2 hM dX6_element_53 vl_RX6_88 rfl rfl rfl (Nat.le_of_ble_eq_true rfl) (Nat.le_of_ble_eq_true rfl) ?_
            refine m_productX (by omega) (by omega) (fun h21 => ?_)
            refine r_iload_n hC dX6_element_56 rfl ?_
            refine r_icmp_ne (tgt := 64) hC dX6_element_57 rfl (fun h22 => ?_) (fun h22 => ?_)
            · refine r_iconst hC dX6_element_64 rfl ?_
              refine r_iaddE hC (w19) dX6_element_65 (by omega) (by unfold inR; omega) ?_
              refine r_istore_n hC dX6_element_66 rfl ?_
              refine r_iincE hC ((w18 + 1)) dX6_element_67 rfl rfl (by omega) (by unfold inR; omega) ?_
              refine r_goto (tgt := 44) hC dX6_element_70 rfl ?_
              exact ih44 ((w18 + 1)) (w19)  (by omega) (by omega) (by first | rfl | (rw [cB_y (by omega) (ip_y (by assumption))]; omega) | (rw [cB_n (by omega) (ip_n (by assumption))]; omega)) (by omega) (by omega)  
            · refine r_iconst hC dX6_element_60 rfl ?_
              refine r_goto (tgt := 65) hC dX6_element_61 rfl ?_
              refine r_iaddE hC ((w19 + 1)) dX6_element_65 (by omega) (by unfold inR; omega) ?_
              refine r_istore_n hC dX6_element_66 rfl ?_
              refine r_iincE hC ((w18 + 1)) dX6_element_67 rfl rfl (by omega) (by unfold inR; omega) ?_
              refine r_goto (tgt := 44) hC dX6_element_70 rfl ?_
              exact ih44 ((w18 + 1)) ((w19 + 1))  (by omega) (by omega) (by first | rfl | (rw [cB_y (by omega) (ip_y (by assumption))]; omega) | (rw [cB_n (by omega) (ip_n (by assumption))]; omega)) (by omega) (by omega)  
      exact L44 6 (0) (0)  (by omega) (by omega) (by first | rfl | (rw [cB_y (by omega) (ip_y (by assumption))]; omega) | (rw [cB_n (by omega) (ip_n (by assumption))]; omega)) (by omega) (by omega)  
