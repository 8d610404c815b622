-- memory seen through what is tracked, with what always holds of it
def Tb (c : Nat) (j : Int) : Prop := match c with
  | 0 => True
  | 7 => j ≠ 11
  | 8 => True
  | 9 => True
  | 10 => True
  | 11 => True
  | 12 => True
  | 13 => True
  | 15 => True
  | 16 => True
  | 31 => j % 22 ≠ 7 ∧ (j % 22 = 21 → 88 ≤ j ∧ j < 154)
  | 32 => True
  | 33 => True
  | 34 => True
  | 35 => True
  | 36 => True
  | 39 => True
  | 40 => True
  | 41 => True
  | 42 => True
  | 43 => True
  | 44 => True
  | 45 => True
  | 46 => True
  | 47 => True
  | 48 => True
  | _ => False
/-- the lanes' rest, the fold's element, the row's length (and how many were ahead) -/
def DL (c : Nat) (j : Int) : Prop := match c with
  | 7 => j = 3 ∨ j = 4 ∨ j = 6
  | 31 => j % 22 = 2 ∨ j % 22 = 3 ∨ j % 22 = 5
  | _ => False
def DF (c : Nat) (j : Int) : Prop := match c with
  | 14 => j = 5
  | 17 => j = 0
  | _ => False
abbrev Ev : Type := Bool × Bool × Bool
/-- the fold's rest, the row's rest: tracked where the first part of e says so -/
def DX (e : Ev) (c : Nat) (j : Int) : Prop := match c with
  | 14 => e.1 = true ∧ (j = 4 ∨ j = 6 ∨ j = 7)
  | 17 => e.1 = true ∧ j ≠ 0
  | 18 => e.1 = true
  | 21 => e.1 = true
  | 22 => e.1 = true
  | _ => False
def DR (e : Ev) (c : Nat) (j : Int) : Prop := match c with
  | 30 => j = 8
  | 37 => True
  | 38 => e.1 = true
  | 49 => e.1 = true
  | 50 => e.1 = true
  | 51 => e.1 = true
  | 52 => e.1 = true
  | _ => False
/-- what is tracked: the ties of class and reference; and what e says -/
def Tk (e : Ev) (c : Nat) (j : Int) : Prop := Tb c j ∨ (e.1 = true ∧ DL c j) ∨ (e.2.1 = true ∧ (DF c j ∨ DX e c j)) ∨ (e.2.2 = true ∧ DR e c j)
/-- what may be written untold -/
def Un (e : Ev) (c : Nat) (j : Int) : Prop := ¬ Tb c j ∧ ¬ DL c j ∧ ¬ DF c j ∧ (e.2.2 = false ∨ ¬ DR e c j) ∧ (e.2.1 = false ∨ ¬ DX e c j)
/-- what may be written, told -/
def Tl (e : Ev) (c : Nat) (j : Int) : Prop := (e.1 = true ∨ ¬ DL c j) ∧ (e.2.1 = true ∨ ¬ DF c j)
/-- what a place may hold -/
def Okv (c : Nat) (j v : Int) : Prop := match c with
  | 7 => (j = 6 → 0 ≤ v ∧ v ≤ 121) ∧ (j = 1 → v = 0 ∨ v = 1) ∧ (j = 2 → 0 ≤ v ∧ v ≤ 9)
  | 14 => j = 5 → 0 ≤ v ∧ v ≤ 9
  | 9 => -1000 ≤ v ∧ v ≤ 1000
  | 33 => -1000 ≤ v ∧ v ≤ 1000
  | 15 => 0 ≤ v ∧ v ≤ 3
  | 35 => 0 ≤ v ∧ v ≤ 3
  | 22 => 0 ≤ v ∧ v ≤ 120
  | 52 => 0 ≤ v ∧ v ≤ 120
  | 40 => 0 ≤ v ∧ v ≤ 6
  | 47 => 0 ≤ v ∧ v ≤ 6
  | 45 => -1 ≤ v ∧ v ≤ 3
  | 30 => j = 8 → 0 ≤ v ∧ v ≤ 242
  | 31 => (j % 22 = 5 → 0 ≤ v ∧ v ≤ 121) ∧ (j % 22 = 0 → v = 0 ∨ v = 1)
  | _ => True
/-- a lane at rest -/
def Rst (b z h : Int) : Prop := 0 ≤ h ∧ ((b = 1 ∧ 1 ≤ z ∧ z ≤ 120 ∧ h ≤ z) ∨ (b ≠ 1 ∧ h ≤ 120))
def InL (τ : Mm) : Prop := (∀ i : Int, 0 ≤ i → i < 7 → Rst (τ 7 i 3) (τ 7 i 4) (τ 7 i 6)) ∧ (∀ l : Int, 0 ≤ l → l < 8 → Rst (τ 31 0 (22 * l + 2)) (τ 31 0 (22 * l + 3)) (τ 31 0 (22 * l + 5)))
def InT (_ : Mm) : Prop := True
theorem InT.to {τ τ2 : Mm} (_ : InT τ) (_ : ∀ (c : Nat) (i j : Int), DL c j → τ2 c i j = τ c i j) : InT τ2 := trivial
def InF (τ : Mm) : Prop := (τ 14 0 5 = 9 → 0 ≤ τ 17 0 0 ∧ τ 17 0 0 ≤ 3) ∧ (τ 14 0 5 = 1 → 0 ≤ τ 17 0 0)
theorem InL.to {τ τ2 : Mm} (h : InL τ) (he : ∀ (c : Nat) (i j : Int), DL c j → τ2 c i j = τ c i j) : InL τ2 := by
  refine ⟨fun i h0 h1 => ?_, fun l h0 h1 => ?_⟩
  · rw [he 7 i 3 (Or.inl rfl), he 7 i 4 (Or.inr (Or.inl rfl)), he 7 i 6 (Or.inr (Or.inr rfl))]
    exact h.1 i h0 h1
  · rw [he 31 0 (22 * l + 2) (by simp only [DL]; omega), he 31 0 (22 * l + 3) (by simp only [DL]; omega), he 31 0 (22 * l + 5) (by simp only [DL]; omega)]
    exact h.2 l h0 h1
theorem InF.to {τ τ2 : Mm} (h : InF τ) (he : ∀ (c : Nat) (i j : Int), DF c j → τ2 c i j = τ c i j) : InF τ2 := by
  unfold InF
  rw [he 14 0 5 rfl, he 17 0 0 rfl]
  exact h
def Ab (e : Ev) (σ τ : Mm) : Prop := (∀ (c : Nat) (i j : Int), Tk e c j → τ c i j = σ c i j) ∧ (∀ (c : Nat) (i j : Int), Okv c j (τ c i j)) ∧ (e.1 = false → InT τ) ∧ (e.2.1 = false → InF τ)
theorem ab_mu {e : Ev} {σ τ : Mm} {k : Nat} {i j a : Int} (h : Ab e σ τ) (ho : Okv k j a) (hd : Tl e k j) : Ab e (mu σ k i j a) (mu τ k i j a) := by
  refine ⟨fun c x y ht => ?_, fun c x y => ?_, fun he => (h.2.2.1 he).to fun c x y hD => mu_ne ?_, fun he => (h.2.2.2 he).to fun c x y hD => mu_ne ?_⟩
  · unfold mu
    split
    · rfl
    · exact h.1 c x y ht
  · unfold mu
    split
    · rename_i q
      obtain ⟨rfl, rfl, rfl⟩ := q
      exact ho
    · exact h.2.1 c x y
  · rintro ⟨rfl, rfl, rfl⟩
    rcases hd.1 with hd | hd
    · rw [he] at hd; cases hd
    · exact hd hD
  · rintro ⟨rfl, rfl, rfl⟩
    rcases hd.2 with hd | hd
    · rw [he] at hd; cases hd
    · exact hd hD
theorem ab_muX {e : Ev} {σ τ : Mm} {k : Nat} {i j a a2 : Int} (h : Ab e σ τ) (ho : Okv k j a) (hd : Tl e k j) (hx : Tk e k j → a = a2) : Ab e (mu σ k i j a2) (mu τ k i j a) := by
  have h2 := ab_mu (i := i) h ho hd
  refine ⟨fun c x y ht => ?_, h2.2⟩
  rw [h2.1 c x y ht]
  unfold mu
  split
  · rename_i q
    obtain ⟨rfl, rfl, rfl⟩ := q
    exact hx ht
  · rfl
theorem ab_muU {e : Ev} {σ τ : Mm} {k : Nat} {i j a : Int} (h : Ab e σ τ) (hu : Un e k j) (ho : Okv k j a) : Ab e σ (mu τ k i j a) := by
  have h2 := ab_mu (i := i) h ho ⟨Or.inr hu.2.1, Or.inr hu.2.2.1⟩
  refine ⟨fun c x y h3 => ?_, h2.2⟩
  rw [mu_ne]
  · exact h.1 c x y h3
  · rintro ⟨rfl, rfl, rfl⟩
    rcases h3 with h3 | h3 | h3 | h3
    · exact hu.1 h3
    · exact hu.2.1 h3.2
    · rcases h3.2 with q | q
      · exact hu.2.2.1 q
      · rcases hu.2.2.2.2 with z | z
        · rw [z] at h3; cases h3.1
        · exact z q
    · rcases hu.2.2.2.1 with q | q
      · rw [q] at h3; cases h3.1
      · exact q h3.2
theorem ab_cpy {e : Ev} {σ τ : Mm} {k0 k1 : Nat} {i0 i1 sp dp n : Int} (h : Ab e σ τ) (hf : ∀ j : Int, Un e k1 j ∧ ∀ j0 v : Int, Okv k0 j0 v → Okv k1 j v) : Ab e σ (cpy τ k0 i0 sp k1 i1 dp n) := by
  refine ⟨fun c x y ht => ?_, fun c x y => ?_, fun he => (h.2.2.1 he).to fun c x y hD => ?_, fun he => (h.2.2.2 he).to fun c x y hD => ?_⟩
  · unfold cpy
    split
    · rename_i q
      obtain ⟨rfl, -⟩ := q
      have hu := (hf y).1
      rcases ht with h3 | h3 | h3 | h3
      · exact absurd h3 hu.1
      · exact absurd h3.2 hu.2.1
      · rcases h3.2 with q | q
        · exact absurd q hu.2.2.1
        · rcases hu.2.2.2.2 with z | z
          · rw [z] at h3; cases h3.1
          · exact absurd q z
      · rcases hu.2.2.2.1 with q | q
        · rw [q] at h3; cases h3.1
        · exact absurd h3.2 q
    · exact h.1 c x y ht
  · unfold cpy
    split
    · rename_i q
      obtain ⟨rfl, -⟩ := q
      exact (hf _).2 _ _ (h.2.1 _ _ _)
    · exact h.2.1 c x y
  · unfold cpy
    split
    · rename_i q
      obtain ⟨rfl, -⟩ := q
      exact absurd hD (hf _).1.2.1
    · rfl
  · unfold cpy
    split
    · rename_i q
      obtain ⟨rfl, -⟩ := q
      exact absurd hD (hf _).1.2.2.1
    · rfl
theorem ab_cpyT {e : Ev} {σ τ : Mm} {k0 k1 : Nat} {i0 i1 sp dp n : Int} (h : Ab e σ τ) (hD : ∀ j : Int, ¬ DL k1 j ∧ ¬ DF k1 j) (ho : ∀ j0 j v : Int, Okv k0 j0 v → Okv k1 j v) (hx : ∀ x : Int, 0 ≤ x → x < n → Tk e k1 (dp + x) → Tk e k0 (sp + x)) : Ab e (cpy σ k0 i0 sp k1 i1 dp n) (cpy τ k0 i0 sp k1 i1 dp n) := by
  refine ⟨fun c x y ht => ?_, fun c x y => ?_, fun he => (h.2.2.1 he).to fun c x y hD2 => ?_, fun he => (h.2.2.2 he).to fun c x y hD2 => ?_⟩
  · unfold cpy
    split
    · rename_i q
      obtain ⟨rfl, -, q1, q2⟩ := q
      have q3 := hx (y - dp) (by omega) (by omega) (by rw [show dp + (y - dp) = y from by omega]; exact ht)
      exact h.1 _ _ _ q3
    · exact h.1 c x y ht
  · unfold cpy
    split
    · rename_i q
      obtain ⟨rfl, -⟩ := q
      exact ho _ _ _ (h.2.1 _ _ _)
    · exact h.2.1 c x y
  · unfold cpy
    split
    · rename_i q
      obtain ⟨rfl, -⟩ := q
      exact absurd hD2 (hD _).1
    · rfl
  · unfold cpy
    split
    · rename_i q
      obtain ⟨rfl, -⟩ := q
      exact absurd hD2 (hD _).2
    · rfl
/-- from a sight to a sharper one, and back -/
theorem ab_sharp {e e2 : Ev} {σ τ : Mm} (h : Ab e σ τ) (h1 : e2.1 = false → e.1 = false) (h2 : e2.2.1 = false → e.2.1 = false) : Ab e2 τ τ := ⟨fun _ _ _ _ => rfl, h.2.1, fun q => h.2.2.1 (h1 q), fun q => h.2.2.2 (h2 q)⟩
theorem ab_loose {e e2 : Ev} {σ ρ τ : Mm} (h : Ab e2 ρ τ) (hL : e.1 = false → e2.1 = false ∨ InT ρ) (hF : e.2.1 = false → e2.2.1 = false ∨ InF ρ) (hs : ∀ (c : Nat) (j : Int), Tk e c j → Tk e2 c j) (ht : ∀ (c : Nat) (i j : Int), Tk e c j → ρ c i j = σ c i j) : Ab e σ τ := by
  refine ⟨fun c i j q => (h.1 c i j (hs c j q)).trans (ht c i j q), h.2.1, fun q => ?_, fun q => ?_⟩
  · by_cases z : e2.1 = false
    · exact h.2.2.1 z
    · have z2 : e2.1 = true := by simpa using z
      rcases hL q with w | w
      · exact absurd w z
      · exact w.to fun c i j hD => h.1 c i j (Or.inr (Or.inl ⟨z2, hD⟩))
  · by_cases z : e2.2.1 = false
    · exact h.2.2.2 z
    · have z2 : e2.2.1 = true := by simpa using z
      rcases hF q with w | w
      · exact absurd w z
      · exact w.to fun c i j hD => h.1 c i j (Or.inr (Or.inr (Or.inl ⟨z2, Or.inl hD⟩)))
def KA (e : Ev) (K : Nat → Lc → List Vl → Mm → Prop) (pc : Nat) (ls : Lc) (st : List Vl) (σ : Mm) : Prop := ∀ τ : Mm, Ab e σ τ → K pc ls st τ
abbrev rgT : Mm → Prop := fun _ => True
section LIFT
variable {e : Ev} {cc : ByteArray} {own : String} {K : Nat → Lc → List Vl → Mm → Prop}
theorem ka_Q_iconst (h : Q_iconst (fun _ => vld) rgF cc own K) : Q_iconst (fun _ => vld) rgT cc own (KA e K) := by
  intro pc ls st μ n h0 h1 h2 τ hA
  exact h h0 h1 (h2 τ hA)
theorem ka_Q_bipush (h : Q_bipush (fun _ => vld) rgF cc own K) : Q_bipush (fun _ => vld) rgT cc own (KA e K) := by
  intro pc ls st μ n h0 h1 h2 τ hA
  exact h h0 h1 (h2 τ hA)
theorem ka_Q_sipush (h : Q_sipush (fun _ => vld) rgF cc own K) : Q_sipush (fun _ => vld) rgT cc own (KA e K) := by
  intro pc ls st μ n h0 h1 h2 τ hA
  exact h h0 h1 (h2 τ hA)
theorem ka_Q_ldc (h : Q_ldc (fun _ => vld) rgF cc own K) : Q_ldc (fun _ => vld) rgT cc own (KA e K) := by
  intro pc ls st μ x n h0 h1 h2 h3 τ hA
  exact h h0 h1 h2 (h3 τ hA)
theorem ka_Q_ldcw (h : Q_ldcw (fun _ => vld) rgF cc own K) : Q_ldcw (fun _ => vld) rgT cc own (KA e K) := by
  intro pc ls st μ x n h0 h1 h2 h3 τ hA
  exact h h0 h1 h2 (h3 τ hA)
theorem ka_Q_iload_n (h : Q_iload_n (fun _ => vld) rgF cc own K) : Q_iload_n (fun _ => vld) rgT cc own (KA e K) := by
  intro pc ls st μ x a h0 h1 h2 τ hA
  exact h h0 h1 (h2 τ hA)
theorem ka_Q_iload (h : Q_iload (fun _ => vld) rgF cc own K) : Q_iload (fun _ => vld) rgT cc own (KA e K) := by
  intro pc ls st μ x a h0 h1 h2 τ hA
  exact h h0 h1 (h2 τ hA)
theorem ka_Q_lload_n (h : Q_lload_n (fun _ => vld) rgF cc own K) : Q_lload_n (fun _ => vld) rgT cc own (KA e K) := by
  intro pc ls st μ x a h0 h1 h2 τ hA
  exact h h0 h1 (h2 τ hA)
theorem ka_Q_aload_n (h : Q_aload_n (fun _ => vld) rgF cc own K) : Q_aload_n (fun _ => vld) rgT cc own (KA e K) := by
  intro pc ls st μ x q h0 h1 h2 τ hA
  exact h h0 h1 (h2 τ hA)
theorem ka_Q_aload (h : Q_aload (fun _ => vld) rgF cc own K) : Q_aload (fun _ => vld) rgT cc own (KA e K) := by
  intro pc ls st μ x q h0 h1 h2 τ hA
  exact h h0 h1 (h2 τ hA)
theorem ka_Q_aloadN_n (h : Q_aloadN_n (fun _ => vld) rgF cc own K) : Q_aloadN_n (fun _ => vld) rgT cc own (KA e K) := by
  intro pc ls st μ x h0 h1 h2 τ hA
  exact h h0 h1 (h2 τ hA)
theorem ka_Q_aloadN (h : Q_aloadN (fun _ => vld) rgF cc own K) : Q_aloadN (fun _ => vld) rgT cc own (KA e K) := by
  intro pc ls st μ x h0 h1 h2 τ hA
  exact h h0 h1 (h2 τ hA)
theorem ka_Q_istore_n (h : Q_istore_n (fun _ => vld) rgF cc own K) : Q_istore_n (fun _ => vld) rgT cc own (KA e K) := by
  intro pc ls st μ x a h0 h1 h2 τ hA
  exact h h0 h1 (h2 τ hA)
theorem ka_Q_istore (h : Q_istore (fun _ => vld) rgF cc own K) : Q_istore (fun _ => vld) rgT cc own (KA e K) := by
  intro pc ls st μ x a h0 h1 h2 τ hA
  exact h h0 h1 (h2 τ hA)
theorem ka_Q_astore_n (h : Q_astore_n (fun _ => vld) rgF cc own K) : Q_astore_n (fun _ => vld) rgT cc own (KA e K) := by
  intro pc ls st μ x q h0 h1 h2 τ hA
  exact h h0 h1 (h2 τ hA)
theorem ka_Q_astore (h : Q_astore (fun _ => vld) rgF cc own K) : Q_astore (fun _ => vld) rgT cc own (KA e K) := by
  intro pc ls st μ x q h0 h1 h2 τ hA
  exact h h0 h1 (h2 τ hA)
theorem ka_Q_astoreN_n (h : Q_astoreN_n (fun _ => vld) rgF cc own K) : Q_astoreN_n (fun _ => vld) rgT cc own (KA e K) := by
  intro pc ls st μ x h0 h1 h2 τ hA
  exact h h0 h1 (h2 τ hA)
theorem ka_Q_astoreN (h : Q_astoreN (fun _ => vld) rgF cc own K) : Q_astoreN (fun _ => vld) rgT cc own (KA e K) := by
  intro pc ls st μ x h0 h1 h2 τ hA
  exact h h0 h1 (h2 τ hA)
theorem ka_Q_iinc (h : Q_iinc (fun _ => vld) rgF cc own K) : Q_iinc (fun _ => vld) rgT cc own (KA e K) := by
  intro pc ls st μ x n a h0 h1 h2 h3 τ hA
  exact h h0 h1 h2 (h3 τ hA)
theorem ka_Q_iadd (h : Q_iadd (fun _ => vld) rgF cc own K) : Q_iadd (fun _ => vld) rgT cc own (KA e K) := by
  intro pc ls st μ a b h0 h1 τ hA
  exact h h0 (h1 τ hA)
theorem ka_Q_isub (h : Q_isub (fun _ => vld) rgF cc own K) : Q_isub (fun _ => vld) rgT cc own (KA e K) := by
  intro pc ls st μ a b h0 h1 τ hA
  exact h h0 (h1 τ hA)
theorem ka_Q_imul (h : Q_imul (fun _ => vld) rgF cc own K) : Q_imul (fun _ => vld) rgT cc own (KA e K) := by
  intro pc ls st μ a b h0 h1 τ hA
  exact h h0 (h1 τ hA)
theorem ka_Q_iand (h : Q_iand (fun _ => vld) rgF cc own K) : Q_iand (fun _ => vld) rgT cc own (KA e K) := by
  intro pc ls st μ a b h0 h1 τ hA
  exact h h0 (h1 τ hA)
theorem ka_Q_ior (h : Q_ior (fun _ => vld) rgF cc own K) : Q_ior (fun _ => vld) rgT cc own (KA e K) := by
  intro pc ls st μ a b h0 h1 τ hA
  exact h h0 (h1 τ hA)
theorem ka_Q_ixor (h : Q_ixor (fun _ => vld) rgF cc own K) : Q_ixor (fun _ => vld) rgT cc own (KA e K) := by
  intro pc ls st μ a b h0 h1 τ hA
  exact h h0 (h1 τ hA)
theorem ka_Q_ishl (h : Q_ishl (fun _ => vld) rgF cc own K) : Q_ishl (fun _ => vld) rgT cc own (KA e K) := by
  intro pc ls st μ a b h0 h1 τ hA
  exact h h0 (h1 τ hA)
theorem ka_Q_ishr (h : Q_ishr (fun _ => vld) rgF cc own K) : Q_ishr (fun _ => vld) rgT cc own (KA e K) := by
  intro pc ls st μ a b h0 h1 τ hA
  exact h h0 (h1 τ hA)
theorem ka_Q_iushr (h : Q_iushr (fun _ => vld) rgF cc own K) : Q_iushr (fun _ => vld) rgT cc own (KA e K) := by
  intro pc ls st μ a b h0 h1 τ hA
  exact h h0 (h1 τ hA)
theorem ka_Q_idiv (h : Q_idiv (fun _ => vld) rgF cc own K) : Q_idiv (fun _ => vld) rgT cc own (KA e K) := by
  intro pc ls st μ a b h0 h1 h2 τ hA
  exact h h0 h1 (h2 τ hA)
theorem ka_Q_irem (h : Q_irem (fun _ => vld) rgF cc own K) : Q_irem (fun _ => vld) rgT cc own (KA e K) := by
  intro pc ls st μ a b h0 h1 h2 τ hA
  exact h h0 h1 (h2 τ hA)
theorem ka_Q_ineg (h : Q_ineg (fun _ => vld) rgF cc own K) : Q_ineg (fun _ => vld) rgT cc own (KA e K) := by
  intro pc ls st μ a h0 h1 τ hA
  exact h h0 (h1 τ hA)
theorem ka_Q_i2l (h : Q_i2l (fun _ => vld) rgF cc own K) : Q_i2l (fun _ => vld) rgT cc own (KA e K) := by
  intro pc ls st μ a h0 h1 τ hA
  exact h h0 (h1 τ hA)
theorem ka_Q_lconst (h : Q_lconst (fun _ => vld) rgF cc own K) : Q_lconst (fun _ => vld) rgT cc own (KA e K) := by
  intro pc ls st μ n a h0 h1 h2 τ hA
  exact h h0 h1 (h2 τ hA)
theorem ka_Q_lsub (h : Q_lsub (fun _ => vld) rgF cc own K) : Q_lsub (fun _ => vld) rgT cc own (KA e K) := by
  intro pc ls st μ a b h0 h1 τ hA
  exact h h0 (h1 τ hA)
theorem ka_Q_lcmp (h : Q_lcmp (fun _ => vld) rgF cc own K) : Q_lcmp (fun _ => vld) rgT cc own (KA e K) := by
  intro pc ls st μ a b h0 h1 τ hA
  exact h h0 (h1 τ hA)
theorem ka_Q_dup (h : Q_dup (fun _ => vld) rgF cc own K) : Q_dup (fun _ => vld) rgT cc own (KA e K) := by
  intro pc ls st μ v h0 h1 h2 τ hA
  exact h h0 h1 (h2 τ hA)
theorem ka_Q_dup2 (h : Q_dup2 (fun _ => vld) rgF cc own K) : Q_dup2 (fun _ => vld) rgT cc own (KA e K) := by
  intro pc ls st μ v u h0 h1 h2 h3 τ hA
  exact h h0 h1 h2 (h3 τ hA)
theorem ka_Q_pop (h : Q_pop (fun _ => vld) rgF cc own K) : Q_pop (fun _ => vld) rgT cc own (KA e K) := by
  intro pc ls st μ v h0 h1 h2 τ hA
  exact h h0 h1 (h2 τ hA)
theorem ka_Q_goto (h : Q_goto (fun _ => vld) rgF cc own K) : Q_goto (fun _ => vld) rgT cc own (KA e K) := by
  intro pc ls st μ off tgt h0 h1 h2 τ hA
  exact h h0 h1 (h2 τ hA)
theorem ka_Q_null (h : Q_null (fun _ => vld) rgF cc own K) : Q_null (fun _ => vld) rgT cc own (KA e K) := by
  intro pc ls st μ h0 h1 τ hA
  exact h h0 (h1 τ hA)
theorem ka_Q_if_eq (h : Q_if_eq (fun _ => vld) rgF cc own K) : Q_if_eq (fun _ => vld) rgT cc own (KA e K) := by
  intro pc ls st μ a off tgt h0 h1 h2 h3 τ hA
  exact h h0 h1 (fun g => h2 g τ hA) (fun g => h3 g τ hA)
theorem ka_Q_icmp_eq (h : Q_icmp_eq (fun _ => vld) rgF cc own K) : Q_icmp_eq (fun _ => vld) rgT cc own (KA e K) := by
  intro pc ls st μ a b off tgt h0 h1 h2 h3 τ hA
  exact h h0 h1 (fun g => h2 g τ hA) (fun g => h3 g τ hA)
theorem ka_Q_if_ne (h : Q_if_ne (fun _ => vld) rgF cc own K) : Q_if_ne (fun _ => vld) rgT cc own (KA e K) := by
  intro pc ls st μ a off tgt h0 h1 h2 h3 τ hA
  exact h h0 h1 (fun g => h2 g τ hA) (fun g => h3 g τ hA)
theorem ka_Q_icmp_ne (h : Q_icmp_ne (fun _ => vld) rgF cc own K) : Q_icmp_ne (fun _ => vld) rgT cc own (KA e K) := by
  intro pc ls st μ a b off tgt h0 h1 h2 h3 τ hA
  exact h h0 h1 (fun g => h2 g τ hA) (fun g => h3 g τ hA)
theorem ka_Q_if_lt (h : Q_if_lt (fun _ => vld) rgF cc own K) : Q_if_lt (fun _ => vld) rgT cc own (KA e K) := by
  intro pc ls st μ a off tgt h0 h1 h2 h3 τ hA
  exact h h0 h1 (fun g => h2 g τ hA) (fun g => h3 g τ hA)
theorem ka_Q_icmp_lt (h : Q_icmp_lt (fun _ => vld) rgF cc own K) : Q_icmp_lt (fun _ => vld) rgT cc own (KA e K) := by
  intro pc ls st μ a b off tgt h0 h1 h2 h3 τ hA
  exact h h0 h1 (fun g => h2 g τ hA) (fun g => h3 g τ hA)
theorem ka_Q_if_ge (h : Q_if_ge (fun _ => vld) rgF cc own K) : Q_if_ge (fun _ => vld) rgT cc own (KA e K) := by
  intro pc ls st μ a off tgt h0 h1 h2 h3 τ hA
  exact h h0 h1 (fun g => h2 g τ hA) (fun g => h3 g τ hA)
theorem ka_Q_icmp_ge (h : Q_icmp_ge (fun _ => vld) rgF cc own K) : Q_icmp_ge (fun _ => vld) rgT cc own (KA e K) := by
  intro pc ls st μ a b off tgt h0 h1 h2 h3 τ hA
  exact h h0 h1 (fun g => h2 g τ hA) (fun g => h3 g τ hA)
theorem ka_Q_if_gt (h : Q_if_gt (fun _ => vld) rgF cc own K) : Q_if_gt (fun _ => vld) rgT cc own (KA e K) := by
  intro pc ls st μ a off tgt h0 h1 h2 h3 τ hA
  exact h h0 h1 (fun g => h2 g τ hA) (fun g => h3 g τ hA)
theorem ka_Q_icmp_gt (h : Q_icmp_gt (fun _ => vld) rgF cc own K) : Q_icmp_gt (fun _ => vld) rgT cc own (KA e K) := by
  intro pc ls st μ a b off tgt h0 h1 h2 h3 τ hA
  exact h h0 h1 (fun g => h2 g τ hA) (fun g => h3 g τ hA)
theorem ka_Q_if_le (h : Q_if_le (fun _ => vld) rgF cc own K) : Q_if_le (fun _ => vld) rgT cc own (KA e K) := by
  intro pc ls st μ a off tgt h0 h1 h2 h3 τ hA
  exact h h0 h1 (fun g => h2 g τ hA) (fun g => h3 g τ hA)
theorem ka_Q_icmp_le (h : Q_icmp_le (fun _ => vld) rgF cc own K) : Q_icmp_le (fun _ => vld) rgT cc own (KA e K) := by
  intro pc ls st μ a b off tgt h0 h1 h2 h3 τ hA
  exact h h0 h1 (fun g => h2 g τ hA) (fun g => h3 g τ hA)
theorem ka_Q_ifnullN (h : Q_ifnullN (fun _ => vld) rgF cc own K) : Q_ifnullN (fun _ => vld) rgT cc own (KA e K) := by
  intro pc ls st μ off tgt h0 h1 h2 τ hA
  exact h h0 h1 (h2 τ hA)
theorem ka_Q_ifnullR (h : Q_ifnullR (fun _ => vld) rgF cc own K) : Q_ifnullR (fun _ => vld) rgT cc own (KA e K) := by
  intro pc ls st μ off q h0 h1 τ hA
  exact h h0 (h1 τ hA)
theorem ka_Q_ifnonnullN (h : Q_ifnonnullN (fun _ => vld) rgF cc own K) : Q_ifnonnullN (fun _ => vld) rgT cc own (KA e K) := by
  intro pc ls st μ off h0 h1 τ hA
  exact h h0 (h1 τ hA)
theorem ka_Q_ifnonnullR (h : Q_ifnonnullR (fun _ => vld) rgF cc own K) : Q_ifnonnullR (fun _ => vld) rgT cc own (KA e K) := by
  intro pc ls st μ off tgt q h0 h1 h2 τ hA
  exact h h0 h1 (h2 τ hA)
theorem ka_Q_tableOut (h : Q_tableOut (fun _ => vld) rgF cc own K) : Q_tableOut (fun _ => vld) rgT cc own (KA e K) := by
  intro pc ls st μ a dflt lo hi offs len tgt h0 h1 h2 h3 τ hA
  exact h h0 h1 h2 (h3 τ hA)
theorem ka_Q_tableIn (h : Q_tableIn (fun _ => vld) rgF cc own K) : Q_tableIn (fun _ => vld) rgT cc own (KA e K) := by
  intro pc ls st μ a dflt lo hi off offs len tgt h0 h1 h2 h3 h4 h5 τ hA
  exact h h0 h1 h2 h3 h4 (h5 τ hA)
theorem ka_Q_forget (h : Q_forget (fun _ => vld) rgF cc own K) : Q_forget (fun _ => vld) rgT cc own (KA e K) := by
  intro pc ls st μ ls2 h0 h1 τ hA
  exact h h0 (h1 τ hA)
theorem ka_Q_rng (h : Q_rng (fun _ => vld) rgF cc own K) : Q_rng (fun _ => vld) rgT cc own (KA e K) := by
  intro pc ls st μ h0 τ hA
  exact h (fun _ g => h0 trivial g τ hA)
theorem ka_C (h : StpC (fun _ => vld) rgF cc own K) : StpC (fun _ => vld) rgT cc own (KA e K) := by
  obtain ⟨q0, q1, q2, q3, q4, q5, q6, q7, q8, q9, q10, q11, q12, q13, q14, q15, q16, q17, q18, q19, q20, q21, q22, q23, q24, q25, q26, q27, q28, q29, q30, q31, q32, q33, q34, q35, q36, q37, q38, q39, q40, q41, q42, q43, q44, q45, q46, q47, q48, q49, q50, q51, q52, q53, q54, q55, q56, q57, q58, q59⟩ := h
  exact ⟨ka_Q_iconst (cc := cc) (own := own) (K := K) q0, ka_Q_bipush (cc := cc) (own := own) (K := K) q1, ka_Q_sipush (cc := cc) (own := own) (K := K) q2, ka_Q_ldc (cc := cc) (own := own) (K := K) q3, ka_Q_ldcw (cc := cc) (own := own) (K := K) q4, ka_Q_iload_n (cc := cc) (own := own) (K := K) q5, ka_Q_iload (cc := cc) (own := own) (K := K) q6, ka_Q_lload_n (cc := cc) (own := own) (K := K) q7, ka_Q_aload_n (cc := cc) (own := own) (K := K) q8, ka_Q_aload (cc := cc) (own := own) (K := K) q9, ka_Q_aloadN_n (cc := cc) (own := own) (K := K) q10, ka_Q_aloadN (cc := cc) (own := own) (K := K) q11, ka_Q_istore_n (cc := cc) (own := own) (K := K) q12, ka_Q_istore (cc := cc) (own := own) (K := K) q13, ka_Q_astore_n (cc := cc) (own := own) (K := K) q14, ka_Q_astore (cc := cc) (own := own) (K := K) q15, ka_Q_astoreN_n (cc := cc) (own := own) (K := K) q16, ka_Q_astoreN (cc := cc) (own := own) (K := K) q17, ka_Q_iinc (cc := cc) (own := own) (K := K) q18, ka_Q_iadd (cc := cc) (own := own) (K := K) q19, ka_Q_isub (cc := cc) (own := own) (K := K) q20, ka_Q_imul (cc := cc) (own := own) (K := K) q21, ka_Q_iand (cc := cc) (own := own) (K := K) q22, ka_Q_ior (cc := cc) (own := own) (K := K) q23, ka_Q_ixor (cc := cc) (own := own) (K := K) q24, ka_Q_ishl (cc := cc) (own := own) (K := K) q25, ka_Q_ishr (cc := cc) (own := own) (K := K) q26, ka_Q_iushr (cc := cc) (own := own) (K := K) q27, ka_Q_idiv (cc := cc) (own := own) (K := K) q28, ka_Q_irem (cc := cc) (own := own) (K := K) q29, ka_Q_ineg (cc := cc) (own := own) (K := K) q30, ka_Q_i2l (cc := cc) (own := own) (K := K) q31, ka_Q_lconst (cc := cc) (own := own) (K := K) q32, ka_Q_lsub (cc := cc) (own := own) (K := K) q33, ka_Q_lcmp (cc := cc) (own := own) (K := K) q34, ka_Q_dup (cc := cc) (own := own) (K := K) q35, ka_Q_dup2 (cc := cc) (own := own) (K := K) q36, ka_Q_pop (cc := cc) (own := own) (K := K) q37, ka_Q_goto (cc := cc) (own := own) (K := K) q38, ka_Q_null (cc := cc) (own := own) (K := K) q39, ka_Q_if_eq (cc := cc) (own := own) (K := K) q40, ka_Q_icmp_eq (cc := cc) (own := own) (K := K) q41, ka_Q_if_ne (cc := cc) (own := own) (K := K) q42, ka_Q_icmp_ne (cc := cc) (own := own) (K := K) q43, ka_Q_if_lt (cc := cc) (own := own) (K := K) q44, ka_Q_icmp_lt (cc := cc) (own := own) (K := K) q45, ka_Q_if_ge (cc := cc) (own := own) (K := K) q46, ka_Q_icmp_ge (cc := cc) (own := own) (K := K) q47, ka_Q_if_gt (cc := cc) (own := own) (K := K) q48, ka_Q_icmp_gt (cc := cc) (own := own) (K := K) q49, ka_Q_if_le (cc := cc) (own := own) (K := K) q50, ka_Q_icmp_le (cc := cc) (own := own) (K := K) q51, ka_Q_ifnullN (cc := cc) (own := own) (K := K) q52, ka_Q_ifnullR (cc := cc) (own := own) (K := K) q53, ka_Q_ifnonnullN (cc := cc) (own := own) (K := K) q54, ka_Q_ifnonnullR (cc := cc) (own := own) (K := K) q55, ka_Q_tableOut (cc := cc) (own := own) (K := K) q56, ka_Q_tableIn (cc := cc) (own := own) (K := K) q57, ka_Q_forget (cc := cc) (own := own) (K := K) q58, ka_Q_rng (cc := cc) (own := own) (K := K) q59⟩
end LIFT
def Z_ok (e : Ev) (cc : ByteArray) (own : String) (Cal : Nat → List Vl → Mm → (Option Vl → Mm → Prop) → Prop) (K : Nat → Lc → List Vl → Mm → Prop) : Prop := ∀ {pc : Nat} {ls : Lc} {st : List Vl} {σ : Mm}, ((∀ (c : Nat) (i j : Int), Tk e c j → Okv c j (σ c i j)) → K pc ls st σ) → K pc ls st σ
def Z_getI (e : Ev) (cc : ByteArray) (own : String) (Cal : Nat → List Vl → Mm → (Option Vl → Mm → Prop) → Prop) (K : Nat → Lc → List Vl → Mm → Prop) : Prop := ∀ {pc : Nat} {ls : Lc} {st : List Vl} {σ : Mm} {k : Nat} {i jz : Int} {idx ci j : Nat} {ty : FieldType}, (decode cc pc = .ok (.getfield idx, 3)) → (FLk own idx ci j ty) → (kd k = (0, ci)) → (rff k i j = none) → ((j : Int) = jz) → (∀ v : Int, (-2147483648 ≤ v ∧ v < 2147483648) → Okv k jz v → (Tk e k jz → v = σ k i jz) → K (pc + 3) ls (vI v :: st) σ) → K pc ls (vR k i :: st) σ
def Z_getR (e : Ev) (cc : ByteArray) (own : String) (Cal : Nat → List Vl → Mm → (Option Vl → Mm → Prop) → Prop) (K : Nat → Lc → List Vl → Mm → Prop) : Prop := ∀ {pc : Nat} {ls : Lc} {st : List Vl} {σ : Mm} {k : Nat} {i : Int} {idx ci j : Nat} {ty : FieldType} {q : Nat × Int}, (decode cc pc = .ok (.getfield idx, 3)) → (FLk own idx ci j ty) → (kd k = (0, ci)) → (rff k i j = some q) → (vld q) → (K (pc + 3) ls (Sum.inr (Sum.inl (some q)) :: st) σ) → K pc ls (vR k i :: st) σ
def Z_putIU (e : Ev) (cc : ByteArray) (own : String) (Cal : Nat → List Vl → Mm → (Option Vl → Mm → Prop) → Prop) (K : Nat → Lc → List Vl → Mm → Prop) : Prop := ∀ {pc : Nat} {ls : Lc} {st : List Vl} {σ : Mm} {k : Nat} {i a jz : Int} {idx ci j : Nat}, (decode cc pc = .ok (.putfield idx, 3)) → (FLw own idx ci j .int) → (kd k = (0, ci)) → (rff k i j = none) → ((j : Int) = jz) → (Un e k jz) → (Okv k jz a) → (K (pc + 3) ls st σ) → K pc ls (vI a :: vR k i :: st) σ
def Z_putIT (e : Ev) (cc : ByteArray) (own : String) (Cal : Nat → List Vl → Mm → (Option Vl → Mm → Prop) → Prop) (K : Nat → Lc → List Vl → Mm → Prop) : Prop := ∀ {pc : Nat} {ls : Lc} {st : List Vl} {σ : Mm} {k : Nat} {i a jz : Int} {idx ci j : Nat}, (decode cc pc = .ok (.putfield idx, 3)) → (FLw own idx ci j .int) → (kd k = (0, ci)) → (rff k i j = none) → ((j : Int) = jz) → (Tl e k jz) → (Okv k jz a) → (K (pc + 3) ls st (mu σ k i jz a)) → K pc ls (vI a :: vR k i :: st) σ
def Z_putZU (e : Ev) (cc : ByteArray) (own : String) (Cal : Nat → List Vl → Mm → (Option Vl → Mm → Prop) → Prop) (K : Nat → Lc → List Vl → Mm → Prop) : Prop := ∀ {pc : Nat} {ls : Lc} {st : List Vl} {σ : Mm} {k : Nat} {i a jz : Int} {idx ci j : Nat}, (decode cc pc = .ok (.putfield idx, 3)) → (FLw own idx ci j .boolean) → (kd k = (0, ci)) → (rff k i j = none) → ((j : Int) = jz) → (a = 0 ∨ a = 1) → (Un e k jz) → (Okv k jz a) → (K (pc + 3) ls st σ) → K pc ls (vI a :: vR k i :: st) σ
def Z_putZT (e : Ev) (cc : ByteArray) (own : String) (Cal : Nat → List Vl → Mm → (Option Vl → Mm → Prop) → Prop) (K : Nat → Lc → List Vl → Mm → Prop) : Prop := ∀ {pc : Nat} {ls : Lc} {st : List Vl} {σ : Mm} {k : Nat} {i a jz : Int} {idx ci j : Nat}, (decode cc pc = .ok (.putfield idx, 3)) → (FLw own idx ci j .boolean) → (kd k = (0, ci)) → (rff k i j = none) → ((j : Int) = jz) → (a = 0 ∨ a = 1) → (Tl e k jz) → (Okv k jz a) → (K (pc + 3) ls st (mu σ k i jz a)) → K pc ls (vI a :: vR k i :: st) σ
def Z_iald (e : Ev) (cc : ByteArray) (own : String) (Cal : Nat → List Vl → Mm → (Option Vl → Mm → Prop) → Prop) (K : Nat → Lc → List Vl → Mm → Prop) : Prop := ∀ {pc : Nat} {ls : Lc} {st : List Vl} {σ : Mm} {k : Nat} {i j : Int} {n : Nat}, (decode cc pc = .ok (.iaload, 1)) → (kd k = (1, n)) → (0 ≤ j) → (j < (n : Int)) → (∀ v : Int, (-2147483648 ≤ v ∧ v < 2147483648) → Okv k j v → (Tk e k j → v = σ k i j) → K (pc + 1) ls (vI v :: st) σ) → K pc ls (vI j :: vR k i :: st) σ
def Z_iastU (e : Ev) (cc : ByteArray) (own : String) (Cal : Nat → List Vl → Mm → (Option Vl → Mm → Prop) → Prop) (K : Nat → Lc → List Vl → Mm → Prop) : Prop := ∀ {pc : Nat} {ls : Lc} {st : List Vl} {σ : Mm} {k : Nat} {i j a : Int} {n : Nat}, (decode cc pc = .ok (.iastore, 1)) → (kd k = (1, n)) → (0 ≤ j) → (j < (n : Int)) → (Un e k j) → (Okv k j a) → (K (pc + 1) ls st σ) → K pc ls (vI a :: vI j :: vR k i :: st) σ
def Z_iastT (e : Ev) (cc : ByteArray) (own : String) (Cal : Nat → List Vl → Mm → (Option Vl → Mm → Prop) → Prop) (K : Nat → Lc → List Vl → Mm → Prop) : Prop := ∀ {pc : Nat} {ls : Lc} {st : List Vl} {σ : Mm} {k : Nat} {i j a : Int} {n : Nat}, (decode cc pc = .ok (.iastore, 1)) → (kd k = (1, n)) → (0 ≤ j) → (j < (n : Int)) → (Tl e k j) → (Okv k j a) → (K (pc + 1) ls st (mu σ k i j a)) → K pc ls (vI a :: vI j :: vR k i :: st) σ
def Z_iastX (e : Ev) (cc : ByteArray) (own : String) (Cal : Nat → List Vl → Mm → (Option Vl → Mm → Prop) → Prop) (K : Nat → Lc → List Vl → Mm → Prop) : Prop := ∀ {pc : Nat} {ls : Lc} {st : List Vl} {σ : Mm} {k : Nat} {i j a a2 : Int} {n : Nat}, (decode cc pc = .ok (.iastore, 1)) → (kd k = (1, n)) → (0 ≤ j) → (j < (n : Int)) → (Tl e k j) → (Okv k j a) → (Tk e k j → a = a2) → (K (pc + 1) ls st (mu σ k i j a2)) → K pc ls (vI a :: vI j :: vR k i :: st) σ
def Z_aald (e : Ev) (cc : ByteArray) (own : String) (Cal : Nat → List Vl → Mm → (Option Vl → Mm → Prop) → Prop) (K : Nat → Lc → List Vl → Mm → Prop) : Prop := ∀ {pc : Nat} {ls : Lc} {st : List Vl} {σ : Mm} {k : Nat} {i j : Int} {t n : Nat}, (decode cc pc = .ok (.aaload, 1)) → (kd k = (t + 2, n)) → (t < 4) → (0 ≤ j) → (j < (n : Int)) → (vld (rfa k j)) → (K (pc + 1) ls (Sum.inr (Sum.inl (some (rfa k j))) :: st) σ) → K pc ls (vI j :: vR k i :: st) σ
def Z_alen (e : Ev) (cc : ByteArray) (own : String) (Cal : Nat → List Vl → Mm → (Option Vl → Mm → Prop) → Prop) (K : Nat → Lc → List Vl → Mm → Prop) : Prop := ∀ {pc : Nat} {ls : Lc} {st : List Vl} {σ : Mm} {k : Nat} {i nz : Int} {n : Nat}, (decode cc pc = .ok (.arraylength, 1)) → (kd k = (1, n)) → ((n : Int) = nz) → (n < 2147483648) → (K (pc + 1) ls (vI nz :: st) σ) → K pc ls (vR k i :: st) σ
def Z_sald (e : Ev) (cc : ByteArray) (own : String) (Cal : Nat → List Vl → Mm → (Option Vl → Mm → Prop) → Prop) (K : Nat → Lc → List Vl → Mm → Prop) : Prop := ∀ {pc : Nat} {ls : Lc} {st : List Vl} {σ : Mm} {j : Int}, (decode cc pc = .ok (.iaload, 1)) → (0 ≤ j) → (j < σ 0 0 (-1)) → (K (pc + 1) ls (vI (σ 0 0 j) :: st) σ) → K pc ls (vI j :: vR 0 0 :: st) σ
def Z_slen (e : Ev) (cc : ByteArray) (own : String) (Cal : Nat → List Vl → Mm → (Option Vl → Mm → Prop) → Prop) (K : Nat → Lc → List Vl → Mm → Prop) : Prop := ∀ {pc : Nat} {ls : Lc} {st : List Vl} {σ : Mm}, (decode cc pc = .ok (.arraylength, 1)) → (K (pc + 1) ls (vI (σ 0 0 (-1)) :: st) σ) → K pc ls (vR 0 0 :: st) σ
def Z_nums (e : Ev) (cc : ByteArray) (own : String) (Cal : Nat → List Vl → Mm → (Option Vl → Mm → Prop) → Prop) (K : Nat → Lc → List Vl → Mm → Prop) : Prop := ∀ {pc : Nat} {ls : Lc} {st : List Vl} {σ : Mm} {idx : Nat}, (decode cc pc = .ok (.getstatic idx, 3)) → (SLk own idx) → (K (pc + 3) ls (vR 1 0 :: st) σ) → K pc ls st σ
def Z_nald (e : Ev) (cc : ByteArray) (own : String) (Cal : Nat → List Vl → Mm → (Option Vl → Mm → Prop) → Prop) (K : Nat → Lc → List Vl → Mm → Prop) : Prop := ∀ {pc : Nat} {ls : Lc} {st : List Vl} {σ : Mm} {j : Int}, (decode cc pc = .ok (.iaload, 1)) → (0 ≤ j) → (j < 10) → (K (pc + 1) ls (vI (numF j) :: st) σ) → K pc ls (vI j :: vR 1 0 :: st) σ
def Z_copyU (e : Ev) (cc : ByteArray) (own : String) (Cal : Nat → List Vl → Mm → (Option Vl → Mm → Prop) → Prop) (K : Nat → Lc → List Vl → Mm → Prop) : Prop := ∀ {pc : Nat} {ls : Lc} {st : List Vl} {σ : Mm} {k0 k1 : Nat} {i0 i1 sp dp n : Int} {n0 n1 idx : Nat}, (decode cc pc = .ok (.invokestatic idx, 3)) → (Cond.methodLink own idx arraycopyName ∈ gT ∧ Cond.native arraycopyName ∈ gT ∧ Cond.static arraycopyName ∈ gT ∧ Cond.initialized "java/lang/System" ∈ gT) → (kd k0 = (1, n0)) → (kd k1 = (1, n1)) → (0 ≤ sp) → (0 ≤ dp) → (0 ≤ n) → (sp + n ≤ (n0 : Int)) → (dp + n ≤ (n1 : Int)) → (csum st ≤ 8) → (∀ j : Int, Un e k1 j ∧ ∀ j0 v : Int, Okv k0 j0 v → Okv k1 j v) → (K (pc + 3) ls st σ) → K pc ls (vI n :: vI dp :: vR k1 i1 :: vI sp :: vR k0 i0 :: st) σ
def Z_copyT (e : Ev) (cc : ByteArray) (own : String) (Cal : Nat → List Vl → Mm → (Option Vl → Mm → Prop) → Prop) (K : Nat → Lc → List Vl → Mm → Prop) : Prop := ∀ {pc : Nat} {ls : Lc} {st : List Vl} {σ : Mm} {k0 k1 : Nat} {i0 i1 sp dp n : Int} {n0 n1 idx : Nat}, (decode cc pc = .ok (.invokestatic idx, 3)) → (Cond.methodLink own idx arraycopyName ∈ gT ∧ Cond.native arraycopyName ∈ gT ∧ Cond.static arraycopyName ∈ gT ∧ Cond.initialized "java/lang/System" ∈ gT) → (kd k0 = (1, n0)) → (kd k1 = (1, n1)) → (0 ≤ sp) → (0 ≤ dp) → (0 ≤ n) → (sp + n ≤ (n0 : Int)) → (dp + n ≤ (n1 : Int)) → (csum st ≤ 8) → (∀ j : Int, ¬ DL k1 j ∧ ¬ DF k1 j) → (∀ j0 j v : Int, Okv k0 j0 v → Okv k1 j v) → (∀ x : Int, 0 ≤ x → x < n → Tk e k1 (dp + x) → Tk e k0 (sp + x)) → (K (pc + 3) ls st (cpy σ k0 i0 sp k1 i1 dp n)) → K pc ls (vI n :: vI dp :: vR k1 i1 :: vI sp :: vR k0 i0 :: st) σ
def Z_inv (e : Ev) (cc : ByteArray) (own : String) (Cal : Nat → List Vl → Mm → (Option Vl → Mm → Prop) → Prop) (K : Nat → Lc → List Vl → Mm → Prop) : Prop := ∀ {pc : Nat} {ls : Lc} {rest as : List Vl} {σ : Mm} {k idx M ci : Nat} {i : Int}, (decode cc pc = .ok (.invokevirtual idx, 3)) → (VLk own idx M) → (kd k = (0, ci)) → ((vwCl[ci]?).map (fun q => q.1) = some (my M).cls) → (as.length = mp M) → (csum (vR k i :: as) ≤ ml M) → (csum rest ≤ 8) → (Cal M (vR k i :: as) σ (fun r σ2 => K (pc + 3) ls (r.toList ++ rest) σ2)) → K pc ls (as.reverse ++ vR k i :: rest) σ
def Z_ins (e : Ev) (cc : ByteArray) (own : String) (Cal : Nat → List Vl → Mm → (Option Vl → Mm → Prop) → Prop) (K : Nat → Lc → List Vl → Mm → Prop) : Prop := ∀ {pc : Nat} {ls : Lc} {rest as : List Vl} {σ : Mm} {idx M : Nat}, (decode cc pc = .ok (.invokestatic idx, 3)) → (TLk own idx M) → (as.length = mp M) → (csum as ≤ ml M) → (csum rest ≤ 8) → (Cal M as σ (fun r σ2 => K (pc + 3) ls (r.toList ++ rest) σ2)) → K pc ls (as.reverse ++ rest) σ
def StpZ (e : Ev) (cc : ByteArray) (own : String) (Cal : Nat → List Vl → Mm → (Option Vl → Mm → Prop) → Prop) (K : Nat → Lc → List Vl → Mm → Prop) : Prop := StpC (fun _ => vld) rgT cc own K ∧ Z_ok e cc own Cal K ∧ Z_getI e cc own Cal K ∧ Z_getR e cc own Cal K ∧ Z_putIU e cc own Cal K ∧ Z_putIT e cc own Cal K ∧ Z_putZU e cc own Cal K ∧ Z_putZT e cc own Cal K ∧ Z_iald e cc own Cal K ∧ Z_iastU e cc own Cal K ∧ Z_iastT e cc own Cal K ∧ Z_iastX e cc own Cal K ∧ Z_aald e cc own Cal K ∧ Z_alen e cc own Cal K ∧ Z_sald e cc own Cal K ∧ Z_slen e cc own Cal K ∧ Z_nums e cc own Cal K ∧ Z_nald e cc own Cal K ∧ Z_copyU e cc own Cal K ∧ Z_copyT e cc own Cal K ∧ Z_inv e cc own Cal K ∧ Z_ins e cc own Cal K
theorem WP.mono {P P2 : Option Vl → Mm → Prop} (h : ∀ r τ, P r τ → P2 r τ) : ∀ (d M : Nat) (as : List Vl) (τ : Mm), WP d M as τ P → WP d M as τ P2
  | 0, _, _, _, q => q.elim
  | d + 1, M, as, τ, q => fun K hK => q K ⟨hK.1, fun a b c => hK.2.1 a b (h _ _ c), fun a b e c => hK.2.2.1 a b e (h _ _ c), fun a b c => hK.2.2.2.1 a b (h _ _ c), fun a b c => hK.2.2.2.2 a b (h _ _ c)⟩
/-- what a method comes to, over the memories that are seen alike -/
def WT (e : Ev) (d M : Nat) (as : List Vl) (σ : Mm) (P : Option Vl → Mm → Prop) : Prop := ∀ τ : Mm, Ab e σ τ → WP d M as τ (fun r τ2 => ∃ σ2 : Mm, P r σ2 ∧ Ab e σ2 τ2)
section LIFT2
variable {e : Ev} {cc : ByteArray} {own : String} {K : Nat → Lc → List Vl → Mm → Prop} {d : Nat}
theorem kz_ok (hM : StpM cc own (WP d) K) : Z_ok e cc own (WT e d) (KA e K) := by
  intro pc ls st σ k_ τ hA
  exact k_ (fun c i j ht => by rw [← hA.1 c i j ht]; exact hA.2.1 c i j) τ hA
theorem kz_getI (hM : StpM cc own (WP d) K) : Z_getI e cc own (WT e d) (KA e K) := by
  intro pc ls st σ k i jz idx ci j ty hd hf hk hr hz k_ τ hA
  exact hM.1.2.2.2.2.2.2.2.2.2.2.2.2.2.2.2.2.2.2.2.2.2.2.2.2.2.2.2.2.2.2.2.2.2.2.2.2.2.2.2.2.2.2.2.2.2.2.2.2.2.2.2.2.2.2.2.2.2.2.2 (fun g _ => hM.2.1 hd hf hk hr hz (k_ _ (g _ _ _) (hA.2.1 _ _ _) (fun ht => hA.1 _ _ _ ht) τ hA))
theorem kz_getR (hM : StpM cc own (WP d) K) : Z_getR e cc own (WT e d) (KA e K) := by
  intro pc ls st σ k i idx ci j ty q hd hf hk hr hv k_ τ hA
  exact hM.2.2.1 hd hf hk hr hv (k_ τ hA)
theorem kz_putIU (hM : StpM cc own (WP d) K) : Z_putIU e cc own (WT e d) (KA e K) := by
  intro pc ls st σ k i a jz idx ci j hd hf hk hr hz h1 h3 k_ τ hA
  exact hM.2.2.2.1 hd hf hk hr hz (k_ _ (ab_muU hA h1 h3))
theorem kz_putIT (hM : StpM cc own (WP d) K) : Z_putIT e cc own (WT e d) (KA e K) := by
  intro pc ls st σ k i a jz idx ci j hd hf hk hr hz h2 h3 k_ τ hA
  exact hM.2.2.2.1 hd hf hk hr hz (k_ _ (ab_mu hA h3 h2))
theorem kz_putZU (hM : StpM cc own (WP d) K) : Z_putZU e cc own (WT e d) (KA e K) := by
  intro pc ls st σ k i a jz idx ci j hd hf hk hr hz ha h1 h3 k_ τ hA
  exact hM.2.2.2.2.1 hd hf hk hr hz ha (k_ _ (ab_muU hA h1 h3))
theorem kz_putZT (hM : StpM cc own (WP d) K) : Z_putZT e cc own (WT e d) (KA e K) := by
  intro pc ls st σ k i a jz idx ci j hd hf hk hr hz ha h2 h3 k_ τ hA
  exact hM.2.2.2.2.1 hd hf hk hr hz ha (k_ _ (ab_mu hA h3 h2))
theorem kz_iald (hM : StpM cc own (WP d) K) : Z_iald e cc own (WT e d) (KA e K) := by
  intro pc ls st σ k i j n hd hk h0 h1 k_ τ hA
  exact hM.1.2.2.2.2.2.2.2.2.2.2.2.2.2.2.2.2.2.2.2.2.2.2.2.2.2.2.2.2.2.2.2.2.2.2.2.2.2.2.2.2.2.2.2.2.2.2.2.2.2.2.2.2.2.2.2.2.2.2.2 (fun g _ => hM.2.2.2.2.2.1 hd hk h0 h1 (k_ _ (g _ _ _) (hA.2.1 _ _ _) (fun ht => hA.1 _ _ _ ht) τ hA))
theorem kz_iastU (hM : StpM cc own (WP d) K) : Z_iastU e cc own (WT e d) (KA e K) := by
  intro pc ls st σ k i j a n hd hk h0 h1 h4 h3 k_ τ hA
  exact hM.2.2.2.2.2.2.1 hd hk h0 h1 (k_ _ (ab_muU hA h4 h3))
theorem kz_iastT (hM : StpM cc own (WP d) K) : Z_iastT e cc own (WT e d) (KA e K) := by
  intro pc ls st σ k i j a n hd hk h0 h1 h2 h3 k_ τ hA
  exact hM.2.2.2.2.2.2.1 hd hk h0 h1 (k_ _ (ab_mu hA h3 h2))
theorem kz_iastX (hM : StpM cc own (WP d) K) : Z_iastX e cc own (WT e d) (KA e K) := by
  intro pc ls st σ k i j a a2 n hd hk h0 h1 h2 h3 h5 k_ τ hA
  exact hM.2.2.2.2.2.2.1 hd hk h0 h1 (k_ _ (ab_muX hA h3 h2 h5))
theorem kz_aald (hM : StpM cc own (WP d) K) : Z_aald e cc own (WT e d) (KA e K) := by
  intro pc ls st σ k i j t n hd hk ht h0 h1 hv k_ τ hA
  exact hM.2.2.2.2.2.2.2.1 hd hk ht h0 h1 hv (k_ τ hA)
theorem kz_alen (hM : StpM cc own (WP d) K) : Z_alen e cc own (WT e d) (KA e K) := by
  intro pc ls st σ k i nz n hd hk hz hn k_ τ hA
  exact hM.2.2.2.2.2.2.2.2.1 hd hk hz hn (k_ τ hA)
theorem kz_sald (hM : StpM cc own (WP d) K) : Z_sald e cc own (WT e d) (KA e K) := by
  intro pc ls st σ j hd h0 h1 k_ τ hA
  exact hM.2.2.2.2.2.2.2.2.2.1 hd h0 (by rw [hA.1 0 0 (-1) (Or.inl trivial)]; exact h1) (by rw [hA.1 0 0 j (Or.inl trivial)]; exact k_ τ hA)
theorem kz_slen (hM : StpM cc own (WP d) K) : Z_slen e cc own (WT e d) (KA e K) := by
  intro pc ls st σ hd k_ τ hA
  exact hM.2.2.2.2.2.2.2.2.2.2.1 hd (by rw [hA.1 0 0 (-1) (Or.inl trivial)]; exact k_ τ hA)
theorem kz_nums (hM : StpM cc own (WP d) K) : Z_nums e cc own (WT e d) (KA e K) := by
  intro pc ls st σ idx hd hl k_ τ hA
  exact hM.2.2.2.2.2.2.2.2.2.2.2.1 hd hl (k_ τ hA)
theorem kz_nald (hM : StpM cc own (WP d) K) : Z_nald e cc own (WT e d) (KA e K) := by
  intro pc ls st σ j hd h0 h1 k_ τ hA
  exact hM.2.2.2.2.2.2.2.2.2.2.2.2.1 hd h0 h1 (k_ τ hA)
theorem kz_copyU (hM : StpM cc own (WP d) K) : Z_copyU e cc own (WT e d) (KA e K) := by
  intro pc ls st σ k0 k1 i0 i1 sp dp n n0 n1 idx hd hl hk0 hk1 h1 h2 h3 h4 h5 hst hf k_ τ hA
  exact hM.2.2.2.2.2.2.2.2.2.2.2.2.2.1 hd hl hk0 hk1 h1 h2 h3 h4 h5 hst (k_ _ (ab_cpy hA hf))
theorem kz_copyT (hM : StpM cc own (WP d) K) : Z_copyT e cc own (WT e d) (KA e K) := by
  intro pc ls st σ k0 k1 i0 i1 sp dp n n0 n1 idx hd hl hk0 hk1 h1 h2 h3 h4 h5 hst hD ho hx k_ τ hA
  exact hM.2.2.2.2.2.2.2.2.2.2.2.2.2.1 hd hl hk0 hk1 h1 h2 h3 h4 h5 hst (k_ _ (ab_cpyT hA hD ho hx))
theorem kz_inv (hM : StpM cc own (WP d) K) : Z_inv e cc own (WT e d) (KA e K) := by
  intro pc ls rest as σ k idx M ci i hd hl hk hn hlen hcs hst k_ τ hA
  exact hM.2.2.2.2.2.2.2.2.2.2.2.2.2.2.1 hd hl hk hn hlen hcs hst (WP.mono (fun r τ2 hp => by obtain ⟨σ2, h3, h4⟩ := hp; exact h3 τ2 h4) _ _ _ _ (k_ τ hA))
theorem kz_ins (hM : StpM cc own (WP d) K) : Z_ins e cc own (WT e d) (KA e K) := by
  intro pc ls rest as σ idx M hd hl hlen hcs hst k_ τ hA
  exact hM.2.2.2.2.2.2.2.2.2.2.2.2.2.2.2 hd hl hlen hcs hst (WP.mono (fun r τ2 hp => by obtain ⟨σ2, h3, h4⟩ := hp; exact h3 τ2 h4) _ _ _ _ (k_ τ hA))
theorem ka_Z (hM : StpM cc own (WP d) K) : StpZ e cc own (WT e d) (KA e K) := ⟨ka_C hM.1, kz_ok hM, kz_getI hM, kz_getR hM, kz_putIU hM, kz_putIT hM, kz_putZU hM, kz_putZT hM, kz_iald hM, kz_iastU hM, kz_iastT hM, kz_iastX hM, kz_aald hM, kz_alen hM, kz_sald hM, kz_slen hM, kz_nums hM, kz_nald hM, kz_copyU hM, kz_copyT hM, kz_inv hM, kz_ins hM⟩
end LIFT2
def StpY (e : Ev) (cc : ByteArray) (own : String) (ret : Option FieldType) (Cal : Nat → List Vl → Mm → (Option Vl → Mm → Prop) → Prop) (Post : Option Vl → Mm → Prop) (K : Nat → Lc → List Vl → Mm → Prop) : Prop := StpZ e cc own Cal K ∧ T_iret cc ret Post K ∧ T_zret cc ret Post K ∧ T_vret cc ret Post K ∧ T_aret cc ret Post K
theorem WT_in {e : Ev} {d M : Nat} {as : List Vl} {σ : Mm} {P : Option Vl → Mm → Prop} (h : ∀ K : Nat → Lc → List Vl → Mm → Prop, StpY e (mb M) (my M).cls (mr M) (WT e d) P K → K 0 (ent (ml M) as) [] σ) : WT e (d + 1) M as σ P := by
  intro τ hA K hK
  refine h (KA e K) ⟨ka_Z hK.1, ?_, ?_, ?_, ?_⟩ τ hA
  · intro pc ls σ2 a hr hd hp τ2 hA2
    exact hK.2.1 hr hd ⟨σ2, hp, hA2⟩
  · intro pc ls σ2 a hr hd ha hp τ2 hA2
    exact hK.2.2.1 hr hd ha ⟨σ2, hp, hA2⟩
  · intro pc ls σ2 hr hd hp τ2 hA2
    exact hK.2.2.2.1 hr hd ⟨σ2, hp, hA2⟩
  · intro pc ls σ2 n q hr hd hp τ2 hA2
    exact hK.2.2.2.2 hr hd ⟨σ2, hp, hA2⟩
theorem WT_ok {e : Ev} {d M : Nat} {as : List Vl} {σ : Mm} {P : Option Vl → Mm → Prop} (h : (∀ (c : Nat) (i j : Int), Tk e c j → Okv c j (σ c i j)) → WT e d M as σ P) : WT e d M as σ P := fun τ hA => h (fun c i j ht => by rw [← hA.1 c i j ht]; exact hA.2.1 c i j) τ hA
/-- a sharper contract serves loosely where the standing facts hold again at the end -/
theorem WT_loose {e : Ev} (e2 : Ev) {d M : Nat} {as : List Vl} {σ : Mm} {P : Option Vl → Mm → Prop} (h1 : e2.1 = false → e.1 = false) (h2 : e2.2.1 = false → e.2.1 = false) (hs : ∀ (c : Nat) (j : Int), Tk e c j → Tk e2 c j)
    (h : ∀ ρ : Mm, (e.1 = false → InT ρ) → (e.2.1 = false → InF ρ) → (∀ (c : Nat) (i j : Int), Tk e c j → ρ c i j = σ c i j) → (∀ (c : Nat) (i j : Int), Okv c j (ρ c i j)) → WT e2 d M as ρ (fun r ρ2 => ∃ σ2 : Mm, P r σ2 ∧ (e.1 = false → e2.1 = false ∨ InT ρ2) ∧ (e.2.1 = false → e2.2.1 = false ∨ InF ρ2) ∧ ∀ (c : Nat) (i j : Int), Tk e c j → ρ2 c i j = σ2 c i j)) : WT e d M as σ P := by
  intro τ hA
  refine WP.mono (fun r τ2 hp => ?_) _ _ _ _ (h τ hA.2.2.1 hA.2.2.2 (fun c i j q => hA.1 c i j q) hA.2.1 τ (ab_sharp hA h1 h2))
  obtain ⟨ρ2, ⟨σ2, g1, g2, g3, g4⟩, g5⟩ := hp
  exact ⟨σ2, g1, ab_loose g5 g2 g3 hs g4⟩
theorem DL_Tb {c : Nat} {j : Int} (h : DL c j) : Tb c j := by
  unfold DL at h
  split at h
  · show j ≠ 11
    omega
  · show j % 22 ≠ 7 ∧ (j % 22 = 21 → 88 ≤ j ∧ j < 154)
    omega
  · exact h.elim
section ZROWS
variable {e : Ev} {cc : ByteArray} {own : String} {ret : Option FieldType} {Cal : Nat → List Vl → Mm → (Option Vl → Mm → Prop) → Prop} {Post : Option Vl → Mm → Prop} {K : Nat → Lc → List Vl → Mm → Prop}
theorem z_ok (hK : StpZ e cc own Cal K) {pc : Nat} {ls : Lc} {st : List Vl} {σ : Mm} (k_ : (∀ (c : Nat) (i j : Int), Tk e c j → Okv c j (σ c i j)) → K pc ls st σ) : K pc ls st σ := hK.2.1 k_
theorem z_getI (hK : StpZ e cc own Cal K) {pc : Nat} {ls : Lc} {st : List Vl} {σ : Mm} {k : Nat} {i jz : Int} {idx ci j : Nat} {ty : FieldType} (hd : decode cc pc = .ok (.getfield idx, 3)) (hf : FLk own idx ci j ty) (hk : kd k = (0, ci)) (hr : rff k i j = none) (hz : (j : Int) = jz) (k_ : ∀ v : Int, (-2147483648 ≤ v ∧ v < 2147483648) → Okv k jz v → (Tk e k jz → v = σ k i jz) → K (pc + 3) ls (vI v :: st) σ) : K pc ls (vR k i :: st) σ := hK.2.2.1 hd hf hk hr hz k_
theorem z_getR (hK : StpZ e cc own Cal K) {pc : Nat} {ls : Lc} {st : List Vl} {σ : Mm} {k : Nat} {i : Int} {idx ci j : Nat} {ty : FieldType} {q : Nat × Int} (hd : decode cc pc = .ok (.getfield idx, 3)) (hf : FLk own idx ci j ty) (hk : kd k = (0, ci)) (hr : rff k i j = some q) (hv : vld q) (k_ : K (pc + 3) ls (Sum.inr (Sum.inl (some q)) :: st) σ) : K pc ls (vR k i :: st) σ := hK.2.2.2.1 hd hf hk hr hv k_
theorem z_putIU (hK : StpZ e cc own Cal K) {pc : Nat} {ls : Lc} {st : List Vl} {σ : Mm} {k : Nat} {i a jz : Int} {idx ci j : Nat} (hd : decode cc pc = .ok (.putfield idx, 3)) (hf : FLw own idx ci j .int) (hk : kd k = (0, ci)) (hr : rff k i j = none) (hz : (j : Int) = jz) (h1 : Un e k jz) (h3 : Okv k jz a) (k_ : K (pc + 3) ls st σ) : K pc ls (vI a :: vR k i :: st) σ := hK.2.2.2.2.1 hd hf hk hr hz h1 h3 k_
theorem z_putIT (hK : StpZ e cc own Cal K) {pc : Nat} {ls : Lc} {st : List Vl} {σ : Mm} {k : Nat} {i a jz : Int} {idx ci j : Nat} (hd : decode cc pc = .ok (.putfield idx, 3)) (hf : FLw own idx ci j .int) (hk : kd k = (0, ci)) (hr : rff k i j = none) (hz : (j : Int) = jz) (h2 : Tl e k jz) (h3 : Okv k jz a) (k_ : K (pc + 3) ls st (mu σ k i jz a)) : K pc ls (vI a :: vR k i :: st) σ := hK.2.2.2.2.2.1 hd hf hk hr hz h2 h3 k_
theorem z_putZU (hK : StpZ e cc own Cal K) {pc : Nat} {ls : Lc} {st : List Vl} {σ : Mm} {k : Nat} {i a jz : Int} {idx ci j : Nat} (hd : decode cc pc = .ok (.putfield idx, 3)) (hf : FLw own idx ci j .boolean) (hk : kd k = (0, ci)) (hr : rff k i j = none) (hz : (j : Int) = jz) (ha : a = 0 ∨ a = 1) (h1 : Un e k jz) (h3 : Okv k jz a) (k_ : K (pc + 3) ls st σ) : K pc ls (vI a :: vR k i :: st) σ := hK.2.2.2.2.2.2.1 hd hf hk hr hz ha h1 h3 k_
theorem z_putZT (hK : StpZ e cc own Cal K) {pc : Nat} {ls : Lc} {st : List Vl} {σ : Mm} {k : Nat} {i a jz : Int} {idx ci j : Nat} (hd : decode cc pc = .ok (.putfield idx, 3)) (hf : FLw own idx ci j .boolean) (hk : kd k = (0, ci)) (hr : rff k i j = none) (hz : (j : Int) = jz) (ha : a = 0 ∨ a = 1) (h2 : Tl e k jz) (h3 : Okv k jz a) (k_ : K (pc + 3) ls st (mu σ k i jz a)) : K pc ls (vI a :: vR k i :: st) σ := hK.2.2.2.2.2.2.2.1 hd hf hk hr hz ha h2 h3 k_
theorem z_iald (hK : StpZ e cc own Cal K) {pc : Nat} {ls : Lc} {st : List Vl} {σ : Mm} {k : Nat} {i j : Int} {n : Nat} (hd : decode cc pc = .ok (.iaload, 1)) (hk : kd k = (1, n)) (h0 : 0 ≤ j) (h1 : j < (n : Int)) (k_ : ∀ v : Int, (-2147483648 ≤ v ∧ v < 2147483648) → Okv k j v → (Tk e k j → v = σ k i j) → K (pc + 1) ls (vI v :: st) σ) : K pc ls (vI j :: vR k i :: st) σ := hK.2.2.2.2.2.2.2.2.1 hd hk h0 h1 k_
theorem z_iastU (hK : StpZ e cc own Cal K) {pc : Nat} {ls : Lc} {st : List Vl} {σ : Mm} {k : Nat} {i j a : Int} {n : Nat} (hd : decode cc pc = .ok (.iastore, 1)) (hk : kd k = (1, n)) (h0 : 0 ≤ j) (h1 : j < (n : Int)) (h4 : Un e k j) (h3 : Okv k j a) (k_ : K (pc + 1) ls st σ) : K pc ls (vI a :: vI j :: vR k i :: st) σ := hK.2.2.2.2.2.2.2.2.2.1 hd hk h0 h1 h4 h3 k_
theorem z_iastT (hK : StpZ e cc own Cal K) {pc : Nat} {ls : Lc} {st : List Vl} {σ : Mm} {k : Nat} {i j a : Int} {n : Nat} (hd : decode cc pc = .ok (.iastore, 1)) (hk : kd k = (1, n)) (h0 : 0 ≤ j) (h1 : j < (n : Int)) (h2 : Tl e k j) (h3 : Okv k j a) (k_ : K (pc + 1) ls st (mu σ k i j a)) : K pc ls (vI a :: vI j :: vR k i :: st) σ := hK.2.2.2.2.2.2.2.2.2.2.1 hd hk h0 h1 h2 h3 k_
theorem z_iastX (hK : StpZ e cc own Cal K) {pc : Nat} {ls : Lc} {st : List Vl} {σ : Mm} {k : Nat} {i j a a2 : Int} {n : Nat} (hd : decode cc pc = .ok (.iastore, 1)) (hk : kd k = (1, n)) (h0 : 0 ≤ j) (h1 : j < (n : Int)) (h2 : Tl e k j) (h3 : Okv k j a) (h5 : Tk e k j → a = a2) (k_ : K (pc + 1) ls st (mu σ k i j a2)) : K pc ls (vI a :: vI j :: vR k i :: st) σ := hK.2.2.2.2.2.2.2.2.2.2.2.1 hd hk h0 h1 h2 h3 h5 k_
theorem z_aald (hK : StpZ e cc own Cal K) {pc : Nat} {ls : Lc} {st : List Vl} {σ : Mm} {k : Nat} {i j : Int} {t n : Nat} (hd : decode cc pc = .ok (.aaload, 1)) (hk : kd k = (t + 2, n)) (ht : t < 4) (h0 : 0 ≤ j) (h1 : j < (n : Int)) (hv : vld (rfa k j)) (k_ : K (pc + 1) ls (Sum.inr (Sum.inl (some (rfa k j))) :: st) σ) : K pc ls (vI j :: vR k i :: st) σ := hK.2.2.2.2.2.2.2.2.2.2.2.2.1 hd hk ht h0 h1 hv k_
theorem z_alen (hK : StpZ e cc own Cal K) {pc : Nat} {ls : Lc} {st : List Vl} {σ : Mm} {k : Nat} {i nz : Int} {n : Nat} (hd : decode cc pc = .ok (.arraylength, 1)) (hk : kd k = (1, n)) (hz : (n : Int) = nz) (hn : n < 2147483648) (k_ : K (pc + 1) ls (vI nz :: st) σ) : K pc ls (vR k i :: st) σ := hK.2.2.2.2.2.2.2.2.2.2.2.2.2.1 hd hk hz hn k_
theorem z_sald (hK : StpZ e cc own Cal K) {pc : Nat} {ls : Lc} {st : List Vl} {σ : Mm} {j : Int} (hd : decode cc pc = .ok (.iaload, 1)) (h0 : 0 ≤ j) (h1 : j < σ 0 0 (-1)) (k_ : K (pc + 1) ls (vI (σ 0 0 j) :: st) σ) : K pc ls (vI j :: vR 0 0 :: st) σ := hK.2.2.2.2.2.2.2.2.2.2.2.2.2.2.1 hd h0 h1 k_
theorem z_slen (hK : StpZ e cc own Cal K) {pc : Nat} {ls : Lc} {st : List Vl} {σ : Mm} (hd : decode cc pc = .ok (.arraylength, 1)) (k_ : K (pc + 1) ls (vI (σ 0 0 (-1)) :: st) σ) : K pc ls (vR 0 0 :: st) σ := hK.2.2.2.2.2.2.2.2.2.2.2.2.2.2.2.1 hd k_
theorem z_nums (hK : StpZ e cc own Cal K) {pc : Nat} {ls : Lc} {st : List Vl} {σ : Mm} {idx : Nat} (hd : decode cc pc = .ok (.getstatic idx, 3)) (hl : SLk own idx) (k_ : K (pc + 3) ls (vR 1 0 :: st) σ) : K pc ls st σ := hK.2.2.2.2.2.2.2.2.2.2.2.2.2.2.2.2.1 hd hl k_
theorem z_nald (hK : StpZ e cc own Cal K) {pc : Nat} {ls : Lc} {st : List Vl} {σ : Mm} {j : Int} (hd : decode cc pc = .ok (.iaload, 1)) (h0 : 0 ≤ j) (h1 : j < 10) (k_ : K (pc + 1) ls (vI (numF j) :: st) σ) : K pc ls (vI j :: vR 1 0 :: st) σ := hK.2.2.2.2.2.2.2.2.2.2.2.2.2.2.2.2.2.1 hd h0 h1 k_
theorem z_copyU (hK : StpZ e cc own Cal K) {pc : Nat} {ls : Lc} {st : List Vl} {σ : Mm} {k0 k1 : Nat} {i0 i1 sp dp n : Int} {n0 n1 idx : Nat} (hd : decode cc pc = .ok (.invokestatic idx, 3)) (hl : Cond.methodLink own idx arraycopyName ∈ gT ∧ Cond.native arraycopyName ∈ gT ∧ Cond.static arraycopyName ∈ gT ∧ Cond.initialized "java/lang/System" ∈ gT) (hk0 : kd k0 = (1, n0)) (hk1 : kd k1 = (1, n1)) (h1 : 0 ≤ sp) (h2 : 0 ≤ dp) (h3 : 0 ≤ n) (h4 : sp + n ≤ (n0 : Int)) (h5 : dp + n ≤ (n1 : Int)) (hst : csum st ≤ 8) (hf : ∀ j : Int, Un e k1 j ∧ ∀ j0 v : Int, Okv k0 j0 v → Okv k1 j v) (k_ : K (pc + 3) ls st σ) : K pc ls (vI n :: vI dp :: vR k1 i1 :: vI sp :: vR k0 i0 :: st) σ := hK.2.2.2.2.2.2.2.2.2.2.2.2.2.2.2.2.2.2.1 hd hl hk0 hk1 h1 h2 h3 h4 h5 hst hf k_
theorem z_copyT (hK : StpZ e cc own Cal K) {pc : Nat} {ls : Lc} {st : List Vl} {σ : Mm} {k0 k1 : Nat} {i0 i1 sp dp n : Int} {n0 n1 idx : Nat} (hd : decode cc pc = .ok (.invokestatic idx, 3)) (hl : Cond.methodLink own idx arraycopyName ∈ gT ∧ Cond.native arraycopyName ∈ gT ∧ Cond.static arraycopyName ∈ gT ∧ Cond.initialized "java/lang/System" ∈ gT) (hk0 : kd k0 = (1, n0)) (hk1 : kd k1 = (1, n1)) (h1 : 0 ≤ sp) (h2 : 0 ≤ dp) (h3 : 0 ≤ n) (h4 : sp + n ≤ (n0 : Int)) (h5 : dp + n ≤ (n1 : Int)) (hst : csum st ≤ 8) (hD : ∀ j : Int, ¬ DL k1 j ∧ ¬ DF k1 j) (ho : ∀ j0 j v : Int, Okv k0 j0 v → Okv k1 j v) (hx : ∀ x : Int, 0 ≤ x → x < n → Tk e k1 (dp + x) → Tk e k0 (sp + x)) (k_ : K (pc + 3) ls st (cpy σ k0 i0 sp k1 i1 dp n)) : K pc ls (vI n :: vI dp :: vR k1 i1 :: vI sp :: vR k0 i0 :: st) σ := hK.2.2.2.2.2.2.2.2.2.2.2.2.2.2.2.2.2.2.2.1 hd hl hk0 hk1 h1 h2 h3 h4 h5 hst hD ho hx k_
theorem z_inv (hK : StpZ e cc own Cal K) {pc : Nat} {ls : Lc} {rest as : List Vl} {σ : Mm} {k idx M ci : Nat} {i : Int} (hd : decode cc pc = .ok (.invokevirtual idx, 3)) (hl : VLk own idx M) (hk : kd k = (0, ci)) (hn : (vwCl[ci]?).map (fun q => q.1) = some (my M).cls) (hlen : as.length = mp M) (hcs : csum (vR k i :: as) ≤ ml M) (hst : csum rest ≤ 8) (k_ : Cal M (vR k i :: as) σ (fun r σ2 => K (pc + 3) ls (r.toList ++ rest) σ2)) : K pc ls (as.reverse ++ vR k i :: rest) σ := hK.2.2.2.2.2.2.2.2.2.2.2.2.2.2.2.2.2.2.2.2.1 hd hl hk hn hlen hcs hst k_
theorem z_ins (hK : StpZ e cc own Cal K) {pc : Nat} {ls : Lc} {rest as : List Vl} {σ : Mm} {idx M : Nat} (hd : decode cc pc = .ok (.invokestatic idx, 3)) (hl : TLk own idx M) (hlen : as.length = mp M) (hcs : csum as ≤ ml M) (hst : csum rest ≤ 8) (k_ : Cal M as σ (fun r σ2 => K (pc + 3) ls (r.toList ++ rest) σ2)) : K pc ls (as.reverse ++ rest) σ := hK.2.2.2.2.2.2.2.2.2.2.2.2.2.2.2.2.2.2.2.2.2 hd hl hlen hcs hst k_
theorem z_inv0 (hK : StpZ e cc own Cal K) {pc : Nat} {ls : Lc} {rest : List Vl} {σ : Mm} {k idx M ci : Nat} {i : Int} (hd : decode cc pc = .ok (.invokevirtual idx, 3)) (hl : VLk own idx M) (hk : kd k = (0, ci)) (hn : (vwCl[ci]?).map (fun q => q.1) = some (my M).cls) (hlen : (0 : Nat) = mp M) (hcs : csum (vR k i :: []) ≤ ml M) (hst : csum rest ≤ 8) (k_ : Cal M (vR k i :: []) σ (fun r σ2 => K (pc + 3) ls (r.toList ++ rest) σ2)) : K pc ls (vR k i :: rest) σ := z_inv hK (as := []) hd hl hk hn hlen hcs hst k_
theorem z_ins0 (hK : StpZ e cc own Cal K) {pc : Nat} {ls : Lc} {rest : List Vl} {σ : Mm} {idx M : Nat} (hd : decode cc pc = .ok (.invokestatic idx, 3)) (hl : TLk own idx M) (hlen : (0 : Nat) = mp M) (hcs : csum [] ≤ ml M) (hst : csum rest ≤ 8) (k_ : Cal M [] σ (fun r σ2 => K (pc + 3) ls (r.toList ++ rest) σ2)) : K pc ls (rest) σ := z_ins hK (as := []) hd hl hlen hcs hst k_
theorem z_inv1 (hK : StpZ e cc own Cal K) {pc : Nat} {ls : Lc} {rest : List Vl} {σ : Mm} {k idx M ci : Nat} {i : Int} {a1 : Vl} (hd : decode cc pc = .ok (.invokevirtual idx, 3)) (hl : VLk own idx M) (hk : kd k = (0, ci)) (hn : (vwCl[ci]?).map (fun q => q.1) = some (my M).cls) (hlen : (1 : Nat) = mp M) (hcs : csum (vR k i :: [a1]) ≤ ml M) (hst : csum rest ≤ 8) (k_ : Cal M (vR k i :: [a1]) σ (fun r σ2 => K (pc + 3) ls (r.toList ++ rest) σ2)) : K pc ls (a1 :: vR k i :: rest) σ := z_inv hK (as := [a1]) hd hl hk hn hlen hcs hst k_
theorem z_ins1 (hK : StpZ e cc own Cal K) {pc : Nat} {ls : Lc} {rest : List Vl} {σ : Mm} {idx M : Nat} {a1 : Vl} (hd : decode cc pc = .ok (.invokestatic idx, 3)) (hl : TLk own idx M) (hlen : (1 : Nat) = mp M) (hcs : csum [a1] ≤ ml M) (hst : csum rest ≤ 8) (k_ : Cal M [a1] σ (fun r σ2 => K (pc + 3) ls (r.toList ++ rest) σ2)) : K pc ls (a1 :: rest) σ := z_ins hK (as := [a1]) hd hl hlen hcs hst k_
theorem z_inv2 (hK : StpZ e cc own Cal K) {pc : Nat} {ls : Lc} {rest : List Vl} {σ : Mm} {k idx M ci : Nat} {i : Int} {a1 a2 : Vl} (hd : decode cc pc = .ok (.invokevirtual idx, 3)) (hl : VLk own idx M) (hk : kd k = (0, ci)) (hn : (vwCl[ci]?).map (fun q => q.1) = some (my M).cls) (hlen : (2 : Nat) = mp M) (hcs : csum (vR k i :: [a1, a2]) ≤ ml M) (hst : csum rest ≤ 8) (k_ : Cal M (vR k i :: [a1, a2]) σ (fun r σ2 => K (pc + 3) ls (r.toList ++ rest) σ2)) : K pc ls (a2 :: a1 :: vR k i :: rest) σ := z_inv hK (as := [a1, a2]) hd hl hk hn hlen hcs hst k_
theorem z_ins2 (hK : StpZ e cc own Cal K) {pc : Nat} {ls : Lc} {rest : List Vl} {σ : Mm} {idx M : Nat} {a1 a2 : Vl} (hd : decode cc pc = .ok (.invokestatic idx, 3)) (hl : TLk own idx M) (hlen : (2 : Nat) = mp M) (hcs : csum [a1, a2] ≤ ml M) (hst : csum rest ≤ 8) (k_ : Cal M [a1, a2] σ (fun r σ2 => K (pc + 3) ls (r.toList ++ rest) σ2)) : K pc ls (a2 :: a1 :: rest) σ := z_ins hK (as := [a1, a2]) hd hl hlen hcs hst k_
theorem z_inv3 (hK : StpZ e cc own Cal K) {pc : Nat} {ls : Lc} {rest : List Vl} {σ : Mm} {k idx M ci : Nat} {i : Int} {a1 a2 a3 : Vl} (hd : decode cc pc = .ok (.invokevirtual idx, 3)) (hl : VLk own idx M) (hk : kd k = (0, ci)) (hn : (vwCl[ci]?).map (fun q => q.1) = some (my M).cls) (hlen : (3 : Nat) = mp M) (hcs : csum (vR k i :: [a1, a2, a3]) ≤ ml M) (hst : csum rest ≤ 8) (k_ : Cal M (vR k i :: [a1, a2, a3]) σ (fun r σ2 => K (pc + 3) ls (r.toList ++ rest) σ2)) : K pc ls (a3 :: a2 :: a1 :: vR k i :: rest) σ := z_inv hK (as := [a1, a2, a3]) hd hl hk hn hlen hcs hst k_
theorem z_ins3 (hK : StpZ e cc own Cal K) {pc : Nat} {ls : Lc} {rest : List Vl} {σ : Mm} {idx M : Nat} {a1 a2 a3 : Vl} (hd : decode cc pc = .ok (.invokestatic idx, 3)) (hl : TLk own idx M) (hlen : (3 : Nat) = mp M) (hcs : csum [a1, a2, a3] ≤ ml M) (hst : csum rest ≤ 8) (k_ : Cal M [a1, a2, a3] σ (fun r σ2 => K (pc + 3) ls (r.toList ++ rest) σ2)) : K pc ls (a3 :: a2 :: a1 :: rest) σ := z_ins hK (as := [a1, a2, a3]) hd hl hlen hcs hst k_
theorem z_inv4 (hK : StpZ e cc own Cal K) {pc : Nat} {ls : Lc} {rest : List Vl} {σ : Mm} {k idx M ci : Nat} {i : Int} {a1 a2 a3 a4 : Vl} (hd : decode cc pc = .ok (.invokevirtual idx, 3)) (hl : VLk own idx M) (hk : kd k = (0, ci)) (hn : (vwCl[ci]?).map (fun q => q.1) = some (my M).cls) (hlen : (4 : Nat) = mp M) (hcs : csum (vR k i :: [a1, a2, a3, a4]) ≤ ml M) (hst : csum rest ≤ 8) (k_ : Cal M (vR k i :: [a1, a2, a3, a4]) σ (fun r σ2 => K (pc + 3) ls (r.toList ++ rest) σ2)) : K pc ls (a4 :: a3 :: a2 :: a1 :: vR k i :: rest) σ := z_inv hK (as := [a1, a2, a3, a4]) hd hl hk hn hlen hcs hst k_
theorem z_ins4 (hK : StpZ e cc own Cal K) {pc : Nat} {ls : Lc} {rest : List Vl} {σ : Mm} {idx M : Nat} {a1 a2 a3 a4 : Vl} (hd : decode cc pc = .ok (.invokestatic idx, 3)) (hl : TLk own idx M) (hlen : (4 : Nat) = mp M) (hcs : csum [a1, a2, a3, a4] ≤ ml M) (hst : csum rest ≤ 8) (k_ : Cal M [a1, a2, a3, a4] σ (fun r σ2 => K (pc + 3) ls (r.toList ++ rest) σ2)) : K pc ls (a4 :: a3 :: a2 :: a1 :: rest) σ := z_ins hK (as := [a1, a2, a3, a4]) hd hl hlen hcs hst k_
theorem z_inv5 (hK : StpZ e cc own Cal K) {pc : Nat} {ls : Lc} {rest : List Vl} {σ : Mm} {k idx M ci : Nat} {i : Int} {a1 a2 a3 a4 a5 : Vl} (hd : decode cc pc = .ok (.invokevirtual idx, 3)) (hl : VLk own idx M) (hk : kd k = (0, ci)) (hn : (vwCl[ci]?).map (fun q => q.1) = some (my M).cls) (hlen : (5 : Nat) = mp M) (hcs : csum (vR k i :: [a1, a2, a3, a4, a5]) ≤ ml M) (hst : csum rest ≤ 8) (k_ : Cal M (vR k i :: [a1, a2, a3, a4, a5]) σ (fun r σ2 => K (pc + 3) ls (r.toList ++ rest) σ2)) : K pc ls (a5 :: a4 :: a3 :: a2 :: a1 :: vR k i :: rest) σ := z_inv hK (as := [a1, a2, a3, a4, a5]) hd hl hk hn hlen hcs hst k_
theorem z_ins5 (hK : StpZ e cc own Cal K) {pc : Nat} {ls : Lc} {rest : List Vl} {σ : Mm} {idx M : Nat} {a1 a2 a3 a4 a5 : Vl} (hd : decode cc pc = .ok (.invokestatic idx, 3)) (hl : TLk own idx M) (hlen : (5 : Nat) = mp M) (hcs : csum [a1, a2, a3, a4, a5] ≤ ml M) (hst : csum rest ≤ 8) (k_ : Cal M [a1, a2, a3, a4, a5] σ (fun r σ2 => K (pc + 3) ls (r.toList ++ rest) σ2)) : K pc ls (a5 :: a4 :: a3 :: a2 :: a1 :: rest) σ := z_ins hK (as := [a1, a2, a3, a4, a5]) hd hl hlen hcs hst k_
theorem y_iret (hK : StpY e cc own ret Cal Post K) {pc : Nat} {ls : Lc} {σ : Mm} {a : Int} (hr : ret = some .int) (hd : decode cc pc = .ok (.ireturn, 1)) (hp : Post (some (vI a)) σ) : K pc ls [vI a] σ := hK.2.1 hr hd hp
theorem y_zret (hK : StpY e cc own ret Cal Post K) {pc : Nat} {ls : Lc} {σ : Mm} {a : Int} (hr : ret = some .boolean) (hd : decode cc pc = .ok (.ireturn, 1)) (ha : a = 0 ∨ a = 1) (hp : Post (some (vI a)) σ) : K pc ls [vI a] σ := hK.2.2.1 hr hd ha hp
theorem y_vret (hK : StpY e cc own ret Cal Post K) {pc : Nat} {ls : Lc} {σ : Mm} (hr : ret = none) (hd : decode cc pc = .ok (.return_, 1)) (hp : Post none σ) : K pc ls [] σ := hK.2.2.2.1 hr hd hp
theorem y_aret (hK : StpY e cc own ret Cal Post K) {pc : Nat} {ls : Lc} {σ : Mm} {n : String} {q : Option (Nat × Int)} (hr : ret = some (.object n)) (hd : decode cc pc = .ok (.areturn, 1)) (hp : Post (some (Sum.inr (Sum.inl q))) σ) : K pc ls [Sum.inr (Sum.inl q)] σ := hK.2.2.2.2 hr hd hp
end ZROWS
