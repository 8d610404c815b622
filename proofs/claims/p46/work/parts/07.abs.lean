theorem xc_ {c k : Nat} {P : Prop} (h : c ≠ k) : ¬ (c = k ∧ P) := fun q => h q.1
theorem xs_ {P Q : Prop} {a b : Int} (h : a ≠ b) : ¬ (P ∧ Q ∧ a = b) := fun q => h q.2.2
theorem x31_ {P Q : Prop} {m a b : Int} (h : a ≠ b) : ¬ (P ∧ Q ∧ m + a = m + b) := fun q => h (by have := q.2.2; omega)
-- memory seen through what is tracked, with what always holds of it
def Tb (c : Nat) (j : Int) : Prop := match c with
  | 0 => True
  | 7 => j ≠ 11
  | 8 => True
  | 9 => True
  | 10 => True
  | 11 => True
  | 12 => True
  | 13 => True
  | 15 => True
  | 16 => True
  | 31 => j % 22 ≠ 7 ∧ (j % 22 = 21 → 88 ≤ j ∧ j < 154)
  | 32 => True
  | 33 => True
  | 34 => True
  | 35 => True
  | 36 => True
  | 39 => True
  | 40 => True
  | 41 => True
  | 42 => True
  | 43 => True
  | 44 => True
  | 45 => True
  | 46 => True
  | 47 => True
  | 48 => True
  | _ => False
/-- the lanes' rest, the fold's element, the row's length (and how many were ahead) -/
def DL (c : Nat) (j : Int) : Prop := match c with
  | 7 => j = 3 ∨ j = 4 ∨ j = 6
  | 31 => j % 22 = 2 ∨ j % 22 = 3 ∨ j % 22 = 5
  | _ => False
def DF (c : Nat) (j : Int) : Prop := match c with
  | 14 => j = 5
  | 17 => j = 0
  | _ => False
abbrev Ev : Type := Bool × Bool × Bool
/-- the fold's rest, the row's rest: tracked where the first part of e says so -/
def DX (e : Ev) (c : Nat) (j : Int) : Prop := match c with
  | 14 => e.1 = true ∧ (j = 4 ∨ j = 6 ∨ j = 7)
  | 17 => e.1 = true ∧ j ≠ 0
  | 18 => e.1 = true
  | 21 => e.1 = true
  | 22 => e.1 = true
  | _ => False
def DR (e : Ev) (c : Nat) (j : Int) : Prop := match c with
  | 30 => j = 8
  | 37 => True
  | 38 => e.1 = true
  | 49 => e.1 = true
  | 50 => e.1 = true
  | 51 => e.1 = true
  | 52 => e.1 = true
  | _ => False
/-- what is tracked: the ties of class and reference; and what e says -/
def Tk (e : Ev) (c : Nat) (j : Int) : Prop := Tb c j ∨ (e.1 = true ∧ DL c j) ∨ (e.2.1 = true ∧ (DF c j ∨ DX e c j)) ∨ (e.2.2 = true ∧ DR e c j)
/-- what may be written untold -/
def Un (e : Ev) (c : Nat) (j : Int) : Prop := ¬ Tb c j ∧ ¬ DL c j ∧ ¬ DF c j ∧ (e.2.2 = false ∨ ¬ DR e c j) ∧ (e.2.1 = false ∨ ¬ DX e c j)
/-- what may be written, told -/
def Tl (e : Ev) (c : Nat) (j : Int) : Prop := (e.1 = true ∨ ¬ DL c j) ∧ (e.2.1 = true ∨ ¬ DF c j)
/-- what a place may hold -/
def Okv (c : Nat) (j v : Int) : Prop := match c with
  | 7 => (j = 6 → 0 ≤ v ∧ v ≤ 121) ∧ (j = 1 → v = 0 ∨ v = 1) ∧ (j = 2 → 0 ≤ v ∧ v ≤ 9)
  | 14 => j = 5 → 0 ≤ v ∧ v ≤ 9
  | 9 => -1000 ≤ v ∧ v ≤ 1000
  | 33 => -1000 ≤ v ∧ v ≤ 1000
  | 15 => 0 ≤ v ∧ v ≤ 3
  | 35 => 0 ≤ v ∧ v ≤ 3
  | 22 => 0 ≤ v ∧ v ≤ 120
  | 52 => 0 ≤ v ∧ v ≤ 120
  | 40 => 0 ≤ v ∧ v ≤ 6
  | 47 => 0 ≤ v ∧ v ≤ 6
  | 45 => -1 ≤ v ∧ v ≤ 3
  | 30 => j = 8 → 0 ≤ v ∧ v ≤ 242
  | 31 => (j % 22 = 5 → 0 ≤ v ∧ v ≤ 121) ∧ (j % 22 = 0 → v = 0 ∨ v = 1)
  | _ => True
/-- a lane at rest -/
def Rst (b z h : Int) : Prop := 0 ≤ h ∧ ((b = 1 ∧ 1 ≤ z ∧ z ≤ 120 ∧ h ≤ z) ∨ (b ≠ 1 ∧ h ≤ 120))
def InL (τ : Mm) : Prop := (∀ i : Int, 0 ≤ i → i < 7 → Rst (τ 7 i 3) (τ 7 i 4) (τ 7 i 6)) ∧ (∀ l : Int, 0 ≤ l → l < 8 → Rst (τ 31 0 (22 * l + 2)) (τ 31 0 (22 * l + 3)) (τ 31 0 (22 * l + 5)))
def InT (_ : Mm) : Prop := True
theorem InT.to {τ τ2 : Mm} (_ : InT τ) (_ : ∀ (c : Nat) (i j : Int), DL c j → τ2 c i j = τ c i j) : InT τ2 := trivial
def InF (τ : Mm) : Prop := (τ 14 0 5 = 9 → 0 ≤ τ 17 0 0 ∧ τ 17 0 0 ≤ 3) ∧ (τ 14 0 5 = 1 → 0 ≤ τ 17 0 0)
theorem InL.to {τ τ2 : Mm} (h : InL τ) (he : ∀ (c : Nat) (i j : Int), DL c j → τ2 c i j = τ c i j) : InL τ2 := by
  refine ⟨fun i h0 h1 => ?_, fun l h0 h1 => ?_⟩
  · rw [he 7 i 3 (Or.inl rfl), he 7 i 4 (Or.inr (Or.inl rfl)), he 7 i 6 (Or.inr (Or.inr rfl))]
    exact h.1 i h0 h1
  · rw [he 31 0 (22 * l + 2) (by simp only [DL]; omega), he 31 0 (22 * l + 3) (by simp only [DL]; omega), he 31 0 (22 * l + 5) (by simp only [DL]; omega)]
    exact h.2 l h0 h1
theorem InF.to {τ τ2 : Mm} (h : InF τ) (he : ∀ (c : Nat) (i j : Int), DF c j → τ2 c i j = τ c i j) : InF τ2 := by
  unfold InF
  rw [he 14 0 5 rfl, he 17 0 0 rfl]
  exact h
def Ab (e : Ev) (σ τ : Mm) : Prop := (∀ (c : Nat) (i j : Int), Tk e c j → τ c i j = σ c i j) ∧ (∀ (c : Nat) (i j : Int), Okv c j (τ c i j)) ∧ (e.1 = false → InT τ) ∧ (e.2.1 = false → InF τ)
theorem ab_mu {e : Ev} {σ τ : Mm} {k : Nat} {i j a : Int} (h : Ab e σ τ) (ho : Okv k j a) (hd : Tl e k j) : Ab e (mu σ k i j a) (mu τ k i j a) := by
  refine ⟨fun c x y ht => ?_, fun c x y => ?_, fun he => (h.2.2.1 he).to fun c x y hD => mu_ne ?_, fun he => (h.2.2.2 he).to fun c x y hD => mu_ne ?_⟩
  · unfold mu
    split
    · rfl
    · exact h.1 c x y ht
  · unfold mu
    split
    · rename_i q
      obtain ⟨rfl, rfl, rfl⟩ := q
      exact ho
    · exact h.2.1 c x y
  · rintro ⟨rfl, rfl, rfl⟩
    rcases hd.1 with hd | hd
    · rw [he] at hd; cases hd
    · exact hd hD
  · rintro ⟨rfl, rfl, rfl⟩
    rcases hd.2 with hd | hd
    · rw [he] at hd; cases hd
    · exact hd hD
theorem ab_muX {e : Ev} {σ τ : Mm} {k : Nat} {i j a a2 : Int} (h : Ab e σ τ) (ho : Okv k j a) (hd : Tl e k j) (hx : Tk e k j → a = a2) : Ab e (mu σ k i j a2) (mu τ k i j a) := by
  have h2 := ab_mu (i := i) h ho hd
  refine ⟨fun c x y ht => ?_, h2.2⟩
  rw [h2.1 c x y ht]
  unfold mu
  split
  · rename_i q
    obtain ⟨rfl, rfl, rfl⟩ := q
    exact hx ht
  · rfl
theorem ab_muU {e : Ev} {σ τ : Mm} {k : Nat} {i j a : Int} (h : Ab e σ τ) (hu : Un e k j) (ho : Okv k j a) : Ab e σ (mu τ k i j a) := by
  have h2 := ab_mu (i := i) h ho ⟨Or.inr hu.2.1, Or.inr hu.2.2.1⟩
  refine ⟨fun c x y h3 => ?_, h2.2⟩
  rw [mu_ne]
  · exact h.1 c x y h3
  · rintro ⟨rfl, rfl, rfl⟩
    rcases h3 with h3 | h3 | h3 | h3
    · exact hu.1 h3
    · exact hu.2.1 h3.2
    · rcases h3.2 with q | q
      · exact hu.2.2.1 q
      · rcases hu.2.2.2.2 with z | z
        · rw [z] at h3; cases h3.1
        · exact z q
    · rcases hu.2.2.2.1 with q | q
      · rw [q] at h3; cases h3.1
      · exact q h3.2
theorem ab_cpy {e : Ev} {σ τ : Mm} {k0 k1 : Nat} {i0 i1 sp dp n : Int} (h : Ab e σ τ) (hf : ∀ j : Int, Un e k1 j ∧ ∀ j0 v : Int, Okv k0 j0 v → Okv k1 j v) : Ab e σ (cpy τ k0 i0 sp k1 i1 dp n) := by
  refine ⟨fun c x y ht => ?_, fun c x y => ?_, fun he => (h.2.2.1 he).to fun c x y hD => ?_, fun he => (h.2.2.2 he).to fun c x y hD => ?_⟩
  · unfold cpy
    split
    · rename_i q
      obtain ⟨rfl, -⟩ := q
      have hu := (hf y).1
      rcases ht with h3 | h3 | h3 | h3
      · exact absurd h3 hu.1
      · exact absurd h3.2 hu.2.1
      · rcases h3.2 with q | q
        · exact absurd q hu.2.2.1
        · rcases hu.2.2.2.2 with z | z
          · rw [z] at h3; cases h3.1
          · exact absurd q z
      · rcases hu.2.2.2.1 with q | q
        · rw [q] at h3; cases h3.1
        · exact absurd h3.2 q
    · exact h.1 c x y ht
  · unfold cpy
    split
    · rename_i q
      obtain ⟨rfl, -⟩ := q
      exact (hf _).2 _ _ (h.2.1 _ _ _)
    · exact h.2.1 c x y
  · unfold cpy
    split
    · rename_i q
      obtain ⟨rfl, -⟩ := q
      exact absurd hD (hf _).1.2.1
    · rfl
  · unfold cpy
    split
    · rename_i q
      obtain ⟨rfl, -⟩ := q
      exact absurd hD (hf _).1.2.2.1
    · rfl
theorem ab_cpyT {e : Ev} {σ τ : Mm} {k0 k1 : Nat} {i0 i1 sp dp n : Int} (h : Ab e σ τ) (hD : ∀ j : Int, ¬ DL k1 j ∧ ¬ DF k1 j) (ho : ∀ j0 j v : Int, Okv k0 j0 v → Okv k1 j v) (hx : ∀ x : Int, 0 ≤ x → x < n → Tk e k1 (dp + x) → Tk e k0 (sp + x)) : Ab e (cpy σ k0 i0 sp k1 i1 dp n) (cpy τ k0 i0 sp k1 i1 dp n) := by
  refine ⟨fun c x y ht => ?_, fun c x y => ?_, fun he => (h.2.2.1 he).to fun c x y hD2 => ?_, fun he => (h.2.2.2 he).to fun c x y hD2 => ?_⟩
  · unfold cpy
    split
    · rename_i q
      obtain ⟨rfl, -, q1, q2⟩ := q
      have q3 := hx (y - dp) (by omega) (by omega) (by rw [show dp + (y - dp) = y from by omega]; exact ht)
      exact h.1 _ _ _ q3
    · exact h.1 c x y ht
  · unfold cpy
    split
    · rename_i q
      obtain ⟨rfl, -⟩ := q
      exact ho _ _ _ (h.2.1 _ _ _)
    · exact h.2.1 c x y
  · unfold cpy
    split
    · rename_i q
      obtain ⟨rfl, -⟩ := q
      exact absurd hD2 (hD _).1
    · rfl
  · unfold cpy
    split
    · rename_i q
      obtain ⟨rfl, -⟩ := q
      exact absurd hD2 (hD _).2
    · rfl
/-- from a sight to a sharper one, and back -/
theorem ab_sharp {e e2 : Ev} {σ τ : Mm} (h : Ab e σ τ) (h1 : e2.1 = false → e.1 = false) (h2 : e2.2.1 = false → e.2.1 = false) : Ab e2 τ τ := ⟨fun _ _ _ _ => rfl, h.2.1, fun q => h.2.2.1 (h1 q), fun q => h.2.2.2 (h2 q)⟩
theorem ab_loose {e e2 : Ev} {σ ρ τ : Mm} (h : Ab e2 ρ τ) (hL : e.1 = false → e2.1 = false ∨ InT ρ) (hF : e.2.1 = false → e2.2.1 = false ∨ InF ρ) (hs : ∀ (c : Nat) (j : Int), Tk e c j → Tk e2 c j) (ht : ∀ (c : Nat) (i j : Int), Tk e c j → ρ c i j = σ c i j) : Ab e σ τ := by
  refine ⟨fun c i j q => (h.1 c i j (hs c j q)).trans (ht c i j q), h.2.1, fun q => ?_, fun q => ?_⟩
  · by_cases z : e2.1 = false
    · exact h.2.2.1 z
    · have z2 : e2.1 = true := by simpa using z
      rcases hL q with w | w
      · exact absurd w z
      · exact w.to fun c i j hD => h.1 c i j (Or.inr (Or.inl ⟨z2, hD⟩))
  · by_cases z : e2.2.1 = false
    · exact h.2.2.2 z
    · have z2 : e2.2.1 = true := by simpa using z
      rcases hF q with w | w
      · exact absurd w z
      · exact w.to fun c i j hD => h.1 c i j (Or.inr (Or.inr (Or.inl ⟨z2, Or.inl hD⟩)))
def KA (e : Ev) (K : Nat → Lc → List Vl → Mm → Prop) (pc : Nat) (ls : Lc) (st : List Vl) (σ : Mm) : Prop := ∀ τ : Mm, Ab e σ τ → K pc ls st τ
abbrev rgT : Mm → Prop := fun _ => True
section LIFT
variable {e : Ev} {cc : ByteArray} {own : String} {K : Nat → Lc → List Vl → Mm → Prop}
theorem ka_Q_iconst (h : Q_iconst (fun _ => vld) rgF cc own K) : Q_iconst (fun _ => vld) rgT cc own (KA e K) := by
  intro pc ls st μ n h0 h1 h2 τ hA
  exact h h0 h1 (h2 τ hA)
theorem ka_Q_bipush (h : Q_bipush (fun _ => vld) rgF cc own K) : Q_bipush (fun _ => vld) rgT cc own (KA e K) := by
  intro pc ls st μ n h0 h1 h2 τ hA
  exact h h0 h1 (h2 τ hA)
theorem ka_Q_sipush (h : Q_sipush (fun _ => vld) rgF cc own K) : Q_sipush (fun _ => vld) rgT cc own (KA e K) := by
  intro pc ls st μ n h0 h1 h2 τ hA
  exact h h0 h1 (h2 τ hA)
theorem ka_Q_ldc (h : Q_ldc (fun _ => vld) rgF cc own K) : Q_ldc (fun _ => vld) rgT cc own (KA e K) := by
  intro pc ls st μ x n h0 h1 h2 h3 τ hA
  exact h h0 h1 h2 (h3 τ hA)
theorem ka_Q_ldcw (h : Q_ldcw (fun _ => vld) rgF cc own K) : Q_ldcw (fun _ => vld) rgT cc own (KA e K) := by
  intro pc ls st μ x n h0 h1 h2 h3 τ hA
  exact h h0 h1 h2 (h3 τ hA)
theorem ka_Q_iload_n (h : Q_iload_n (fun _ => vld) rgF cc own K) : Q_iload_n (fun _ => vld) rgT cc own (KA e K) := by
  intro pc ls st μ x a h0 h1 h2 τ hA
  exact h h0 h1 (h2 τ hA)
theorem ka_Q_iload (h : Q_iload (fun _ => vld) rgF cc own K) : Q_iload (fun _ => vld) rgT cc own (KA e K) := by
  intro pc ls st μ x a h0 h1 h2 τ hA
  exact h h0 h1 (h2 τ hA)
theorem ka_Q_lload_n (h : Q_lload_n (fun _ => vld) rgF cc own K) : Q_lload_n (fun _ => vld) rgT cc own (KA e K) := by
  intro pc ls st μ x a h0 h1 h2 τ hA
  exact h h0 h1 (h2 τ hA)
theorem ka_Q_aload_n (h : Q_aload_n (fun _ => vld) rgF cc own K) : Q_aload_n (fun _ => vld) rgT cc own (KA e K) := by
  intro pc ls st μ x q h0 h1 h2 τ hA
  exact h h0 h1 (h2 τ hA)
theorem ka_Q_aload (h : Q_aload (fun _ => vld) rgF cc own K) : Q_aload (fun _ => vld) rgT cc own (KA e K) := by
  intro pc ls st μ x q h0 h1 h2 τ hA
  exact h h0 h1 (h2 τ hA)
theorem ka_Q_aloadN_n (h : Q_aloadN_n (fun _ => vld) rgF cc own K) : Q_aloadN_n (fun _ => vld) rgT cc own (KA e K) := by
  intro pc ls st μ x h0 h1 h2 τ hA
  exact h h0 h1 (h2 τ hA)
theorem ka_Q_aloadN (h : Q_aloadN (fun _ => vld) rgF cc own K) : Q_aloadN (fun _ => vld) rgT cc own (KA e K) := by
  intro pc ls st μ x h0 h1 h2 τ hA
  exact h h0 h1 (h2 τ hA)
theorem ka_Q_istore_n (h : Q_istore_n (fun _ => vld) rgF cc own K) : Q_istore_n (fun _ => vld) rgT cc own (KA e K) := by
  intro pc ls st μ x a h0 h1 h2 τ hA
  exact h h0 h1 (h2 τ hA)
theorem ka_Q_istore (h : Q_istore (fun _ => vld) rgF cc own K) : Q_istore (fun _ => vld) rgT cc own (KA e K) := by
  intro pc ls st μ x a h0 h1 h2 τ hA
  exact h h0 h1 (h2 τ hA)
theorem ka_Q_astore_n (h : Q_astore_n (fun _ => vld) rgF cc own K) : Q_astore_n (fun _ => vld) rgT cc own (KA e K) := by
  intro pc ls st μ x q h0 h1 h2 τ hA
  exact h h0 h1 (h2 τ hA)
theorem ka_Q_astore (h : Q_astore (fun _ => vld) rgF cc own K) : Q_astore (fun _ => vld) rgT cc own (KA e K) := by
  intro pc ls st μ x q h0 h1 h2 τ hA
  exact h h0 h1 (h2 τ hA)
theorem ka_Q_astoreN_n (h : Q_astoreN_n (fun _ => vld) rgF cc own K) : Q_astoreN_n (fun _ => vld) rgT cc own (KA e K) := by
  intro pc ls st μ x h0 h1 h2 τ hA
  exact h h0 h1 (h2 τ hA)
theorem ka_Q_astoreN (h : Q_astoreN (fun _ => vld) rgF cc own K) : Q_astoreN (fun _ => vld) rgT cc own (KA e K) := by
  intro pc ls st μ x h0 h1 h2 τ hA
  exact h h0 h1 (h2 τ hA)
theorem ka_Q_iinc (h : Q_iinc (fun _ => vld) rgF cc own K) : Q_iinc (fun _ => vld) rgT cc own (KA e K) := by
  intro pc ls st μ x n a h0 h1 h2 h3 τ hA
  exact h h0 h1 h2 (h3 τ hA)
theorem ka_Q_iadd (h : Q_iadd (fun _ => vld) rgF cc own K) : Q_iadd (fun _ => vld) rgT cc own (KA e K) := by
  intro pc ls st μ a b h0 h1 τ hA
  exact h h0 (h1 τ hA)
theorem ka_Q_isub (h : Q_isub (fun _ => vld) rgF cc own K) : Q_isub (fun _ => vld) rgT cc own (KA e K) := by
  intro pc ls st μ a b h0 h1 τ hA
  exact h h0 (h1 τ hA)
theorem ka_Q_imul (h : Q_imul (fun _ => vld) rgF cc own K) : Q_imul (fun _ => vld) rgT cc own (KA e K) := by
  intro pc ls st μ a b h0 h1 τ hA
  exact h h0 (h1 τ hA)
theorem ka_Q_iand (h : Q_iand (fun _ => vld) rgF cc own K) : Q_iand (fun _ => vld) rgT cc own (KA e K) := by
  intro pc ls st μ a b h0 h1 τ hA
  exact h h0 (h1 τ hA)
theorem ka_Q_ior (h : Q_ior (fun _ => vld) rgF cc own K) : Q_ior (fun _ => vld) rgT cc own (KA e K) := by
  intro pc ls st μ a b h0 h1 τ hA
  exact h h0 (h1 τ hA)
theorem ka_Q_ixor (h : Q_ixor (fun _ => vld) rgF cc own K) : Q_ixor (fun _ => vld) rgT cc own (KA e K) := by
  intro pc ls st μ a b h0 h1 τ hA
  exact h h0 (h1 τ hA)
theorem ka_Q_ishl (h : Q_ishl (fun _ => vld) rgF cc own K) : Q_ishl (fun _ => vld) rgT cc own (KA e K) := by
  intro pc ls st μ a b h0 h1 τ hA
  exact h h0 (h1 τ hA)
theorem ka_Q_ishr (h : Q_ishr (fun _ => vld) rgF cc own K) : Q_ishr (fun _ => vld) rgT cc own (KA e K) := by
  intro pc ls st μ a b h0 h1 τ hA
  exact h h0 (h1 τ hA)
theorem ka_Q_iushr (h : Q_iushr (fun _ => vld) rgF cc own K) : Q_iushr (fun _ => vld) rgT cc own (KA e K) := by
  intro pc ls st μ a b h0 h1 τ hA
  exact h h0 (h1 τ hA)
theorem ka_Q_idiv (h : Q_idiv (fun _ => vld) rgF cc own K) : Q_idiv (fun _ => vld) rgT cc own (KA e K) := by
  intro pc ls st μ a b h0 h1 h2 τ hA
  exact h h0 h1 (h2 τ hA)
theorem ka_Q_irem (h : Q_irem (fun _ => vld) rgF cc own K) : Q_irem (fun _ => vld) rgT cc own (KA e K) := by
  intro pc ls st μ a b h0 h1 h2 τ hA
  exact h h0 h1 (h2 τ hA)
theorem ka_Q_ineg (h : Q_ineg (fun _ => vld) rgF cc own K) : Q_ineg (fun _ => vld) rgT cc own (KA e K) := by
  intro pc ls st μ a h0 h1 τ hA
  exact h h0 (h1 τ hA)
theorem ka_Q_i2l (h : Q_i2l (fun _ => vld) rgF cc own K) : Q_i2l (fun _ => vld) rgT cc own (KA e K) := by
  intro pc ls st μ a h0 h1 τ hA
  exact h h0 (h1 τ hA)
theorem ka_Q_lconst (h : Q_lconst (fun _ => vld) rgF cc own K) : Q_lconst (fun _ => vld) rgT cc own (KA e K) := by
  intro pc ls st μ n a h0 h1 h2 τ hA
  exact h h0 h1 (h2 τ hA)
theorem ka_Q_lsub (h : Q_lsub (fun _ => vld) rgF cc own K) : Q_lsub (fun _ => vld) rgT cc own (KA e K) := by
  intro pc ls st μ a b h0 h1 τ hA
  exact h h0 (h1 τ hA)
theorem ka_Q_lcmp (h : Q_lcmp (fun _ => vld) rgF cc own K) : Q_lcmp (fun _ => vld) rgT cc own (KA e K) := by
  intro pc ls st μ a b h0 h1 τ hA
  exact h h0 (h1 τ hA)
theorem ka_Q_dup (h : Q_dup (fun _ => vld) rgF cc own K) : Q_dup (fun _ => vld) rgT cc own (KA e K) := by
  intro pc ls st μ v h0 h1 h2 τ hA
  exact h h0 h1 (h2 τ hA)
theorem ka_Q_dup2 (h : Q_dup2 (fun _ => vld) rgF cc own K) : Q_dup2 (fun _ => vld) rgT cc own (KA e K) := by
  intro pc ls st μ v u h0 h1 h2 h3 τ hA
  exact h h0 h1 h2 (h3 τ hA)
theorem ka_Q_pop (h : Q_pop (fun _ => vld) rgF cc own K) : Q_pop (fun _ => vld) rgT cc own (KA e K) := by
  intro pc ls st μ v h0 h1 h2 τ hA
  exact h h0 h1 (h2 τ hA)
theorem ka_Q_goto (h : Q_goto (fun _ => vld) rgF cc own K) : Q_goto (fun _ => vld) rgT cc own (KA e K) := by
  intro pc ls st μ off tgt h0 h1 h2 τ hA
  exact h h0 h1 (h2 τ hA)
theorem ka_Q_null (h : Q_null (fun _ => vld) rgF cc own K) : Q_null (fun _ => vld) rgT cc own (KA e K) := by
  intro pc ls st μ h0 h1 τ hA
  exact h h0 (h1 τ hA)
theorem ka_Q_if_eq (h : Q_if_eq (fun _ => vld) rgF cc own K) : Q_if_eq (fun _ => vld) rgT cc own (KA e K) := by
  intro pc ls st μ a off tgt h0 h1 h2 h3 τ hA
  exact h h0 h1 (fun g => h2 g τ hA) (fun g => h3 g τ hA)
theorem ka_Q_icmp_eq (h : Q_icmp_eq (fun _ => vld) rgF cc own K) : Q_icmp_eq (fun _ => vld) rgT cc own (KA e K) := by
  intro pc ls st μ a b off tgt h0 h1 h2 h3 τ hA
  exact h h0 h1 (fun g => h2 g τ hA) (fun g => h3 g τ hA)
theorem ka_Q_if_ne (h : Q_if_ne (fun _ => vld) rgF cc own K) : Q_if_ne (fun _ => vld) rgT cc own (KA e K) := by
  intro pc ls st μ a off tgt h0 h1 h2 h3 τ hA
  exact h h0 h1 (fun g => h2 g τ hA) (fun g => h3 g τ hA)
theorem ka_Q_icmp_ne (h : Q_icmp_ne (fun _ => vld) rgF cc own K) : Q_icmp_ne (fun _ => vld) rgT cc own (KA e K) := by
  intro pc ls st μ a b off tgt h0 h1 h2 h3 τ hA
  exact h h0 h1 (fun g => h2 g τ hA) (fun g => h3 g τ hA)
theorem ka_Q_if_lt (h : Q_if_lt (fun _ => vld) rgF cc own K) : Q_if_lt (fun _ => vld) rgT cc own (KA e K) := by
  intro pc ls st μ a off tgt h0 h1 h2 h3 τ hA
  exact h h0 h1 (fun g => h2 g τ hA) (fun g => h3 g τ hA)
theorem ka_Q_icmp_lt (h : Q_icmp_lt (fun _ => vld) rgF cc own K) : Q_icmp_lt (fun _ => vld) rgT cc own (KA e K) := by
  intro pc ls st μ a b off tgt h0 h1 h2 h3 τ hA
  exact h h0 h1 (fun g => h2 g τ hA) (fun g => h3 g τ hA)
theorem ka_Q_if_ge (h : Q_if_ge (fun _ => vld) rgF cc own K) : Q_if_ge (fun _ => vld) rgT cc own (KA e K) := by
  intro pc ls st μ a off tgt h0 h1 h2 h3 τ hA
  exact h h0 h1 (fun g => h2 g τ hA) (fun g => h3 g τ hA)
theorem ka_Q_icmp_ge (h : Q_icmp_ge (fun _ => vld) rgF cc own K) : Q_icmp_ge (fun _ => vld) rgT cc own (KA e K) := by
  intro pc ls st μ a b off tgt h0 h1 h2 h3 τ hA
  exact h h0 h1 (fun g => h2 g τ hA) (fun g => h3 g τ hA)
theorem ka_Q_if_gt (h : Q_if_gt (fun _ => vld) rgF cc own K) : Q_if_gt (fun _ => vld) rgT cc own (KA e K) := by
  intro pc ls st μ a off tgt h0 h1 h2 h3 τ hA
  exact h h0 h1 (fun g => h2 g τ hA) (fun g => h3 g τ hA)
theorem ka_Q_icmp_gt (h : Q_icmp_gt (fun _ => vld) rgF cc own K) : Q_icmp_gt (fun _ => vld) rgT cc own (KA e K) := by
  intro pc ls st μ a b off tgt h0 h1 h2 h3 τ hA
  exact h h0 h1 (fun g => h2 g τ hA) (fun g => h3 g τ hA)
theorem ka_Q_if_le (h : Q_if_le (fun _ => vld) rgF cc own K) : Q_if_le (fun _ => vld) rgT cc own (KA e K) := by
  intro pc ls st μ a off tgt h0 h1 h2 h3 τ hA
  exact h h0 h1 (fun g => h2 g τ hA) (fun g => h3 g τ hA)
theorem ka_Q_icmp_le (h : Q_icmp_le (fun _ => vld) rgF cc own K) : Q_icmp_le (fun _ => vld) rgT cc own (KA e K) := by
  intro pc ls st μ a b off tgt h0 h1 h2 h3 τ hA
  exact h h0 h1 (fun g => h2 g τ hA) (fun g => h3 g τ hA)
theorem ka_Q_ifnullN (h : Q_ifnullN (fun _ => vld) rgF cc own K) : Q_ifnullN (fun _ => vld) rgT cc own (KA e K) := by
  intro pc ls st μ off tgt h0 h1 h2 τ hA
  exact h h0 h1 (h2 τ hA)
theorem ka_Q_ifnullR (h : Q_ifnullR (fun _ => vld) rgF cc own K) : Q_ifnullR (fun _ => vld) rgT cc own (KA e K) := by
  intro pc ls st μ off q h0 h1 τ hA
  exact h h0 (h1 τ hA)
theorem ka_Q_ifnonnullN (h : Q_ifnonnullN (fun _ => vld) rgF cc own K) : Q_ifnonnullN (fun _ => vld) rgT cc own (KA e K) := by
  intro pc ls st μ off h0 h1 τ hA
  exact h h0 (h1 τ hA)
theorem ka_Q_ifnonnullR (h : Q_ifnonnullR (fun _ => vld) rgF cc own K) : Q_ifnonnullR (fun _ => vld) rgT cc own (KA e K) := by
  intro pc ls st μ off tgt q h0 h1 h2 τ hA
  exact h h0 h1 (h2 τ hA)
theorem ka_Q_tableOut (h : Q_tableOut (fun _ => vld) rgF cc own K) : Q_tableOut (fun _ => vld) rgT cc own (KA e K) := by
  intro pc ls st μ a dflt lo hi offs len tgt h0 h1 h2 h3 τ hA
  exact h h0 h1 h2 (h3 τ hA)
theorem ka_Q_tableIn (h : Q_tableIn (fun _ => vld) rgF cc own K) : Q_tableIn (fun _ => vld) rgT cc own (KA e K) := by
  intro pc ls st μ a dflt lo hi off offs len tgt h0 h1 h2 h3 h4 h5 τ hA
  exact h h0 h1 h2 h3 h4 (h5 τ hA)
theorem ka_Q_forget (h : Q_forget (fun _ => vld) rgF cc own K) : Q_forget (fun _ => vld) rgT cc own (KA e K) := by
  intro pc ls st μ ls2 h0 h1 τ hA
  exact h h0 (h1 τ hA)
theorem ka_Q_rng (h : Q_rng (fun _ => vld) rgF cc own K) : Q_rng (fun _ => vld) rgT cc own (KA e K) := by
  intro pc ls st μ h0 τ hA
  exact h (fun _ g => h0 trivial g τ hA)
theorem ka_C (h : StpC (fun _ => vld) rgF cc own K) : StpC (fun _ => vld) rgT cc own (KA e K) := by
  obtain ⟨q0, q1, q2, q3, q4, q5, q6, q7, q8, q9, q10, q11, q12, q13, q14, q15, q16, q17, q18, q19, q20, q21, q22, q23, q24, q25, q26, q27, q28, q29, q30, q31, q32, q33, q34, q35, q36, q37, q38, q39, q40, q41, q42, q43, q44, q45, q46, q47, q48, q49, q50, q51, q52, q53, q54, q55, q56, q57, q58, q59⟩ := h
  exact ⟨ka_Q_iconst (cc := cc) (own := own) (K := K) q0, ka_Q_bipush (cc := cc) (own := own) (K := K) q1, ka_Q_sipush (cc := cc) (own := own) (K := K) q2, ka_Q_ldc (cc := cc) (own := own) (K := K) q3, ka_Q_ldcw (cc := cc) (own := own) (K := K) q4, ka_Q_iload_n (cc := cc) (own := own) (K := K) q5, ka_Q_iload (cc := cc) (own := own) (K := K) q6, ka_Q_lload_n (cc := cc) (own := own) (K := K) q7, ka_Q_aload_n (cc := cc) (own := own) (K := K) q8, ka_Q_aload (cc := cc) (own := own) (K := K) q9, ka_Q_aloadN_n (cc := cc) (own := own) (K := K) q10, ka_Q_aloadN (cc := cc) (own := own) (K := K) q11, ka_Q_istore_n (cc := cc) (own := own) (K := K) q12, ka_Q_istore (cc := cc) (own := own) (K := K) q13, ka_Q_astore_n (cc := cc) (own := own) (K := K) q14, ka_Q_astore (cc := cc) (own := own) (K := K) q15, ka_Q_astoreN_n (cc := cc) (own := own) (K := K) q16, ka_Q_astoreN (cc := cc) (own := own) (K := K) q17, ka_Q_iinc (cc := cc) (own := own) (K := K) q18, ka_Q_iadd (cc := cc) (own := own) (K := K) q19, ka_Q_isub (cc := cc) (own := own) (K := K) q20, ka_Q_imul (cc := cc) (own := own) (K := K) q21, ka_Q_iand (cc := cc) (own := own) (K := K) q22, ka_Q_ior (cc := cc) (own := own) (K := K) q23, ka_Q_ixor (cc := cc) (own := own) (K := K) q24, ka_Q_ishl (cc := cc) (own := own) (K := K) q25, ka_Q_ishr (cc := cc) (own := own) (K := K) q26, ka_Q_iushr (cc := cc) (own := own) (K := K) q27, ka_Q_idiv (cc := cc) (own := own) (K := K) q28, ka_Q_irem (cc := cc) (own := own) (K := K) q29, ka_Q_ineg (cc := cc) (own := own) (K := K) q30, ka_Q_i2l (cc := cc) (own := own) (K := K) q31, ka_Q_lconst (cc := cc) (own := own) (K := K) q32, ka_Q_lsub (cc := cc) (own := own) (K := K) q33, ka_Q_lcmp (cc := cc) (own := own) (K := K) q34, ka_Q_dup (cc := cc) (own := own) (K := K) q35, ka_Q_dup2 (cc := cc) (own := own) (K := K) q36, ka_Q_pop (cc := cc) (own := own) (K := K) q37, ka_Q_goto (cc := cc) (own := own) (K := K) q38, ka_Q_null (cc := cc) (own := own) (K := K) q39, ka_Q_if_eq (cc := cc) (own := own) (K := K) q40, ka_Q_icmp_eq (cc := cc) (own := own) (K := K) q41, ka_Q_if_ne (cc := cc) (own := own) (K := K) q42, ka_Q_icmp_ne (cc := cc) (own := own) (K := K) q43, ka_Q_if_lt (cc := cc) (own := own) (K := K) q44, ka_Q_icmp_lt (cc := cc) (own := own) (K := K) q45, ka_Q_if_ge (cc := cc) (own := own) (K := K) q46, ka_Q_icmp_ge (cc := cc) (own := own) (K := K) q47, ka_Q_if_gt (cc := cc) (own := own) (K := K) q48, ka_Q_icmp_gt (cc := cc) (own := own) (K := K) q49, ka_Q_if_le (cc := cc) (own := own) (K := K) q50, ka_Q_icmp_le (cc := cc) (own := own) (K := K) q51, ka_Q_ifnullN (cc := cc) (own := own) (K := K) q52, ka_Q_ifnullR (cc := cc) (own := own) (K := K) q53, ka_Q_ifnonnullN (cc := cc) (own := own) (K := K) q54, ka_Q_ifnonnullR (cc := cc) (own := own) (K := K) q55, ka_Q_tableOut (cc := cc) (own := own) (K := K) q56, ka_Q_tableIn (cc := cc) (own := own) (K := K) q57, ka_Q_forget (cc := cc) (own := own) (K := K) q58, ka_Q_rng (cc := cc) (own := own) (K := K) q59⟩
end LIFT
def Z_ok (e : Ev) (cc : ByteArray) (own : String) (Cal : Nat → List Vl → Mm → (Option Vl → Mm → Prop) → Prop) (K : Nat → Lc → List Vl → Mm → Prop) : Prop := ∀ {pc : Nat} {ls : Lc} {st : List Vl} {σ : Mm}, ((∀ (c : Nat) (i j : Int), Tk e c j → Okv c j (σ c i j)) → K pc ls st σ) → K pc ls st σ
def Z_getI (e : Ev) (cc : ByteArray) (own : String) (Cal : Nat → List Vl → Mm → (Option Vl → Mm → Prop) → Prop) (K : Nat → Lc → List Vl → Mm → Prop) : Prop := ∀ {pc : Nat} {ls : Lc} {st : List Vl} {σ : Mm} {k : Nat} {i jz : Int} {idx ci j : Nat} {ty : FieldType}, (decode cc pc = .ok (.getfield idx, 3)) → (FLk own idx ci j ty) → (kd k = (0, ci)) → (rff k i j = none) → ((j : Int) = jz) → (∀ v : Int, (-2147483648 ≤ v ∧ v < 2147483648) → Okv k jz v → (Tk e k jz → v = σ k i jz) → K (pc + 3) ls (vI v :: st) σ) → K pc ls (vR k i :: st) σ
def Z_getR (e : Ev) (cc : ByteArray) (own : String) (Cal : Nat → List Vl → Mm → (Option Vl → Mm → Prop) → Prop) (K : Nat → Lc → List Vl → Mm → Prop) : Prop := ∀ {pc : Nat} {ls : Lc} {st : List Vl} {σ : Mm} {k : Nat} {i : Int} {idx ci j : Nat} {ty : FieldType} {q : Nat × Int}, (decode cc pc = .ok (.getfield idx, 3)) → (FLk own idx ci j ty) → (kd k = (0, ci)) → (rff k i j = some q) → (vld q) → (K (pc + 3) ls (Sum.inr (Sum.inl (some q)) :: st) σ) → K pc ls (vR k i :: st) σ
def Z_putIU (e : Ev) (cc : ByteArray) (own : String) (Cal : Nat → List Vl → Mm → (Option Vl → Mm → Prop) → Prop) (K : Nat → Lc → List Vl → Mm → Prop) : Prop := ∀ {pc : Nat} {ls : Lc} {st : List Vl} {σ : Mm} {k : Nat} {i a jz : Int} {idx ci j : Nat}, (decode cc pc = .ok (.putfield idx, 3)) → (FLw own idx ci j .int) → (kd k = (0, ci)) → (rff k i j = none) → ((j : Int) = jz) → (Un e k jz) → (Okv k jz a) → (K (pc + 3) ls st σ) → K pc ls (vI a :: vR k i :: st) σ
def Z_putIT (e : Ev) (cc : ByteArray) (own : String) (Cal : Nat → List Vl → Mm → (Option Vl → Mm → Prop) → Prop) (K : Nat → Lc → List Vl → Mm → Prop) : Prop := ∀ {pc : Nat} {ls : Lc} {st : List Vl} {σ : Mm} {k : Nat} {i a jz : Int} {idx ci j : Nat}, (decode cc pc = .ok (.putfield idx, 3)) → (FLw own idx ci j .int) → (kd k = (0, ci)) → (rff k i j = none) → ((j : Int) = jz) → (Tl e k jz) → (Okv k jz a) → (K (pc + 3) ls st (mu σ k i jz a)) → K pc ls (vI a :: vR k i :: st) σ
def Z_putZU (e : Ev) (cc : ByteArray) (own : String) (Cal : Nat → List Vl → Mm → (Option Vl → Mm → Prop) → Prop) (K : Nat → Lc → List Vl → Mm → Prop) : Prop := ∀ {pc : Nat} {ls : Lc} {st : List Vl} {σ : Mm} {k : Nat} {i a jz : Int} {idx ci j : Nat}, (decode cc pc = .ok (.putfield idx, 3)) → (FLw own idx ci j .boolean) → (kd k = (0, ci)) → (rff k i j = none) → ((j : Int) = jz) → (a = 0 ∨ a = 1) → (Un e k jz) → (Okv k jz a) → (K (pc + 3) ls st σ) → K pc ls (vI a :: vR k i :: st) σ
def Z_putZT (e : Ev) (cc : ByteArray) (own : String) (Cal : Nat → List Vl → Mm → (Option Vl → Mm → Prop) → Prop) (K : Nat → Lc → List Vl → Mm → Prop) : Prop := ∀ {pc : Nat} {ls : Lc} {st : List Vl} {σ : Mm} {k : Nat} {i a jz : Int} {idx ci j : Nat}, (decode cc pc = .ok (.putfield idx, 3)) → (FLw own idx ci j .boolean) → (kd k = (0, ci)) → (rff k i j = none) → ((j : Int) = jz) → (a = 0 ∨ a = 1) → (Tl e k jz) → (Okv k jz a) → (K (pc + 3) ls st (mu σ k i jz a)) → K pc ls (vI a :: vR k i :: st) σ
def Z_iald (e : Ev) (cc : ByteArray) (own : String) (Cal : Nat → List Vl → Mm → (Option Vl → Mm → Prop) → Prop) (K : Nat → Lc → List Vl → Mm → Prop) : Prop := ∀ {pc : Nat} {ls : Lc} {st : List Vl} {σ : Mm} {k : Nat} {i j : Int} {n : Nat}, (decode cc pc = .ok (.iaload, 1)) → (kd k = (1, n)) → (0 ≤ j) → (j < (n : Int)) → (∀ v : Int, (-2147483648 ≤ v ∧ v < 2147483648) → Okv k j v → (Tk e k j → v = σ k i j) → K (pc + 1) ls (vI v :: st) σ) → K pc ls (vI j :: vR k i :: st) σ
def Z_iastU (e : Ev) (cc : ByteArray) (own : String) (Cal : Nat → List Vl → Mm → (Option Vl → Mm → Prop) → Prop) (K : Nat → Lc → List Vl → Mm → Prop) : Prop := ∀ {pc : Nat} {ls : Lc} {st : List Vl} {σ : Mm} {k : Nat} {i j a : Int} {n : Nat}, (decode cc pc = .ok (.iastore, 1)) → (kd k = (1, n)) → (0 ≤ j) → (j < (n : Int)) → (Un e k j) → (Okv k j a) → (K (pc + 1) ls st σ) → K pc ls (vI a :: vI j :: vR k i :: st) σ
def Z_iastT (e : Ev) (cc : ByteArray) (own : String) (Cal : Nat → List Vl → Mm → (Option Vl → Mm → Prop) → Prop) (K : Nat → Lc → List Vl → Mm → Prop) : Prop := ∀ {pc : Nat} {ls : Lc} {st : List Vl} {σ : Mm} {k : Nat} {i j a : Int} {n : Nat}, (decode cc pc = .ok (.iastore, 1)) → (kd k = (1, n)) → (0 ≤ j) → (j < (n : Int)) → (Tl e k j) → (Okv k j a) → (K (pc + 1) ls st (mu σ k i j a)) → K pc ls (vI a :: vI j :: vR k i :: st) σ
def Z_iastX (e : Ev) (cc : ByteArray) (own : String) (Cal : Nat → List Vl → Mm → (Option Vl → Mm → Prop) → Prop) (K : Nat → Lc → List Vl → Mm → Prop) : Prop := ∀ {pc : Nat} {ls : Lc} {st : List Vl} {σ : Mm} {k : Nat} {i j a a2 : Int} {n : Nat}, (decode cc pc = .ok (.iastore, 1)) → (kd k = (1, n)) → (0 ≤ j) → (j < (n : Int)) → (Tl e k j) → (Okv k j a) → (Tk e k j → a = a2) → (K (pc + 1) ls st (mu σ k i j a2)) → K pc ls (vI a :: vI j :: vR k i :: st) σ
def Z_aald (e : Ev) (cc : ByteArray) (own : String) (Cal : Nat → List Vl → Mm → (Option Vl → Mm → Prop) → Prop) (K : Nat → Lc → List Vl → Mm → Prop) : Prop := ∀ {pc : Nat} {ls : Lc} {st : List Vl} {σ : Mm} {k : Nat} {i j : Int} {t n : Nat}, (decode cc pc = .ok (.aaload, 1)) → (kd k = (t + 2, n)) → (t < 4) → (0 ≤ j) → (j < (n : Int)) → (vld (rfa k j)) → (K (pc + 1) ls (Sum.inr (Sum.inl (some (rfa k j))) :: st) σ) → K pc ls (vI j :: vR k i :: st) σ
def Z_alen (e : Ev) (cc : ByteArray) (own : String) (Cal : Nat → List Vl → Mm → (Option Vl → Mm → Prop) → Prop) (K : Nat → Lc → List Vl → Mm → Prop) : Prop := ∀ {pc : Nat} {ls : Lc} {st : List Vl} {σ : Mm} {k : Nat} {i nz : Int} {n : Nat}, (decode cc pc = .ok (.arraylength, 1)) → (kd k = (1, n)) → ((n : Int) = nz) → (n < 2147483648) → (K (pc + 1) ls (vI nz :: st) σ) → K pc ls (vR k i :: st) σ
def Z_sald (e : Ev) (cc : ByteArray) (own : String) (Cal : Nat → List Vl → Mm → (Option Vl → Mm → Prop) → Prop) (K : Nat → Lc → List Vl → Mm → Prop) : Prop := ∀ {pc : Nat} {ls : Lc} {st : List Vl} {σ : Mm} {j : Int}, (decode cc pc = .ok (.iaload, 1)) → (0 ≤ j) → (j < σ 0 0 (-1)) → (K (pc + 1) ls (vI (σ 0 0 j) :: st) σ) → K pc ls (vI j :: vR 0 0 :: st) σ
def Z_slen (e : Ev) (cc : ByteArray) (own : String) (Cal : Nat → List Vl → Mm → (Option Vl → Mm → Prop) → Prop) (K : Nat → Lc → List Vl → Mm → Prop) : Prop := ∀ {pc : Nat} {ls : Lc} {st : List Vl} {σ : Mm}, (decode cc pc = .ok (.arraylength, 1)) → (K (pc + 1) ls (vI (σ 0 0 (-1)) :: st) σ) → K pc ls (vR 0 0 :: st) σ
def Z_nums (e : Ev) (cc : ByteArray) (own : String) (Cal : Nat → List Vl → Mm → (Option Vl → Mm → Prop) → Prop) (K : Nat → Lc → List Vl → Mm → Prop) : Prop := ∀ {pc : Nat} {ls : Lc} {st : List Vl} {σ : Mm} {idx : Nat}, (decode cc pc = .ok (.getstatic idx, 3)) → (SLk own idx) → (K (pc + 3) ls (vR 1 0 :: st) σ) → K pc ls st σ
def Z_nald (e : Ev) (cc : ByteArray) (own : String) (Cal : Nat → List Vl → Mm → (Option Vl → Mm → Prop) → Prop) (K : Nat → Lc → List Vl → Mm → Prop) : Prop := ∀ {pc : Nat} {ls : Lc} {st : List Vl} {σ : Mm} {j : Int}, (decode cc pc = .ok (.iaload, 1)) → (0 ≤ j) → (j < 10) → (K (pc + 1) ls (vI (numF j) :: st) σ) → K pc ls (vI j :: vR 1 0 :: st) σ
def Z_copyU (e : Ev) (cc : ByteArray) (own : String) (Cal : Nat → List Vl → Mm → (Option Vl → Mm → Prop) → Prop) (K : Nat → Lc → List Vl → Mm → Prop) : Prop := ∀ {pc : Nat} {ls : Lc} {st : List Vl} {σ : Mm} {k0 k1 : Nat} {i0 i1 sp dp n : Int} {n0 n1 idx : Nat}, (decode cc pc = .ok (.invokestatic idx, 3)) → (Cond.methodLink own idx arraycopyName ∈ gT ∧ Cond.native arraycopyName ∈ gT ∧ Cond.static arraycopyName ∈ gT ∧ Cond.initialized "java/lang/System" ∈ gT) → (kd k0 = (1, n0)) → (kd k1 = (1, n1)) → (0 ≤ sp) → (0 ≤ dp) → (0 ≤ n) → (sp + n ≤ (n0 : Int)) → (dp + n ≤ (n1 : Int)) → (csum st ≤ 8) → (∀ j : Int, Un e k1 j ∧ ∀ j0 v : Int, Okv k0 j0 v → Okv k1 j v) → (K (pc + 3) ls st σ) → K pc ls (vI n :: vI dp :: vR k1 i1 :: vI sp :: vR k0 i0 :: st) σ
def Z_copyT (e : Ev) (cc : ByteArray) (own : String) (Cal : Nat → List Vl → Mm → (Option Vl → Mm → Prop) → Prop) (K : Nat → Lc → List Vl → Mm → Prop) : Prop := ∀ {pc : Nat} {ls : Lc} {st : List Vl} {σ : Mm} {k0 k1 : Nat} {i0 i1 sp dp n : Int} {n0 n1 idx : Nat}, (decode cc pc = .ok (.invokestatic idx, 3)) → (Cond.methodLink own idx arraycopyName ∈ gT ∧ Cond.native arraycopyName ∈ gT ∧ Cond.static arraycopyName ∈ gT ∧ Cond.initialized "java/lang/System" ∈ gT) → (kd k0 = (1, n0)) → (kd k1 = (1, n1)) → (0 ≤ sp) → (0 ≤ dp) → (0 ≤ n) → (sp + n ≤ (n0 : Int)) → (dp + n ≤ (n1 : Int)) → (csum st ≤ 8) → (∀ j : Int, ¬ DL k1 j ∧ ¬ DF k1 j) → (∀ j0 j v : Int, Okv k0 j0 v → Okv k1 j v) → (∀ x : Int, 0 ≤ x → x < n → Tk e k1 (dp + x) → Tk e k0 (sp + x)) → (K (pc + 3) ls st (cpy σ k0 i0 sp k1 i1 dp n)) → K pc ls (vI n :: vI dp :: vR k1 i1 :: vI sp :: vR k0 i0 :: st) σ
def Z_inv (e : Ev) (cc : ByteArray) (own : String) (Cal : Nat → List Vl → Mm → (Option Vl → Mm → Prop) → Prop) (K : Nat → Lc → List Vl → Mm → Prop) : Prop := ∀ {pc : Nat} {ls : Lc} {rest as : List Vl} {σ : Mm} {k idx M ci : Nat} {i : Int}, (decode cc pc = .ok (.invokevirtual idx, 3)) → (VLk own idx M) → (kd k = (0, ci)) → ((vwCl[ci]?).map (fun q => q.1) = some (my M).cls) → (as.length = mp M) → (csum (vR k i :: as) ≤ ml M) → (csum rest ≤ 8) → (Cal M (vR k i :: as) σ (fun r σ2 => K (pc + 3) ls (r.toList ++ rest) σ2)) → K pc ls (as.reverse ++ vR k i :: rest) σ
def Z_ins (e : Ev) (cc : ByteArray) (own : String) (Cal : Nat → List Vl → Mm → (Option Vl → Mm → Prop) → Prop) (K : Nat → Lc → List Vl → Mm → Prop) : Prop := ∀ {pc : Nat} {ls : Lc} {rest as : List Vl} {σ : Mm} {idx M : Nat}, (decode cc pc = .ok (.invokestatic idx, 3)) → (TLk own idx M) → (as.length = mp M) → (csum as ≤ ml M) → (csum rest ≤ 8) → (Cal M as σ (fun r σ2 => K (pc + 3) ls (r.toList ++ rest) σ2)) → K pc ls (as.reverse ++ rest) σ
def StpZ (e : Ev) (cc : ByteArray) (own : String) (Cal : Nat → List Vl → Mm → (Option Vl → Mm → Prop) → Prop) (K : Nat → Lc → List Vl → Mm → Prop) : Prop := StpC (fun _ => vld) rgT cc own K ∧ Z_ok e cc own Cal K ∧ Z_getI e cc own Cal K ∧ Z_getR e cc own Cal K ∧ Z_putIU e cc own Cal K ∧ Z_putIT e cc own Cal K ∧ Z_putZU e cc own Cal K ∧ Z_putZT e cc own Cal K ∧ Z_iald e cc own Cal K ∧ Z_iastU e cc own Cal K ∧ Z_iastT e cc own Cal K ∧ Z_iastX e cc own Cal K ∧ Z_aald e cc own Cal K ∧ Z_alen e cc own Cal K ∧ Z_sald e cc own Cal K ∧ Z_slen e cc own Cal K ∧ Z_nums e cc own Cal K ∧ Z_nald e cc own Cal K ∧ Z_copyU e cc own Cal K ∧ Z_copyT e cc own Cal K ∧ Z_inv e cc own Cal K ∧ Z_ins e cc own Cal K
theorem WP.mono {P P2 : Option Vl → Mm → Prop} (h : ∀ r τ, P r τ → P2 r τ) : ∀ (d M : Nat) (as : List Vl) (τ : Mm), WP d M as τ P → WP d M as τ P2
  | 0, _, _, _, q => q.elim
  | d + 1, M, as, τ, q => fun K hK => q K ⟨hK.1, fun a b c => hK.2.1 a b (h _ _ c), fun a b e c => hK.2.2.1 a b e (h _ _ c), fun a b c => hK.2.2.2.1 a b (h _ _ c), fun a b c => hK.2.2.2.2 a b (h _ _ c)⟩
/-- what a method comes to, over the memories that are seen alike -/
def WT (e : Ev) (d M : Nat) (as : List Vl) (σ : Mm) (P : Option Vl → Mm → Prop) : Prop := ∀ τ : Mm, Ab e σ τ → WP d M as τ (fun r τ2 => ∃ σ2 : Mm, P r σ2 ∧ Ab e σ2 τ2)
section LIFT2
variable {e : Ev} {cc : ByteArray} {own : String} {K : Nat → Lc → List Vl → Mm → Prop} {d : Nat}
theorem kz_ok (hM : StpM cc own (WP d) K) : Z_ok e cc own (WT e d) (KA e K) := by
  intro pc ls st σ k_ τ hA
  exact k_ (fun c i j ht => by rw [← hA.1 c i j ht]; exact hA.2.1 c i j) τ hA
theorem kz_getI (hM : StpM cc own (WP d) K) : Z_getI e cc own (WT e d) (KA e K) := by
  intro pc ls st σ k i jz idx ci j ty hd hf hk hr hz k_ τ hA
  exact hM.1.2.2.2.2.2.2.2.2.2.2.2.2.2.2.2.2.2.2.2.2.2.2.2.2.2.2.2.2.2.2.2.2.2.2.2.2.2.2.2.2.2.2.2.2.2.2.2.2.2.2.2.2.2.2.2.2.2.2.2 (fun g _ => hM.2.1 hd hf hk hr hz (k_ _ (g _ _ _) (hA.2.1 _ _ _) (fun ht => hA.1 _ _ _ ht) τ hA))
theorem kz_getR (hM : StpM cc own (WP d) K) : Z_getR e cc own (WT e d) (KA e K) := by
  intro pc ls st σ k i idx ci j ty q hd hf hk hr hv k_ τ hA
  exact hM.2.2.1 hd hf hk hr hv (k_ τ hA)
theorem kz_putIU (hM : StpM cc own (WP d) K) : Z_putIU e cc own (WT e d) (KA e K) := by
  intro pc ls st σ k i a jz idx ci j hd hf hk hr hz h1 h3 k_ τ hA
  exact hM.2.2.2.1 hd hf hk hr hz (k_ _ (ab_muU hA h1 h3))
theorem kz_putIT (hM : StpM cc own (WP d) K) : Z_putIT e cc own (WT e d) (KA e K) := by
  intro pc ls st σ k i a jz idx ci j hd hf hk hr hz h2 h3 k_ τ hA
  exact hM.2.2.2.1 hd hf hk hr hz (k_ _ (ab_mu hA h3 h2))
theorem kz_putZU (hM : StpM cc own (WP d) K) : Z_putZU e cc own (WT e d) (KA e K) := by
  intro pc ls st σ k i a jz idx ci j hd hf hk hr hz ha h1 h3 k_ τ hA
  exact hM.2.2.2.2.1 hd hf hk hr hz ha (k_ _ (ab_muU hA h1 h3))
theorem kz_putZT (hM : StpM cc own (WP d) K) : Z_putZT e cc own (WT e d) (KA e K) := by
  intro pc ls st σ k i a jz idx ci j hd hf hk hr hz ha h2 h3 k_ τ hA
  exact hM.2.2.2.2.1 hd hf hk hr hz ha (k_ _ (ab_mu hA h3 h2))
theorem kz_iald (hM : StpM cc own (WP d) K) : Z_iald e cc own (WT e d) (KA e K) := by
  intro pc ls st σ k i j n hd hk h0 h1 k_ τ hA
  exact hM.1.2.2.2.2.2.2.2.2.2.2.2.2.2.2.2.2.2.2.2.2.2.2.2.2.2.2.2.2.2.2.2.2.2.2.2.2.2.2.2.2.2.2.2.2.2.2.2.2.2.2.2.2.2.2.2.2.2.2.2 (fun g _ => hM.2.2.2.2.2.1 hd hk h0 h1 (k_ _ (g _ _ _) (hA.2.1 _ _ _) (fun ht => hA.1 _ _ _ ht) τ hA))
theorem kz_iastU (hM : StpM cc own (WP d) K) : Z_iastU e cc own (WT e d) (KA e K) := by
  intro pc ls st σ k i j a n hd hk h0 h1 h4 h3 k_ τ hA
  exact hM.2.2.2.2.2.2.1 hd hk h0 h1 (k_ _ (ab_muU hA h4 h3))
theorem kz_iastT (hM : StpM cc own (WP d) K) : Z_iastT e cc own (WT e d) (KA e K) := by
  intro pc ls st σ k i j a n hd hk h0 h1 h2 h3 k_ τ hA
  exact hM.2.2.2.2.2.2.1 hd hk h0 h1 (k_ _ (ab_mu hA h3 h2))
theorem kz_iastX (hM : StpM cc own (WP d) K) : Z_iastX e cc own (WT e d) (KA e K) := by
  intro pc ls st σ k i j a a2 n hd hk h0 h1 h2 h3 h5 k_ τ hA
  exact hM.2.2.2.2.2.2.1 hd hk h0 h1 (k_ _ (ab_muX hA h3 h2 h5))
theorem kz_aald (hM : StpM cc own (WP d) K) : Z_aald e cc own (WT e d) (KA e K) := by
  intro pc ls st σ k i j t n hd hk ht h0 h1 hv k_ τ hA
  exact hM.2.2.2.2.2.2.2.1 hd hk ht h0 h1 hv (k_ τ hA)
theorem kz_alen (hM : StpM cc own (WP d) K) : Z_alen e cc own (WT e d) (KA e K) := by
  intro pc ls st σ k i nz n hd hk hz hn k_ τ hA
  exact hM.2.2.2.2.2.2.2.2.1 hd hk hz hn (k_ τ hA)
theorem kz_sald (hM : StpM cc own (WP d) K) : Z_sald e cc own (WT e d) (KA e K) := by
  intro pc ls st σ j hd h0 h1 k_ τ hA
  exact hM.2.2.2.2.2.2.2.2.2.1 hd h0 (by rw [hA.1 0 0 (-1) (Or.inl trivial)]; exact h1) (by rw [hA.1 0 0 j (Or.inl trivial)]; exact k_ τ hA)
theorem kz_slen (hM : StpM cc own (WP d) K) : Z_slen e cc own (WT e d) (KA e K) := by
  intro pc ls st σ hd k_ τ hA
  exact hM.2.2.2.2.2.2.2.2.2.2.1 hd (by rw [hA.1 0 0 (-1) (Or.inl trivial)]; exact k_ τ hA)
theorem kz_nums (hM : StpM cc own (WP d) K) : Z_nums e cc own (WT e d) (KA e K) := by
  intro pc ls st σ idx hd hl k_ τ hA
  exact hM.2.2.2.2.2.2.2.2.2.2.2.1 hd hl (k_ τ hA)
theorem kz_nald (hM : StpM cc own (WP d) K) : Z_nald e cc own (WT e d) (KA e K) := by
  intro pc ls st σ j hd h0 h1 k_ τ hA
  exact hM.2.2.2.2.2.2.2.2.2.2.2.2.1 hd h0 h1 (k_ τ hA)
theorem kz_copyU (hM : StpM cc own (WP d) K) : Z_copyU e cc own (WT e d) (KA e K) := by
  intro pc ls st σ k0 k1 i0 i1 sp dp n n0 n1 idx hd hl hk0 hk1 h1 h2 h3 h4 h5 hst hf k_ τ hA
  exact hM.2.2.2.2.2.2.2.2.2.2.2.2.2.1 hd hl hk0 hk1 h1 h2 h3 h4 h5 hst (k_ _ (ab_cpy hA hf))
theorem kz_copyT (hM : StpM cc own (WP d) K) : Z_copyT e cc own (WT e d) (KA e K) := by
  intro pc ls st σ k0 k1 i0 i1 sp dp n n0 n1 idx hd hl hk0 hk1 h1 h2 h3 h4 h5 hst hD ho hx k_ τ hA
  exact hM.2.2.2.2.2.2.2.2.2.2.2.2.2.1 hd hl hk0 hk1 h1 h2 h3 h4 h5 hst (k_ _ (ab_cpyT hA hD ho hx))
theorem kz_inv (hM : StpM cc own (WP d) K) : Z_inv e cc own (WT e d) (KA e K) := by
  intro pc ls rest as σ k idx M ci i hd hl hk hn hlen hcs hst k_ τ hA
  exact hM.2.2.2.2.2.2.2.2.2.2.2.2.2.2.1 hd hl hk hn hlen hcs hst (WP.mono (fun r τ2 hp => by obtain ⟨σ2, h3, h4⟩ := hp; exact h3 τ2 h4) _ _ _ _ (k_ τ hA))
theorem kz_ins (hM : StpM cc own (WP d) K) : Z_ins e cc own (WT e d) (KA e K) := by
  intro pc ls rest as σ idx M hd hl hlen hcs hst k_ τ hA
  exact hM.2.2.2.2.2.2.2.2.2.2.2.2.2.2.2 hd hl hlen hcs hst (WP.mono (fun r τ2 hp => by obtain ⟨σ2, h3, h4⟩ := hp; exact h3 τ2 h4) _ _ _ _ (k_ τ hA))
theorem ka_Z (hM : StpM cc own (WP d) K) : StpZ e cc own (WT e d) (KA e K) := ⟨ka_C hM.1, kz_ok hM, kz_getI hM, kz_getR hM, kz_putIU hM, kz_putIT hM, kz_putZU hM, kz_putZT hM, kz_iald hM, kz_iastU hM, kz_iastT hM, kz_iastX hM, kz_aald hM, kz_alen hM, kz_sald hM, kz_slen hM, kz_nums hM, kz_nald hM, kz_copyU hM, kz_copyT hM, kz_inv hM, kz_ins hM⟩
end LIFT2
def StpY (e : Ev) (cc : ByteArray) (own : String) (ret : Option FieldType) (Cal : Nat → List Vl → Mm → (Option Vl → Mm → Prop) → Prop) (Post : Option Vl → Mm → Prop) (K : Nat → Lc → List Vl → Mm → Prop) : Prop := StpZ e cc own Cal K ∧ T_iret cc ret Post K ∧ T_zret cc ret Post K ∧ T_vret cc ret Post K ∧ T_aret cc ret Post K
theorem WT_in {e : Ev} {d M : Nat} {as : List Vl} {σ : Mm} {P : Option Vl → Mm → Prop} (h : ∀ K : Nat → Lc → List Vl → Mm → Prop, StpY e (mb M) (my M).cls (mr M) (WT e d) P K → K 0 (ent (ml M) as) [] σ) : WT e (d + 1) M as σ P := by
  intro τ hA K hK
  refine h (KA e K) ⟨ka_Z hK.1, ?_, ?_, ?_, ?_⟩ τ hA
  · intro pc ls σ2 a hr hd hp τ2 hA2
    exact hK.2.1 hr hd ⟨σ2, hp, hA2⟩
  · intro pc ls σ2 a hr hd ha hp τ2 hA2
    exact hK.2.2.1 hr hd ha ⟨σ2, hp, hA2⟩
  · intro pc ls σ2 hr hd hp τ2 hA2
    exact hK.2.2.2.1 hr hd ⟨σ2, hp, hA2⟩
  · intro pc ls σ2 n q hr hd hp τ2 hA2
    exact hK.2.2.2.2 hr hd ⟨σ2, hp, hA2⟩
theorem WT_ok {e : Ev} {d M : Nat} {as : List Vl} {σ : Mm} {P : Option Vl → Mm → Prop} (h : (∀ (c : Nat) (i j : Int), Tk e c j → Okv c j (σ c i j)) → WT e d M as σ P) : WT e d M as σ P := fun τ hA => h (fun c i j ht => by rw [← hA.1 c i j ht]; exact hA.2.1 c i j) τ hA
/-- a sharper contract serves loosely where the standing facts hold again at the end -/
theorem WT_loose {e : Ev} (e2 : Ev) {d M : Nat} {as : List Vl} {σ : Mm} {P : Option Vl → Mm → Prop} (h1 : e2.1 = false → e.1 = false) (h2 : e2.2.1 = false → e.2.1 = false) (hs : ∀ (c : Nat) (j : Int), Tk e c j → Tk e2 c j)
    (h : ∀ ρ : Mm, (e.1 = false → InT ρ) → (e.2.1 = false → InF ρ) → (∀ (c : Nat) (i j : Int), Tk e c j → ρ c i j = σ c i j) → (∀ (c : Nat) (i j : Int), Okv c j (ρ c i j)) → WT e2 d M as ρ (fun r ρ2 => ∃ σ2 : Mm, P r σ2 ∧ (e.1 = false → e2.1 = false ∨ InT ρ2) ∧ (e.2.1 = false → e2.2.1 = false ∨ InF ρ2) ∧ ∀ (c : Nat) (i j : Int), Tk e c j → ρ2 c i j = σ2 c i j)) : WT e d M as σ P := by
  intro τ hA
  refine WP.mono (fun r τ2 hp => ?_) _ _ _ _ (h τ hA.2.2.1 hA.2.2.2 (fun c i j q => hA.1 c i j q) hA.2.1 τ (ab_sharp hA h1 h2))
  obtain ⟨ρ2, ⟨σ2, g1, g2, g3, g4⟩, g5⟩ := hp
  exact ⟨σ2, g1, ab_loose g5 g2 g3 hs g4⟩
theorem DL_Tb {c : Nat} {j : Int} (h : DL c j) : Tb c j := by
  unfold DL at h
  split at h
  · show j ≠ 11
    omega
  · show j % 22 ≠ 7 ∧ (j % 22 = 21 → 88 ≤ j ∧ j < 154)
    omega
  · exact h.elim
section ZROWS
variable {e : Ev} {cc : ByteArray} {own : String} {ret : Option FieldType} {Cal : Nat → List Vl → Mm → (Option Vl → Mm → Prop) → Prop} {Post : Option Vl → Mm → Prop} {K : Nat → Lc → List Vl → Mm → Prop}
theorem z_ok (hK : StpZ e cc own Cal K) {pc : Nat} {ls : Lc} {st : List Vl} {σ : Mm} (k_ : (∀ (c : Nat) (i j : Int), Tk e c j → Okv c j (σ c i j)) → K pc ls st σ) : K pc ls st σ := hK.2.1 k_
theorem z_getI (hK : StpZ e cc own Cal K) {pc : Nat} {ls : Lc} {st : List Vl} {σ : Mm} {k : Nat} {i jz : Int} {idx ci j : Nat} {ty : FieldType} (hd : decode cc pc = .ok (.getfield idx, 3)) (hf : FLk own idx ci j ty) (hk : kd k = (0, ci)) (hr : rff k i j = none) (hz : (j : Int) = jz) (k_ : ∀ v : Int, (-2147483648 ≤ v ∧ v < 2147483648) → Okv k jz v → (Tk e k jz → v = σ k i jz) → K (pc + 3) ls (vI v :: st) σ) : K pc ls (vR k i :: st) σ := hK.2.2.1 hd hf hk hr hz k_
theorem z_getR (hK : StpZ e cc own Cal K) {pc : Nat} {ls : Lc} {st : List Vl} {σ : Mm} {k : Nat} {i : Int} {idx ci j : Nat} {ty : FieldType} {q : Nat × Int} (hd : decode cc pc = .ok (.getfield idx, 3)) (hf : FLk own idx ci j ty) (hk : kd k = (0, ci)) (hr : rff k i j = some q) (hv : vld q) (k_ : K (pc + 3) ls (Sum.inr (Sum.inl (some q)) :: st) σ) : K pc ls (vR k i :: st) σ := hK.2.2.2.1 hd hf hk hr hv k_
theorem z_putIU (hK : StpZ e cc own Cal K) {pc : Nat} {ls : Lc} {st : List Vl} {σ : Mm} {k : Nat} {i a jz : Int} {idx ci j : Nat} (hd : decode cc pc = .ok (.putfield idx, 3)) (hf : FLw own idx ci j .int) (hk : kd k = (0, ci)) (hr : rff k i j = none) (hz : (j : Int) = jz) (h1 : Un e k jz) (h3 : Okv k jz a) (k_ : K (pc + 3) ls st σ) : K pc ls (vI a :: vR k i :: st) σ := hK.2.2.2.2.1 hd hf hk hr hz h1 h3 k_
theorem z_putIT (hK : StpZ e cc own Cal K) {pc : Nat} {ls : Lc} {st : List Vl} {σ : Mm} {k : Nat} {i a jz : Int} {idx ci j : Nat} (hd : decode cc pc = .ok (.putfield idx, 3)) (hf : FLw own idx ci j .int) (hk : kd k = (0, ci)) (hr : rff k i j = none) (hz : (j : Int) = jz) (h2 : Tl e k jz) (h3 : Okv k jz a) (k_ : K (pc + 3) ls st (mu σ k i jz a)) : K pc ls (vI a :: vR k i :: st) σ := hK.2.2.2.2.2.1 hd hf hk hr hz h2 h3 k_
theorem z_putZU (hK : StpZ e cc own Cal K) {pc : Nat} {ls : Lc} {st : List Vl} {σ : Mm} {k : Nat} {i a jz : Int} {idx ci j : Nat} (hd : decode cc pc = .ok (.putfield idx, 3)) (hf : FLw own idx ci j .boolean) (hk : kd k = (0, ci)) (hr : rff k i j = none) (hz : (j : Int) = jz) (ha : a = 0 ∨ a = 1) (h1 : Un e k jz) (h3 : Okv k jz a) (k_ : K (pc + 3) ls st σ) : K pc ls (vI a :: vR k i :: st) σ := hK.2.2.2.2.2.2.1 hd hf hk hr hz ha h1 h3 k_
theorem z_putZT (hK : StpZ e cc own Cal K) {pc : Nat} {ls : Lc} {st : List Vl} {σ : Mm} {k : Nat} {i a jz : Int} {idx ci j : Nat} (hd : decode cc pc = .ok (.putfield idx, 3)) (hf : FLw own idx ci j .boolean) (hk : kd k = (0, ci)) (hr : rff k i j = none) (hz : (j : Int) = jz) (ha : a = 0 ∨ a = 1) (h2 : Tl e k jz) (h3 : Okv k jz a) (k_ : K (pc + 3) ls st (mu σ k i jz a)) : K pc ls (vI a :: vR k i :: st) σ := hK.2.2.2.2.2.2.2.1 hd hf hk hr hz ha h2 h3 k_
theorem z_iald (hK : StpZ e cc own Cal K) {pc : Nat} {ls : Lc} {st : List Vl} {σ : Mm} {k : Nat} {i j : Int} {n : Nat} (hd : decode cc pc = .ok (.iaload, 1)) (hk : kd k = (1, n)) (h0 : 0 ≤ j) (h1 : j < (n : Int)) (k_ : ∀ v : Int, (-2147483648 ≤ v ∧ v < 2147483648) → Okv k j v → (Tk e k j → v = σ k i j) → K (pc + 1) ls (vI v :: st) σ) : K pc ls (vI j :: vR k i :: st) σ := hK.2.2.2.2.2.2.2.2.1 hd hk h0 h1 k_
theorem z_iastU (hK : StpZ e cc own Cal K) {pc : Nat} {ls : Lc} {st : List Vl} {σ : Mm} {k : Nat} {i j a : Int} {n : Nat} (hd : decode cc pc = .ok (.iastore, 1)) (hk : kd k = (1, n)) (h0 : 0 ≤ j) (h1 : j < (n : Int)) (h4 : Un e k j) (h3 : Okv k j a) (k_ : K (pc + 1) ls st σ) : K pc ls (vI a :: vI j :: vR k i :: st) σ := hK.2.2.2.2.2.2.2.2.2.1 hd hk h0 h1 h4 h3 k_
theorem z_iastT (hK : StpZ e cc own Cal K) {pc : Nat} {ls : Lc} {st : List Vl} {σ : Mm} {k : Nat} {i j a : Int} {n : Nat} (hd : decode cc pc = .ok (.iastore, 1)) (hk : kd k = (1, n)) (h0 : 0 ≤ j) (h1 : j < (n : Int)) (h2 : Tl e k j) (h3 : Okv k j a) (k_ : K (pc + 1) ls st (mu σ k i j a)) : K pc ls (vI a :: vI j :: vR k i :: st) σ := hK.2.2.2.2.2.2.2.2.2.2.1 hd hk h0 h1 h2 h3 k_
theorem z_iastX (hK : StpZ e cc own Cal K) {pc : Nat} {ls : Lc} {st : List Vl} {σ : Mm} {k : Nat} {i j a a2 : Int} {n : Nat} (hd : decode cc pc = .ok (.iastore, 1)) (hk : kd k = (1, n)) (h0 : 0 ≤ j) (h1 : j < (n : Int)) (h2 : Tl e k j) (h3 : Okv k j a) (h5 : Tk e k j → a = a2) (k_ : K (pc + 1) ls st (mu σ k i j a2)) : K pc ls (vI a :: vI j :: vR k i :: st) σ := hK.2.2.2.2.2.2.2.2.2.2.2.1 hd hk h0 h1 h2 h3 h5 k_
theorem z_aald (hK : StpZ e cc own Cal K) {pc : Nat} {ls : Lc} {st : List Vl} {σ : Mm} {k : Nat} {i j : Int} {t n : Nat} (hd : decode cc pc = .ok (.aaload, 1)) (hk : kd k = (t + 2, n)) (ht : t < 4) (h0 : 0 ≤ j) (h1 : j < (n : Int)) (hv : vld (rfa k j)) (k_ : K (pc + 1) ls (Sum.inr (Sum.inl (some (rfa k j))) :: st) σ) : K pc ls (vI j :: vR k i :: st) σ := hK.2.2.2.2.2.2.2.2.2.2.2.2.1 hd hk ht h0 h1 hv k_
theorem z_alen (hK : StpZ e cc own Cal K) {pc : Nat} {ls : Lc} {st : List Vl} {σ : Mm} {k : Nat} {i nz : Int} {n : Nat} (hd : decode cc pc = .ok (.arraylength, 1)) (hk : kd k = (1, n)) (hz : (n : Int) = nz) (hn : n < 2147483648) (k_ : K (pc + 1) ls (vI nz :: st) σ) : K pc ls (vR k i :: st) σ := hK.2.2.2.2.2.2.2.2.2.2.2.2.2.1 hd hk hz hn k_
theorem z_sald (hK : StpZ e cc own Cal K) {pc : Nat} {ls : Lc} {st : List Vl} {σ : Mm} {j : Int} (hd : decode cc pc = .ok (.iaload, 1)) (h0 : 0 ≤ j) (h1 : j < σ 0 0 (-1)) (k_ : K (pc + 1) ls (vI (σ 0 0 j) :: st) σ) : K pc ls (vI j :: vR 0 0 :: st) σ := hK.2.2.2.2.2.2.2.2.2.2.2.2.2.2.1 hd h0 h1 k_
theorem z_slen (hK : StpZ e cc own Cal K) {pc : Nat} {ls : Lc} {st : List Vl} {σ : Mm} (hd : decode cc pc = .ok (.arraylength, 1)) (k_ : K (pc + 1) ls (vI (σ 0 0 (-1)) :: st) σ) : K pc ls (vR 0 0 :: st) σ := hK.2.2.2.2.2.2.2.2.2.2.2.2.2.2.2.1 hd k_
theorem z_nums (hK : StpZ e cc own Cal K) {pc : Nat} {ls : Lc} {st : List Vl} {σ : Mm} {idx : Nat} (hd : decode cc pc = .ok (.getstatic idx, 3)) (hl : SLk own idx) (k_ : K (pc + 3) ls (vR 1 0 :: st) σ) : K pc ls st σ := hK.2.2.2.2.2.2.2.2.2.2.2.2.2.2.2.2.1 hd hl k_
theorem z_nald (hK : StpZ e cc own Cal K) {pc : Nat} {ls : Lc} {st : List Vl} {σ : Mm} {j : Int} (hd : decode cc pc = .ok (.iaload, 1)) (h0 : 0 ≤ j) (h1 : j < 10) (k_ : K (pc + 1) ls (vI (numF j) :: st) σ) : K pc ls (vI j :: vR 1 0 :: st) σ := hK.2.2.2.2.2.2.2.2.2.2.2.2.2.2.2.2.2.1 hd h0 h1 k_
theorem z_copyU (hK : StpZ e cc own Cal K) {pc : Nat} {ls : Lc} {st : List Vl} {σ : Mm} {k0 k1 : Nat} {i0 i1 sp dp n : Int} {n0 n1 idx : Nat} (hd : decode cc pc = .ok (.invokestatic idx, 3)) (hl : Cond.methodLink own idx arraycopyName ∈ gT ∧ Cond.native arraycopyName ∈ gT ∧ Cond.static arraycopyName ∈ gT ∧ Cond.initialized "java/lang/System" ∈ gT) (hk0 : kd k0 = (1, n0)) (hk1 : kd k1 = (1, n1)) (h1 : 0 ≤ sp) (h2 : 0 ≤ dp) (h3 : 0 ≤ n) (h4 : sp + n ≤ (n0 : Int)) (h5 : dp + n ≤ (n1 : Int)) (hst : csum st ≤ 8) (hf : ∀ j : Int, Un e k1 j ∧ ∀ j0 v : Int, Okv k0 j0 v → Okv k1 j v) (k_ : K (pc + 3) ls st σ) : K pc ls (vI n :: vI dp :: vR k1 i1 :: vI sp :: vR k0 i0 :: st) σ := hK.2.2.2.2.2.2.2.2.2.2.2.2.2.2.2.2.2.2.1 hd hl hk0 hk1 h1 h2 h3 h4 h5 hst hf k_
theorem z_copyT (hK : StpZ e cc own Cal K) {pc : Nat} {ls : Lc} {st : List Vl} {σ : Mm} {k0 k1 : Nat} {i0 i1 sp dp n : Int} {n0 n1 idx : Nat} (hd : decode cc pc = .ok (.invokestatic idx, 3)) (hl : Cond.methodLink own idx arraycopyName ∈ gT ∧ Cond.native arraycopyName ∈ gT ∧ Cond.static arraycopyName ∈ gT ∧ Cond.initialized "java/lang/System" ∈ gT) (hk0 : kd k0 = (1, n0)) (hk1 : kd k1 = (1, n1)) (h1 : 0 ≤ sp) (h2 : 0 ≤ dp) (h3 : 0 ≤ n) (h4 : sp + n ≤ (n0 : Int)) (h5 : dp + n ≤ (n1 : Int)) (hst : csum st ≤ 8) (hD : ∀ j : Int, ¬ DL k1 j ∧ ¬ DF k1 j) (ho : ∀ j0 j v : Int, Okv k0 j0 v → Okv k1 j v) (hx : ∀ x : Int, 0 ≤ x → x < n → Tk e k1 (dp + x) → Tk e k0 (sp + x)) (k_ : K (pc + 3) ls st (cpy σ k0 i0 sp k1 i1 dp n)) : K pc ls (vI n :: vI dp :: vR k1 i1 :: vI sp :: vR k0 i0 :: st) σ := hK.2.2.2.2.2.2.2.2.2.2.2.2.2.2.2.2.2.2.2.1 hd hl hk0 hk1 h1 h2 h3 h4 h5 hst hD ho hx k_
theorem z_inv (hK : StpZ e cc own Cal K) {pc : Nat} {ls : Lc} {rest as : List Vl} {σ : Mm} {k idx M ci : Nat} {i : Int} (hd : decode cc pc = .ok (.invokevirtual idx, 3)) (hl : VLk own idx M) (hk : kd k = (0, ci)) (hn : (vwCl[ci]?).map (fun q => q.1) = some (my M).cls) (hlen : as.length = mp M) (hcs : csum (vR k i :: as) ≤ ml M) (hst : csum rest ≤ 8) (k_ : Cal M (vR k i :: as) σ (fun r σ2 => K (pc + 3) ls (r.toList ++ rest) σ2)) : K pc ls (as.reverse ++ vR k i :: rest) σ := hK.2.2.2.2.2.2.2.2.2.2.2.2.2.2.2.2.2.2.2.2.1 hd hl hk hn hlen hcs hst k_
theorem z_ins (hK : StpZ e cc own Cal K) {pc : Nat} {ls : Lc} {rest as : List Vl} {σ : Mm} {idx M : Nat} (hd : decode cc pc = .ok (.invokestatic idx, 3)) (hl : TLk own idx M) (hlen : as.length = mp M) (hcs : csum as ≤ ml M) (hst : csum rest ≤ 8) (k_ : Cal M as σ (fun r σ2 => K (pc + 3) ls (r.toList ++ rest) σ2)) : K pc ls (as.reverse ++ rest) σ := hK.2.2.2.2.2.2.2.2.2.2.2.2.2.2.2.2.2.2.2.2.2 hd hl hlen hcs hst k_
theorem z_inv0 (hK : StpZ e cc own Cal K) {pc : Nat} {ls : Lc} {rest : List Vl} {σ : Mm} {k idx M ci : Nat} {i : Int} (hd : decode cc pc = .ok (.invokevirtual idx, 3)) (hl : VLk own idx M) (hk : kd k = (0, ci)) (hn : (vwCl[ci]?).map (fun q => q.1) = some (my M).cls) (hlen : (0 : Nat) = mp M) (hcs : csum (vR k i :: []) ≤ ml M) (hst : csum rest ≤ 8) (k_ : Cal M (vR k i :: []) σ (fun r σ2 => K (pc + 3) ls (r.toList ++ rest) σ2)) : K pc ls (vR k i :: rest) σ := z_inv hK (as := []) hd hl hk hn hlen hcs hst k_
theorem z_ins0 (hK : StpZ e cc own Cal K) {pc : Nat} {ls : Lc} {rest : List Vl} {σ : Mm} {idx M : Nat} (hd : decode cc pc = .ok (.invokestatic idx, 3)) (hl : TLk own idx M) (hlen : (0 : Nat) = mp M) (hcs : csum [] ≤ ml M) (hst : csum rest ≤ 8) (k_ : Cal M [] σ (fun r σ2 => K (pc + 3) ls (r.toList ++ rest) σ2)) : K pc ls (rest) σ := z_ins hK (as := []) hd hl hlen hcs hst k_
theorem z_inv1 (hK : StpZ e cc own Cal K) {pc : Nat} {ls : Lc} {rest : List Vl} {σ : Mm} {k idx M ci : Nat} {i : Int} {a1 : Vl} (hd : decode cc pc = .ok (.invokevirtual idx, 3)) (hl : VLk own idx M) (hk : kd k = (0, ci)) (hn : (vwCl[ci]?).map (fun q => q.1) = some (my M).cls) (hlen : (1 : Nat) = mp M) (hcs : csum (vR k i :: [a1]) ≤ ml M) (hst : csum rest ≤ 8) (k_ : Cal M (vR k i :: [a1]) σ (fun r σ2 => K (pc + 3) ls (r.toList ++ rest) σ2)) : K pc ls (a1 :: vR k i :: rest) σ := z_inv hK (as := [a1]) hd hl hk hn hlen hcs hst k_
theorem z_ins1 (hK : StpZ e cc own Cal K) {pc : Nat} {ls : Lc} {rest : List Vl} {σ : Mm} {idx M : Nat} {a1 : Vl} (hd : decode cc pc = .ok (.invokestatic idx, 3)) (hl : TLk own idx M) (hlen : (1 : Nat) = mp M) (hcs : csum [a1] ≤ ml M) (hst : csum rest ≤ 8) (k_ : Cal M [a1] σ (fun r σ2 => K (pc + 3) ls (r.toList ++ rest) σ2)) : K pc ls (a1 :: rest) σ := z_ins hK (as := [a1]) hd hl hlen hcs hst k_
theorem z_inv2 (hK : StpZ e cc own Cal K) {pc : Nat} {ls : Lc} {rest : List Vl} {σ : Mm} {k idx M ci : Nat} {i : Int} {a1 a2 : Vl} (hd : decode cc pc = .ok (.invokevirtual idx, 3)) (hl : VLk own idx M) (hk : kd k = (0, ci)) (hn : (vwCl[ci]?).map (fun q => q.1) = some (my M).cls) (hlen : (2 : Nat) = mp M) (hcs : csum (vR k i :: [a1, a2]) ≤ ml M) (hst : csum rest ≤ 8) (k_ : Cal M (vR k i :: [a1, a2]) σ (fun r σ2 => K (pc + 3) ls (r.toList ++ rest) σ2)) : K pc ls (a2 :: a1 :: vR k i :: rest) σ := z_inv hK (as := [a1, a2]) hd hl hk hn hlen hcs hst k_
theorem z_ins2 (hK : StpZ e cc own Cal K) {pc : Nat} {ls : Lc} {rest : List Vl} {σ : Mm} {idx M : Nat} {a1 a2 : Vl} (hd : decode cc pc = .ok (.invokestatic idx, 3)) (hl : TLk own idx M) (hlen : (2 : Nat) = mp M) (hcs : csum [a1, a2] ≤ ml M) (hst : csum rest ≤ 8) (k_ : Cal M [a1, a2] σ (fun r σ2 => K (pc + 3) ls (r.toList ++ rest) σ2)) : K pc ls (a2 :: a1 :: rest) σ := z_ins hK (as := [a1, a2]) hd hl hlen hcs hst k_
theorem z_inv3 (hK : StpZ e cc own Cal K) {pc : Nat} {ls : Lc} {rest : List Vl} {σ : Mm} {k idx M ci : Nat} {i : Int} {a1 a2 a3 : Vl} (hd : decode cc pc = .ok (.invokevirtual idx, 3)) (hl : VLk own idx M) (hk : kd k = (0, ci)) (hn : (vwCl[ci]?).map (fun q => q.1) = some (my M).cls) (hlen : (3 : Nat) = mp M) (hcs : csum (vR k i :: [a1, a2, a3]) ≤ ml M) (hst : csum rest ≤ 8) (k_ : Cal M (vR k i :: [a1, a2, a3]) σ (fun r σ2 => K (pc + 3) ls (r.toList ++ rest) σ2)) : K pc ls (a3 :: a2 :: a1 :: vR k i :: rest) σ := z_inv hK (as := [a1, a2, a3]) hd hl hk hn hlen hcs hst k_
theorem z_ins3 (hK : StpZ e cc own Cal K) {pc : Nat} {ls : Lc} {rest : List Vl} {σ : Mm} {idx M : Nat} {a1 a2 a3 : Vl} (hd : decode cc pc = .ok (.invokestatic idx, 3)) (hl : TLk own idx M) (hlen : (3 : Nat) = mp M) (hcs : csum [a1, a2, a3] ≤ ml M) (hst : csum rest ≤ 8) (k_ : Cal M [a1, a2, a3] σ (fun r σ2 => K (pc + 3) ls (r.toList ++ rest) σ2)) : K pc ls (a3 :: a2 :: a1 :: rest) σ := z_ins hK (as := [a1, a2, a3]) hd hl hlen hcs hst k_
theorem z_inv4 (hK : StpZ e cc own Cal K) {pc : Nat} {ls : Lc} {rest : List Vl} {σ : Mm} {k idx M ci : Nat} {i : Int} {a1 a2 a3 a4 : Vl} (hd : decode cc pc = .ok (.invokevirtual idx, 3)) (hl : VLk own idx M) (hk : kd k = (0, ci)) (hn : (vwCl[ci]?).map (fun q => q.1) = some (my M).cls) (hlen : (4 : Nat) = mp M) (hcs : csum (vR k i :: [a1, a2, a3, a4]) ≤ ml M) (hst : csum rest ≤ 8) (k_ : Cal M (vR k i :: [a1, a2, a3, a4]) σ (fun r σ2 => K (pc + 3) ls (r.toList ++ rest) σ2)) : K pc ls (a4 :: a3 :: a2 :: a1 :: vR k i :: rest) σ := z_inv hK (as := [a1, a2, a3, a4]) hd hl hk hn hlen hcs hst k_
theorem z_ins4 (hK : StpZ e cc own Cal K) {pc : Nat} {ls : Lc} {rest : List Vl} {σ : Mm} {idx M : Nat} {a1 a2 a3 a4 : Vl} (hd : decode cc pc = .ok (.invokestatic idx, 3)) (hl : TLk own idx M) (hlen : (4 : Nat) = mp M) (hcs : csum [a1, a2, a3, a4] ≤ ml M) (hst : csum rest ≤ 8) (k_ : Cal M [a1, a2, a3, a4] σ (fun r σ2 => K (pc + 3) ls (r.toList ++ rest) σ2)) : K pc ls (a4 :: a3 :: a2 :: a1 :: rest) σ := z_ins hK (as := [a1, a2, a3, a4]) hd hl hlen hcs hst k_
theorem z_inv5 (hK : StpZ e cc own Cal K) {pc : Nat} {ls : Lc} {rest : List Vl} {σ : Mm} {k idx M ci : Nat} {i : Int} {a1 a2 a3 a4 a5 : Vl} (hd : decode cc pc = .ok (.invokevirtual idx, 3)) (hl : VLk own idx M) (hk : kd k = (0, ci)) (hn : (vwCl[ci]?).map (fun q => q.1) = some (my M).cls) (hlen : (5 : Nat) = mp M) (hcs : csum (vR k i :: [a1, a2, a3, a4, a5]) ≤ ml M) (hst : csum rest ≤ 8) (k_ : Cal M (vR k i :: [a1, a2, a3, a4, a5]) σ (fun r σ2 => K (pc + 3) ls (r.toList ++ rest) σ2)) : K pc ls (a5 :: a4 :: a3 :: a2 :: a1 :: vR k i :: rest) σ := z_inv hK (as := [a1, a2, a3, a4, a5]) hd hl hk hn hlen hcs hst k_
theorem z_ins5 (hK : StpZ e cc own Cal K) {pc : Nat} {ls : Lc} {rest : List Vl} {σ : Mm} {idx M : Nat} {a1 a2 a3 a4 a5 : Vl} (hd : decode cc pc = .ok (.invokestatic idx, 3)) (hl : TLk own idx M) (hlen : (5 : Nat) = mp M) (hcs : csum [a1, a2, a3, a4, a5] ≤ ml M) (hst : csum rest ≤ 8) (k_ : Cal M [a1, a2, a3, a4, a5] σ (fun r σ2 => K (pc + 3) ls (r.toList ++ rest) σ2)) : K pc ls (a5 :: a4 :: a3 :: a2 :: a1 :: rest) σ := z_ins hK (as := [a1, a2, a3, a4, a5]) hd hl hlen hcs hst k_
theorem y_iret (hK : StpY e cc own ret Cal Post K) {pc : Nat} {ls : Lc} {σ : Mm} {a : Int} (hr : ret = some .int) (hd : decode cc pc = .ok (.ireturn, 1)) (hp : Post (some (vI a)) σ) : K pc ls [vI a] σ := hK.2.1 hr hd hp
theorem y_zret (hK : StpY e cc own ret Cal Post K) {pc : Nat} {ls : Lc} {σ : Mm} {a : Int} (hr : ret = some .boolean) (hd : decode cc pc = .ok (.ireturn, 1)) (ha : a = 0 ∨ a = 1) (hp : Post (some (vI a)) σ) : K pc ls [vI a] σ := hK.2.2.1 hr hd ha hp
theorem y_vret (hK : StpY e cc own ret Cal Post K) {pc : Nat} {ls : Lc} {σ : Mm} (hr : ret = none) (hd : decode cc pc = .ok (.return_, 1)) (hp : Post none σ) : K pc ls [] σ := hK.2.2.2.1 hr hd hp
theorem y_aret (hK : StpY e cc own ret Cal Post K) {pc : Nat} {ls : Lc} {σ : Mm} {n : String} {q : Option (Nat × Int)} (hr : ret = some (.object n)) (hd : decode cc pc = .ok (.areturn, 1)) (hp : Post (some (Sum.inr (Sum.inl q))) σ) : K pc ls [Sum.inr (Sum.inl q)] σ := hK.2.2.2.2 hr hd hp
end ZROWS
-- rows that forget what a number is, but for its bounds
theorem inR_le {a : Int} (h : inR a) : -2147483648 ≤ a ∧ a ≤ 2147483647 := ⟨h.1, by have := h.2; omega⟩
theorem iand_rng {a b : Int} (h0 : 0 ≤ b) (hb : inR b) : 0 ≤ iand a b ∧ iand a b ≤ b := by
  unfold iand
  have h3 : ((i3 a &&& i3 b).toBitVec).toNat ≤ (i3 b).toBitVec.toNat := by
    show ((i3 a).toBitVec &&& (i3 b).toBitVec).toNat ≤ _
    rw [BitVec.toNat_and]
    exact Nat.and_le_right
  have hbi : (i3 b).toInt = b := i3_toInt hb
  have hbn : ((i3 b).toBitVec.toNat : Int) = b := by
    have h5 : (i3 b).toBitVec.toInt = b := hbi
    rw [BitVec.toInt_eq_toNat_cond] at h5
    split at h5
    · exact h5
    · have := (i3 b).toBitVec.isLt
      omega
  have h6 : (i3 a &&& i3 b).toInt = (((i3 a &&& i3 b).toBitVec).toNat : Int) := by
    show ((i3 a &&& i3 b).toBitVec).toInt = _
    exact BitVec.toInt_eq_toNat_of_lt (by have := hb.2; omega)
  omega
theorem numF_rng (j : Int) : 1 ≤ numF j ∧ numF j ≤ 7 := by
  unfold numF
  split <;> omega
theorem ixor_sign {a b : Int} (ha : inR a) (hb : inR b) (h0 : 0 ≤ b) : ixor a b < 0 ↔ a < 0 := by
  unfold ixor
  have e : ∀ x : Int32, (x.toInt < 0) ↔ x.toBitVec.msb = true := fun x => by
    show x.toBitVec.toInt < 0 ↔ _
    rw [BitVec.msb_eq_toInt]
    simp
  rw [e]
  have h1 : (i3 a ^^^ i3 b).toBitVec = (i3 a).toBitVec ^^^ (i3 b).toBitVec := rfl
  rw [h1, BitVec.msb_xor]
  have hA := e (i3 a)
  rw [i3_toInt ha] at hA
  have hB := e (i3 b)
  rw [i3_toInt hb] at hB
  cases hb2 : (i3 b).toBitVec.msb
  · simp only [Bool.bne_false]
    exact hA.symm
  · exact absurd (hB.mpr hb2) (by omega)
section GROWS
variable {α : Type} {vd : α → Nat × Int → Prop} {rg : α → Prop} {cc : ByteArray} {own : String} {K : Nat → Lc → List Vl → α → Prop}
theorem r_iincG (hK : StpC vd rg cc own K) {pc : Nat} {ls : Lc} {st : List Vl} {μ : α} {x : Nat} {n a : Int} (hd : decode cc pc = .ok (.iinc x n, 3)) (hl : ls[x]? = some (some (vI a))) (hi : lfree ls x = true) (k : ∀ v : Int, (-2147483648 ≤ v ∧ v ≤ 2147483647) → K (pc + 3) (ls.set x (some (vI v))) st μ) : K pc ls st μ := r_iinc hK hd hl hi (k _ (inR_le (inR_wr _)))
theorem r_iaddG (hK : StpC vd rg cc own K) {pc : Nat} {ls : Lc} {st : List Vl} {μ : α} {a b : Int} (hd : decode cc pc = .ok (.iadd, 1)) (k : ∀ v : Int, (-2147483648 ≤ v ∧ v ≤ 2147483647) → K (pc + 1) ls (vI v :: st) μ) : K pc ls (vI b :: vI a :: st) μ := r_iadd hK hd (k _ (inR_le (inR_wr _)))
theorem r_isubG (hK : StpC vd rg cc own K) {pc : Nat} {ls : Lc} {st : List Vl} {μ : α} {a b : Int} (hd : decode cc pc = .ok (.isub, 1)) (k : ∀ v : Int, (-2147483648 ≤ v ∧ v ≤ 2147483647) → K (pc + 1) ls (vI v :: st) μ) : K pc ls (vI b :: vI a :: st) μ := r_isub hK hd (k _ (inR_le (inR_wr _)))
theorem r_imulG (hK : StpC vd rg cc own K) {pc : Nat} {ls : Lc} {st : List Vl} {μ : α} {a b : Int} (hd : decode cc pc = .ok (.imul, 1)) (k : ∀ v : Int, (-2147483648 ≤ v ∧ v ≤ 2147483647) → K (pc + 1) ls (vI v :: st) μ) : K pc ls (vI b :: vI a :: st) μ := r_imul hK hd (k _ (inR_le (inR_wr _)))
theorem r_inegG (hK : StpC vd rg cc own K) {pc : Nat} {ls : Lc} {st : List Vl} {μ : α} {a : Int} (hd : decode cc pc = .ok (.ineg, 1)) (k : ∀ v : Int, (-2147483648 ≤ v ∧ v ≤ 2147483647) → K (pc + 1) ls (vI v :: st) μ) : K pc ls (vI a :: st) μ := r_ineg hK hd (k _ (inR_le (inR_wr _)))
theorem r_iandG (hK : StpC vd rg cc own K) {pc : Nat} {ls : Lc} {st : List Vl} {μ : α} {a b : Int} (hd : decode cc pc = .ok (.iand, 1)) (k : ∀ v : Int, (-2147483648 ≤ v ∧ v ≤ 2147483647) → K (pc + 1) ls (vI v :: st) μ) : K pc ls (vI b :: vI a :: st) μ := r_iand hK hd (k _ (inR_le (inR_of _)))
theorem r_iandB (hK : StpC vd rg cc own K) {pc : Nat} {ls : Lc} {st : List Vl} {μ : α} {a b : Int} (hd : decode cc pc = .ok (.iand, 1)) (h0 : 0 ≤ b) (hb : inR b) (k : ∀ v : Int, (0 ≤ v ∧ v ≤ b) → K (pc + 1) ls (vI v :: st) μ) : K pc ls (vI b :: vI a :: st) μ := r_iand hK hd (k _ (iand_rng h0 hb))
theorem r_iorG (hK : StpC vd rg cc own K) {pc : Nat} {ls : Lc} {st : List Vl} {μ : α} {a b : Int} (hd : decode cc pc = .ok (.ior, 1)) (k : ∀ v : Int, (-2147483648 ≤ v ∧ v ≤ 2147483647) → K (pc + 1) ls (vI v :: st) μ) : K pc ls (vI b :: vI a :: st) μ := r_ior hK hd (k _ (inR_le (inR_of _)))
theorem r_ixorG (hK : StpC vd rg cc own K) {pc : Nat} {ls : Lc} {st : List Vl} {μ : α} {a b : Int} (hd : decode cc pc = .ok (.ixor, 1)) (k : ∀ v : Int, (-2147483648 ≤ v ∧ v ≤ 2147483647) → K (pc + 1) ls (vI v :: st) μ) : K pc ls (vI b :: vI a :: st) μ := r_ixor hK hd (k _ (inR_le (inR_of _)))
theorem r_ixorS (hK : StpC vd rg cc own K) {pc : Nat} {ls : Lc} {st : List Vl} {μ : α} {a b : Int} (hd : decode cc pc = .ok (.ixor, 1)) (ha : -2147483648 ≤ a ∧ a ≤ 2147483647) (hb : 0 ≤ b ∧ b ≤ 2147483647) (k : ∀ v : Int, (-2147483648 ≤ v ∧ v ≤ 2147483647) → (v < 0 ↔ a < 0) → K (pc + 1) ls (vI v :: st) μ) : K pc ls (vI b :: vI a :: st) μ := r_ixor hK hd (k _ (inR_le (inR_of _)) (ixor_sign ⟨ha.1, by omega⟩ ⟨by omega, by omega⟩ hb.1))
theorem r_ishlG (hK : StpC vd rg cc own K) {pc : Nat} {ls : Lc} {st : List Vl} {μ : α} {a b : Int} (hd : decode cc pc = .ok (.ishl, 1)) (k : ∀ v : Int, (-2147483648 ≤ v ∧ v ≤ 2147483647) → K (pc + 1) ls (vI v :: st) μ) : K pc ls (vI b :: vI a :: st) μ := r_ishl hK hd (k _ (inR_le (inR_of _)))
theorem r_ishrG (hK : StpC vd rg cc own K) {pc : Nat} {ls : Lc} {st : List Vl} {μ : α} {a b : Int} (hd : decode cc pc = .ok (.ishr, 1)) (k : ∀ v : Int, (-2147483648 ≤ v ∧ v ≤ 2147483647) → K (pc + 1) ls (vI v :: st) μ) : K pc ls (vI b :: vI a :: st) μ := r_ishr hK hd (k _ (inR_le (inR_of _)))
theorem r_iushrG (hK : StpC vd rg cc own K) {pc : Nat} {ls : Lc} {st : List Vl} {μ : α} {a b : Int} (hd : decode cc pc = .ok (.iushr, 1)) (k : ∀ v : Int, (-2147483648 ≤ v ∧ v ≤ 2147483647) → K (pc + 1) ls (vI v :: st) μ) : K pc ls (vI b :: vI a :: st) μ := r_iushr hK hd (k _ (inR_le (inR_of _)))
theorem r_idivG (hK : StpC vd rg cc own K) {pc : Nat} {ls : Lc} {st : List Vl} {μ : α} {a b : Int} (hd : decode cc pc = .ok (.idiv, 1)) (ha : -2147483648 ≤ a ∧ a ≤ 2147483647) (hb : 0 < b) (k : ∀ v : Int, (-2147483648 ≤ v ∧ v ≤ 2147483647) → K (pc + 1) ls (vI v :: st) μ) : K pc ls (vI b :: vI a :: st) μ := r_idiv hK hd hb (k _ (inR_le (tdiv_inR ⟨ha.1, by omega⟩ hb)))
theorem r_iremG (hK : StpC vd rg cc own K) {pc : Nat} {ls : Lc} {st : List Vl} {μ : α} {a b : Int} (hd : decode cc pc = .ok (.irem, 1)) (hb : 0 < b) (k : ∀ v : Int, (-b < v ∧ v < b) → (0 ≤ a → 0 ≤ v) → (a ≤ 0 → v ≤ 0) → K (pc + 1) ls (vI v :: st) μ) : K pc ls (vI b :: vI a :: st) μ := by
  have h3 : (-a).tmod b = -(a.tmod b) := Int.neg_tmod a b
  refine r_irem hK hd hb (k _ ⟨?_, Int.tmod_lt_of_pos a hb⟩ (fun h => Int.tmod_nonneg _ h) (fun h => ?_))
  · have h4 := Int.tmod_lt_of_pos (-a) hb
    omega
  · have h4 := Int.tmod_nonneg b (a := -a) (by omega)
    omega
theorem r_iremP (hK : StpC vd rg cc own K) {pc : Nat} {ls : Lc} {st : List Vl} {μ : α} {a b : Int} (hd : decode cc pc = .ok (.irem, 1)) (ha : 0 ≤ a) (hb : 0 < b) (k : ∀ v : Int, (0 ≤ v ∧ v < b) → K (pc + 1) ls (vI v :: st) μ) : K pc ls (vI b :: vI a :: st) μ := r_irem hK hd hb (k _ ⟨Int.tmod_nonneg _ ha, Int.tmod_lt_of_pos a hb⟩)
theorem r_idivN (hK : StpC vd rg cc own K) {pc : Nat} {ls : Lc} {st : List Vl} {μ : α} {a b : Int} (hd : decode cc pc = .ok (.idiv, 1)) (ha : 0 ≤ a) (hb : 0 < b) (k : K (pc + 1) ls (vI (a / b) :: st) μ) : K pc ls (vI b :: vI a :: st) μ := r_idiv hK hd hb (by rw [Int.tdiv_eq_ediv_of_nonneg ha]; exact k)
theorem r_iremN (hK : StpC vd rg cc own K) {pc : Nat} {ls : Lc} {st : List Vl} {μ : α} {a b : Int} (hd : decode cc pc = .ok (.irem, 1)) (ha : 0 ≤ a) (hb : 0 < b) (k : K (pc + 1) ls (vI (a % b) :: st) μ) : K pc ls (vI b :: vI a :: st) μ := r_irem hK hd hb (by rw [Int.tmod_eq_emod_of_nonneg ha]; exact k)
theorem r_lcmpG (hK : StpC vd rg cc own K) {pc : Nat} {ls : Lc} {st : List Vl} {μ : α} {a b : Int} (hd : decode cc pc = .ok (.lcmp, 1)) (k : ∀ v : Int, (-1 ≤ v ∧ v ≤ 1) → K (pc + 1) ls (vI v :: st) μ) : K pc ls (vL b :: vL a :: st) μ := r_lcmp hK hd (k _ (by
  unfold lcmp
  split
  · omega
  · split <;> omega))
theorem r_rngz (hK : StpC (fun _ => vld) rg cc own K) {pc : Nat} {ls : Lc} {st : List Vl} {μ : α} (k : (∀ v : Vl, some v ∈ ls → rV vld v) → K pc ls st μ) : K pc ls st μ := r_rng hK (fun _ g => k g)
end GROWS
-- memories that differ at certain places alone
def Gx (S : Nat → Int → Int → Prop) (σ ρ : Mm) : Prop := ∀ (c : Nat) (x y : Int), ¬ S c x y → ρ c x y = σ c x y
abbrev Al1 (σ ρ : Mm) (k : Nat) (i j : Int) : Prop := ∀ (c : Nat) (x y : Int), ¬ (c = k ∧ x = i ∧ y = j) → ρ c x y = σ c x y
theorem Gx.rf {S : Nat → Int → Int → Prop} {σ : Mm} : Gx S σ σ := fun _ _ _ _ => rfl
theorem Gx.al {S : Nat → Int → Int → Prop} {σ ρ ρ2 : Mm} {k : Nat} {i j : Int} (h : Gx S σ ρ) (a : Al1 ρ ρ2 k i j) (hs : S k i j) : Gx S σ ρ2 := fun c x y q => (a c x y (by rintro ⟨rfl, rfl, rfl⟩; exact q hs)).trans (h c x y q)
theorem Gx.gx {S T : Nat → Int → Int → Prop} {σ ρ ρ2 : Mm} (h : Gx S σ ρ) (a : Gx T ρ ρ2) (hs : ∀ c x y, T c x y → S c x y) : Gx S σ ρ2 := fun c x y q => (a c x y (fun t => q (hs c x y t))).trans (h c x y q)
section GX
variable {e : Ev} {cc : ByteArray} {own : String} {Cal : Nat → List Vl → Mm → (Option Vl → Mm → Prop) → Prop} {K : Nat → Lc → List Vl → Mm → Prop}
theorem z_putIG (hK : StpZ e cc own Cal K) {pc : Nat} {ls : Lc} {st : List Vl} {σ : Mm} {k : Nat} {i a jz : Int} {idx ci j : Nat} (hd : decode cc pc = .ok (.putfield idx, 3)) (hf : FLw own idx ci j .int) (hk : kd k = (0, ci)) (hr : rff k i j = none) (hz : (j : Int) = jz) (h2 : Tl e k jz) (h3 : Okv k jz a) (k_ : ∀ ρ : Mm, Al1 σ ρ k i jz → ρ k i jz = a → K (pc + 3) ls st ρ) : K pc ls (vI a :: vR k i :: st) σ := z_putIT hK hd hf hk hr hz h2 h3 (k_ _ (fun _ _ _ h => mu_ne h) (mu_self _ _ _ _ _))
theorem z_putZG (hK : StpZ e cc own Cal K) {pc : Nat} {ls : Lc} {st : List Vl} {σ : Mm} {k : Nat} {i a jz : Int} {idx ci j : Nat} (hd : decode cc pc = .ok (.putfield idx, 3)) (hf : FLw own idx ci j .boolean) (hk : kd k = (0, ci)) (hr : rff k i j = none) (hz : (j : Int) = jz) (ha : a = 0 ∨ a = 1) (h2 : Tl e k jz) (h3 : Okv k jz a) (k_ : ∀ ρ : Mm, Al1 σ ρ k i jz → ρ k i jz = a → K (pc + 3) ls st ρ) : K pc ls (vI a :: vR k i :: st) σ := z_putZT hK hd hf hk hr hz ha h2 h3 (k_ _ (fun _ _ _ h => mu_ne h) (mu_self _ _ _ _ _))
theorem z_iastG (hK : StpZ e cc own Cal K) {pc : Nat} {ls : Lc} {st : List Vl} {σ : Mm} {k : Nat} {i j a : Int} {n : Nat} (hd : decode cc pc = .ok (.iastore, 1)) (hk : kd k = (1, n)) (h0 : 0 ≤ j) (h1 : j < (n : Int)) (h2 : Tl e k j) (h3 : Okv k j a) (k_ : ∀ ρ : Mm, Al1 σ ρ k i j → ρ k i j = a → K (pc + 1) ls st ρ) : K pc ls (vI a :: vI j :: vR k i :: st) σ := z_iastT hK hd hk h0 h1 h2 h3 (k_ _ (fun _ _ _ h => mu_ne h) (mu_self _ _ _ _ _))
end GX
theorem InL.h7 {σ : Mm} (h : InL σ) {i : Int} (h0 : 0 ≤ i) (h1 : i < 7) : 0 ≤ σ 7 i 6 ∧ σ 7 i 6 ≤ 120 := by
  have := h.1 i h0 h1
  unfold Rst at this
  omega
theorem InL.put {σ ρ : Mm} (h : InL σ) {i : Int} (a : Al1 σ ρ 7 i 6) (r : Rst (σ 7 i 3) (σ 7 i 4) (ρ 7 i 6)) : InL ρ := by
  refine ⟨fun x h0 h1 => ?_, fun l h0 h1 => ?_⟩
  · rw [a 7 x 3 (by omega), a 7 x 4 (by omega)]
    by_cases hx : x = i
    · subst hx; exact r
    · rw [a 7 x 6 (by omega)]
      exact h.1 x h0 h1
  · rw [a 31 _ _ (by omega), a 31 _ _ (by omega), a 31 _ _ (by omega)]
    exact h.2 l h0 h1
/-- as Gx, and the lanes at rest -/
def GL (S : Nat → Int → Int → Prop) (σ ρ : Mm) : Prop := Gx S σ ρ ∧ InL ρ
theorem GL.put {S : Nat → Int → Int → Prop} {σ ρ ρ2 : Mm} (h : GL S σ ρ) {i : Int} (hs : S 7 i 6) (a : Al1 ρ ρ2 7 i 6) (r : Rst (ρ 7 i 3) (ρ 7 i 4) (ρ2 7 i 6)) : GL S σ ρ2 := ⟨h.1.al a hs, h.2.put a r⟩
theorem GL.drop {S : Nat → Int → Int → Prop} {σ ρ ρ2 : Mm} (h : GL S σ ρ) {i : Int} (hs : S 7 i 6) (a : Al1 ρ ρ2 7 i 6) (h0 : 0 ≤ i) (h1 : i < 7) (r : ρ2 7 i 6 = ρ 7 i 6 - 1) (r1 : 1 ≤ ρ 7 i 6) : GL S σ ρ2 := h.put hs a (by
  have := h.2.1 i h0 h1
  unfold Rst at this ⊢
  omega)
theorem GL.gl {S T : Nat → Int → Int → Prop} {σ ρ ρ2 : Mm} (h : GL S σ ρ) (g : GL T ρ ρ2) (hs : ∀ c x y, T c x y → S c x y) : GL S σ ρ2 := ⟨h.1.gx g.1 hs, g.2⟩
theorem mul_bd {a b A B : Int} (h0 : 0 ≤ a) (h1 : a ≤ A) (h2 : -B ≤ b) (h3 : b ≤ B) : -(A * B) ≤ a * b ∧ a * b ≤ A * B := by
  have hB : 0 ≤ B := by omega
  have q1 := Int.mul_le_mul_of_nonneg_left h3 h0
  have q2 := Int.mul_le_mul_of_nonneg_left h2 h0
  have q3 := Int.mul_le_mul_of_nonneg_right h1 hB
  rw [Int.mul_neg] at q2
  omega
theorem mul_bd2 {a b A B : Int} (h0 : 0 ≤ a) (h1 : a ≤ A) (h2 : -B ≤ b) (h3 : b ≤ B) : -(A * B) ≤ b * a ∧ b * a ≤ A * B := by
  rw [Int.mul_comm b a]
  exact mul_bd h0 h1 h2 h3
theorem GL.rf {S : Nat → Int → Int → Prop} {σ : Mm} (h : InL σ) : GL S σ σ := ⟨Gx.rf, h⟩
theorem InL.h31 {σ : Mm} (h : InL σ) {l : Int} (h0 : 0 ≤ l) (h1 : l < 8) : 0 ≤ σ 31 0 (22 * l + 5) ∧ σ 31 0 (22 * l + 5) ≤ 120 := by
  have := h.2 l h0 h1
  unfold Rst at this
  omega
theorem mul_nn {a b A B : Int} (h0 : 0 ≤ a) (h1 : a ≤ A) (h2 : 0 ≤ b) (h3 : b ≤ B) : 0 ≤ a * b ∧ a * b ≤ A * B := by
  have q1 := Int.mul_le_mul_of_nonneg_left h3 h0
  have q3 := Int.mul_le_mul_of_nonneg_right h1 (show 0 ≤ B by omega)
  have q0 := Int.mul_nonneg h0 h2
  omega
theorem InL.put31 {σ ρ : Mm} (h : InL σ) {l : Int} (a : Al1 σ ρ 31 0 (22 * l + 5)) (r : Rst (σ 31 0 (22 * l + 2)) (σ 31 0 (22 * l + 3)) (ρ 31 0 (22 * l + 5))) : InL ρ := by
  refine ⟨fun x h0 h1 => ?_, fun x h0 h1 => ?_⟩
  · rw [a 7 _ _ (by omega), a 7 _ _ (by omega), a 7 _ _ (by omega)]
    exact h.1 x h0 h1
  · rw [a 31 0 (22 * x + 2) (by omega), a 31 0 (22 * x + 3) (by omega)]
    by_cases hx : x = l
    · subst hx; exact r
    · rw [a 31 0 (22 * x + 5) (by omega)]
      exact h.2 x h0 h1
theorem GL.put31 {S : Nat → Int → Int → Prop} {σ ρ ρ2 : Mm} (h : GL S σ ρ) {l : Int} (hs : S 31 0 (22 * l + 5)) (a : Al1 ρ ρ2 31 0 (22 * l + 5)) (r : Rst (ρ 31 0 (22 * l + 2)) (ρ 31 0 (22 * l + 3)) (ρ2 31 0 (22 * l + 5))) : GL S σ ρ2 := ⟨h.1.al a hs, h.2.put31 a r⟩
theorem GL.drop31 {S : Nat → Int → Int → Prop} {σ ρ ρ2 : Mm} (h : GL S σ ρ) {l : Int} (hs : S 31 0 (22 * l + 5)) (a : Al1 ρ ρ2 31 0 (22 * l + 5)) (h0 : 0 ≤ l) (h1 : l < 8) (r : ρ2 31 0 (22 * l + 5) = ρ 31 0 (22 * l + 5) - 1) (r1 : 1 ≤ ρ 31 0 (22 * l + 5)) : GL S σ ρ2 := h.put31 hs a (by
  have := h.2.2 l h0 h1
  unfold Rst at this ⊢
  omega)
theorem cpy_zero {τ : Mm} {c0 c1 : Nat} {i0 i1 sp dp : Int} : cpy τ c0 i0 sp c1 i1 dp 0 = τ := by
  funext c i j
  unfold cpy
  rw [if_neg (by omega)]
theorem cpy_succ {τ : Mm} {c0 c1 : Nat} {i0 i1 sp dp n : Int} (h : 0 ≤ n) : cpy τ c0 i0 sp c1 i1 dp (n + 1) = mu (cpy τ c0 i0 sp c1 i1 dp n) c1 i1 (dp + n) (τ c0 i0 (sp + n)) := by
  funext c i j
  unfold mu cpy
  by_cases hj : c = c1 ∧ i = i1 ∧ j = dp + n
  · obtain ⟨rfl, rfl, rfl⟩ := hj
    rw [if_pos (by omega), if_pos ⟨rfl, rfl, rfl⟩, show sp + (dp + n - dp) = sp + n from by omega]
  · rw [if_neg hj]
    by_cases hk : c = c1 ∧ i = i1 ∧ dp ≤ j ∧ j < dp + n
    · rw [if_pos hk, if_pos (by omega)]
    · rw [if_neg hk, if_neg (by omega)]
theorem cpy_off {τ : Mm} {c0 c1 : Nat} {i0 i1 sp dp n j : Int} (h : ¬ (dp ≤ j ∧ j < dp + n)) : cpy τ c0 i0 sp c1 i1 dp n c1 i1 j = τ c1 i1 j := if_neg (by omega)
theorem cpy_at {τ : Mm} {c0 c1 : Nat} {i0 i1 sp dp n f : Int} (h : 0 ≤ f ∧ f < n) : cpy τ c0 i0 sp c1 i1 dp n c1 i1 (dp + f) = τ c0 i0 (sp + f) := by
  unfold cpy
  rw [if_pos (by omega), show sp + (dp + f - dp) = sp + f from by omega]
theorem cpy_tried {σ : Mm} (h : InL σ) {l : Int} (h0 : 0 ≤ l) (h1 : l ≤ 6) : GL (fun c x y => c = 31 ∧ x = 0 ∧ 154 ≤ y) σ (cpy σ 31 0 (22 * l) 31 0 (22 * 7) 22) := by
  refine ⟨fun c x y q => if_neg (by omega), fun i g0 g1 => ?_, fun i g0 g1 => ?_⟩
  · have e : ∀ j : Int, cpy σ 31 0 (22 * l) 31 0 (22 * 7) 22 7 i j = σ 7 i j := fun j => if_neg (by omega)
    rw [e, e, e]
    exact h.1 i g0 g1
  · by_cases hi : i = 7
    · subst hi
      rw [cpy_at (by omega), cpy_at (by omega), cpy_at (by omega)]
      exact h.2 l h0 (by omega)
    · rw [cpy_off (by omega), cpy_off (by omega), cpy_off (by omega)]
      exact h.2 i g0 g1
theorem Gx.gx0 {S T : Nat → Int → Int → Prop} {σ ρ : Mm} (g : Gx T σ ρ) (hs : ∀ c x y, T c x y → S c x y) : Gx S σ ρ := fun c x y q => g c x y (fun t => q (hs c x y t))
theorem GL.gx {S T : Nat → Int → Int → Prop} {σ ρ ρ2 : Mm} (h : GL S σ ρ) (g : Gx T ρ ρ2) (hs : ∀ c x y, T c x y → S c x y) (hd : ∀ c x y, T c x y → ¬ DL c y) : GL S σ ρ2 := ⟨h.1.gx g hs, h.2.to fun c i j q => g c i j (fun t => hd c i j t q)⟩
theorem InL.lane {σ ρ : Mm} (h : InL σ) {i : Int} (h0 : 0 ≤ i) (h1 : i < 7) (g : ∀ (c : Nat) (x y : Int), ¬ (c = 7 ∧ x = i) → ρ c x y = σ c x y) (r : Rst (ρ 7 i 3) (ρ 7 i 4) (ρ 7 i 6)) : InL ρ := by
  refine ⟨fun x g0 g1 => ?_, fun x g0 g1 => ?_⟩
  · by_cases hx : x = i
    · subst hx; exact r
    · rw [g 7 x _ (by omega), g 7 x _ (by omega), g 7 x _ (by omega)]
      exact h.1 x g0 g1
  · rw [g 31 _ _ (by omega), g 31 _ _ (by omega), g 31 _ _ (by omega)]
    exact h.2 x g0 g1
theorem InL.lane31 {σ ρ : Mm} (h : InL σ) {l : Int} (g : ∀ (c : Nat) (x y : Int), ¬ (c = 31 ∧ x = 0 ∧ 22 * l ≤ y ∧ y < 22 * l + 22) → ρ c x y = σ c x y) (r : Rst (ρ 31 0 (22 * l + 2)) (ρ 31 0 (22 * l + 3)) (ρ 31 0 (22 * l + 5))) : InL ρ := by
  refine ⟨fun x g0 g1 => ?_, fun x g0 g1 => ?_⟩
  · rw [g 7 _ _ (by omega), g 7 _ _ (by omega), g 7 _ _ (by omega)]
    exact h.1 x g0 g1
  · by_cases hx : x = l
    · subst hx; exact r
    · rw [g 31 _ _ (by omega), g 31 _ _ (by omega), g 31 _ _ (by omega)]
      exact h.2 x g0 g1
/-- cells of numerals alone -/
theorem tb7_ {j : Int} (h : j ≠ 11) : Tb 7 j := h
theorem dl7_ {j : Int} (h : ¬ (j = 3 ∨ j = 4 ∨ j = 6)) : ¬ DL 7 j := h
theorem df14_ {j : Int} (h : j ≠ 5) : ¬ DF 14 j := h
-- ranges and words of the arithmetic, told whole
theorem iand_fr (a b : Int) : -2147483648 ≤ iand a b ∧ iand a b ≤ 2147483647 := inR_le (inR_of _)
theorem ior_fr (a b : Int) : -2147483648 ≤ ior a b ∧ ior a b ≤ 2147483647 := inR_le (inR_of _)
theorem ixor_fr (a b : Int) : -2147483648 ≤ ixor a b ∧ ixor a b ≤ 2147483647 := inR_le (inR_of _)
theorem ishl_fr (a b : Int) : -2147483648 ≤ ishl a b ∧ ishl a b ≤ 2147483647 := inR_le (inR_of _)
theorem ishr_fr (a b : Int) : -2147483648 ≤ ishr a b ∧ ishr a b ≤ 2147483647 := inR_le (inR_of _)
theorem iushr_fr (a b : Int) : -2147483648 ≤ iushr a b ∧ iushr a b ≤ 2147483647 := inR_le (inR_of _)
theorem emod_fr {a b : Int} (h : 0 < b) : 0 ≤ a % b ∧ a % b < b := ⟨Int.emod_nonneg a (by omega), Int.emod_lt_of_pos a h⟩
theorem tmod_fr {a b : Int} (h : 0 < b) : -b < Int.tmod a b ∧ Int.tmod a b < b ∧ (0 ≤ a → 0 ≤ Int.tmod a b) ∧ (a ≤ 0 → Int.tmod a b ≤ 0) := by
  have h3 : (-a).tmod b = -(a.tmod b) := Int.neg_tmod a b
  have h4 := Int.tmod_lt_of_pos (-a) h
  refine ⟨by omega, Int.tmod_lt_of_pos a h, fun q => Int.tmod_nonneg _ q, fun q => ?_⟩
  have h5 := Int.tmod_nonneg b (a := -a) (by omega)
  omega
theorem emod_tm {a b : Int} (h : 0 < b) : a % b = if Int.tmod a b < 0 then Int.tmod a b + b else Int.tmod a b := by
  by_cases h0 : 0 ≤ a
  · have := Int.tmod_nonneg b h0
    rw [if_neg (by omega), Int.tmod_eq_emod_of_nonneg h0]
  · have h1 := Int.tmod_eq_emod (a := a) (b := b)
    have h2 := emod_fr (a := a) h
    have h3 := (tmod_fr (a := a) h).2.2.2 (by omega)
    by_cases hz : Int.tmod a b < 0
    · rw [if_pos hz]
      have hn : ((b.natAbs : Nat) : Int) = b := by omega
      split at h1 <;> omega
    · rw [if_neg hz]
      have hn : ((b.natAbs : Nat) : Int) = b := by omega
      split at h1 <;> omega
def aptB (a b c d : Int) : Int := 1 + (if b = a then 0 else 1) + (if c = a ∨ c = b then 0 else 1) + (if d = a ∨ d = b ∨ d = c then 0 else 1)
theorem reach_fin : ∀ a b c d : Fin 4, (0 ≤ ior (ior (ior (ior 0 (ishl 1 (a.val : Int))) (ishl 1 (b.val : Int))) (ishl 1 (c.val : Int))) (ishl 1 (d.val : Int)) ∧ ior (ior (ior (ior 0 (ishl 1 (a.val : Int))) (ishl 1 (b.val : Int))) (ishl 1 (c.val : Int))) (ishl 1 (d.val : Int)) ≤ 15) ∧ ior (ior (ior (ior 0 (ishl 1 (a.val : Int))) (ishl 1 (b.val : Int))) (ishl 1 (c.val : Int))) (ishl 1 (d.val : Int)) % 2 + ior (ior (ior (ior 0 (ishl 1 (a.val : Int))) (ishl 1 (b.val : Int))) (ishl 1 (c.val : Int))) (ishl 1 (d.val : Int)) / 2 % 2 + ior (ior (ior (ior 0 (ishl 1 (a.val : Int))) (ishl 1 (b.val : Int))) (ishl 1 (c.val : Int))) (ishl 1 (d.val : Int)) / 4 % 2 + ior (ior (ior (ior 0 (ishl 1 (a.val : Int))) (ishl 1 (b.val : Int))) (ishl 1 (c.val : Int))) (ishl 1 (d.val : Int)) / 8 % 2 = aptB (a.val : Int) (b.val : Int) (c.val : Int) (d.val : Int) := by decide +kernel
theorem reach_ok {a b c d : Int} (ha : 0 ≤ a ∧ a ≤ 3) (hb : 0 ≤ b ∧ b ≤ 3) (hc : 0 ≤ c ∧ c ≤ 3) (hd : 0 ≤ d ∧ d ≤ 3) : 0 ≤ ior (ior (ior (ior 0 (ishl 1 a)) (ishl 1 b)) (ishl 1 c)) (ishl 1 d) ∧ ior (ior (ior (ior 0 (ishl 1 a)) (ishl 1 b)) (ishl 1 c)) (ishl 1 d) ≤ 15 ∧ ior (ior (ior (ior 0 (ishl 1 a)) (ishl 1 b)) (ishl 1 c)) (ishl 1 d) % 2 + ior (ior (ior (ior 0 (ishl 1 a)) (ishl 1 b)) (ishl 1 c)) (ishl 1 d) / 2 % 2 + ior (ior (ior (ior 0 (ishl 1 a)) (ishl 1 b)) (ishl 1 c)) (ishl 1 d) / 4 % 2 + ior (ior (ior (ior 0 (ishl 1 a)) (ishl 1 b)) (ishl 1 c)) (ishl 1 d) / 8 % 2 = aptB a b c d := by
  have h := reach_fin ⟨a.toNat, by omega⟩ ⟨b.toNat, by omega⟩ ⟨c.toNat, by omega⟩ ⟨d.toNat, by omega⟩
  simp only [Int.toNat_of_nonneg ha.1, Int.toNat_of_nonneg hb.1, Int.toNat_of_nonneg hc.1, Int.toNat_of_nonneg hd.1] at h
  exact ⟨h.1.1, h.1.2, h.2⟩
-- what a row of values comes to: v is the row, n how long it is
abbrev NO : Int := -2147483648
def gr (v : Int → Int) : Nat → Int × Int × Int
  | 0 => (0, 0, 0)
  | n + 1 => if n = 0 ∨ v n > (gr v n).1 then (v n, 1, (n : Int)) else if v n = (gr v n).1 then ((gr v n).1, (gr v n).2.1 + 1, (gr v n).2.2) else gr v n
def shr (v : Int → Int) : Nat → Int × Int
  | 0 => (0, 0)
  | n + 1 => ((Int.gcd (shr v n).1 (v n) : Int), (shr v n).2 + (if v n = 0 then 0 else 1))
def lin (v : Int → Int) : Nat → Int × Int
  | 0 => (1, 0)
  | n + 1 => ((v n % 997) * (lin v n).1 % 997, ((v n % 997) * (lin v n).2 + (7 * v n + 1) % 997) % 997)
/-- best, all, first, last -/
def rnn (v : Int → Int) : Nat → Int × Int × Int × Int
  | 0 => (0, 0, 0, 0)
  | n + 1 =>
    let a := (rnn v n).2.1 + v n
    let l := if n = 0 then v n else max ((rnn v n).2.2.2 + v n) (v n)
    (if n = 0 then v n else max (rnn v n).1 l, a, if n = 0 then v n else max (rnn v n).2.2.1 a, l)
def lnx (tl : Int → Int) (x a : Int) : Int := iand (ishr (tl (x % 8)) (2 * a)) 3
def ltr (tl : Int → Int) (v : Int → Int) (s : Int) : Nat → Int
  | 0 => s
  | n + 1 => lnx tl (v n) (ltr tl v s n)
/-- how many of four are apart -/
abbrev apt (a b c d : Int) : Int := aptB a b c d
/-- shut, open, couples, most -/
def nst (v : Int → Int) : Nat → Int × Int × Int × Int
  | 0 => (0, 0, 0, 0)
  | n + 1 =>
    let s := nst v n
    let t := if 0 ≤ v n then (s.1, s.2.1 + 1, s.2.2.1) else if 0 < s.2.1 then (s.1, s.2.1 - 1, s.2.2.1 + 1) else (s.1 + 1, s.2.1, s.2.2.1)
    (t.1, t.2.1, t.2.2, max s.2.2.2 (t.2.1 - t.1))
/-- longest, its, rows, first's length, last's length -/
def lke (v : Int → Int) : Nat → Int × Int × Int × Int × Int
  | 0 => (0, 0, 0, 0, 0)
  | n + 1 =>
    let s := lke v n
    let same : Bool := decide (0 < n) && decide (v n = v (n - 1))
    let l := if same then s.2.2.2.2 + 1 else 1
    let r := if same then s.2.2.1 else s.2.2.1 + 1
    (if l > s.1 then l else s.1, if l > s.1 then v n else s.2.1, r, if r = 1 then l else s.2.2.2.1, l)
/-- less, greater, most, rising -/
def stp (v : Int → Int) : Nat → Int × Int × Int × Int
  | 0 => (0, 0, 0, 0)
  | n + 1 =>
    let s := stp v n
    let f : Bool := decide (0 < n) && decide (v n < v (n - 1))
    let c : Bool := decide (0 < n) && decide (v n > v (n - 1))
    let r := if f then 1 else s.2.2.2 + 1
    (s.1 + (if f then 1 else 0), s.2.1 + (if c then 1 else 0), max s.2.2.1 r, r)
def spr (v : Int → Int) : Nat → Int × Int × Int
  | 0 => (NO, NO, 0)
  | n + 1 => (if 0 < v n ∧ ((spr v n).1 = NO ∨ v n < (spr v n).1) then v n else (spr v n).1, if v n < 0 ∧ (spr v n).2.1 < v n then v n else (spr v n).2.1, (spr v n).2.2 + (if v n = 0 then 1 else 0))
def tbl (tc : Int → Int) (v : Int → Int) : Nat → Int
  | 0 => 0
  | n + 1 => if n = 0 then v 0 % 4 else tc (4 * tbl tc v n + v n % 4)
/-- number k of a row by an operation -/
def cmN (tl tc : Int → Int) (o : Int) (v : Int → Int) (n : Nat) (k : Int) : Int :=
  if o = 0 then (if k = 0 then (gr v n).1 else if k = 1 then (gr v n).2.1 else if k = 2 then (gr v n).2.2 else (n : Int))
  else if o = 1 then (if k = 0 then (shr v n).1 else (shr v n).2)
  else if o = 2 then (if k = 0 then (lin v n).1 else (lin v n).2)
  else if o = 3 then (if k = 0 then (rnn v n).1 else if k = 1 then (rnn v n).2.1 else if k = 2 then (rnn v n).2.2.1 else (rnn v n).2.2.2)
  else if o = 4 then (if k = 4 then (if n = 0 then 0 else apt (ltr tl v 0 n) (ltr tl v 1 n) (ltr tl v 2 n) (ltr tl v 3 n)) else ltr tl v k n)
  else if o = 5 then (if k = 0 then (nst v n).1 else if k = 1 then (nst v n).2.1 else if k = 2 then (nst v n).2.2.1 else (nst v n).2.2.2)
  else if o = 6 then (if k = 0 then (lke v n).1 else if k = 1 then (lke v n).2.1 else if k = 2 then (lke v n).2.2.1 else if k = 3 then (lke v n).2.2.2.1 else if k = 4 then (lke v n).2.2.2.2 else if n = 0 then 0 else if k = 5 then v 0 else v (n - 1))
  else if o = 7 then (if k = 0 then (stp v n).1 else if k = 1 then (stp v n).2.1 else if k = 4 then (stp v n).2.2.1 else if n = 0 then 0 else if k = 2 then v 0 else v (n - 1))
  else if o = 8 then (if k = 0 then (spr v n).1 else if k = 1 then (spr v n).2.1 else (spr v n).2.2)
  else tbl tc v n
/-- a number of a row, or none -/
def cm (tl tc : Int → Int) (o : Int) (v : Int → Int) (n : Nat) (w : Int) : Int := if n = 0 ∨ ¬ (0 ≤ w ∧ w < numF o) then NO else cmN tl tc o v n w
-- only the row's own places count
section CONG
variable {v u : Int → Int}
theorem gr_c {n : Nat} (h : ∀ j : Int, 0 ≤ j → j < n → v j = u j) : gr v n = gr u n := by
  induction n with
  | zero => rfl
  | succ n ih =>
    have e := ih fun j h0 h1 => h j h0 (by omega)
    have q := h n (by omega) (by omega)
    unfold gr
    rw [e, q]
theorem shr_c {n : Nat} (h : ∀ j : Int, 0 ≤ j → j < n → v j = u j) : shr v n = shr u n := by
  induction n with
  | zero => rfl
  | succ n ih =>
    have e := ih fun j h0 h1 => h j h0 (by omega)
    have q := h n (by omega) (by omega)
    unfold shr
    rw [e, q]
theorem lin_c {n : Nat} (h : ∀ j : Int, 0 ≤ j → j < n → v j = u j) : lin v n = lin u n := by
  induction n with
  | zero => rfl
  | succ n ih =>
    have e := ih fun j h0 h1 => h j h0 (by omega)
    have q := h n (by omega) (by omega)
    unfold lin
    rw [e, q]
theorem rnn_c {n : Nat} (h : ∀ j : Int, 0 ≤ j → j < n → v j = u j) : rnn v n = rnn u n := by
  induction n with
  | zero => rfl
  | succ n ih =>
    have e := ih fun j h0 h1 => h j h0 (by omega)
    have q := h n (by omega) (by omega)
    unfold rnn
    rw [e, q]
theorem ltr_c {tl : Int → Int} {s : Int} {n : Nat} (h : ∀ j : Int, 0 ≤ j → j < n → v j = u j) : ltr tl v s n = ltr tl u s n := by
  induction n with
  | zero => rfl
  | succ n ih =>
    have e := ih fun j h0 h1 => h j h0 (by omega)
    have q := h n (by omega) (by omega)
    unfold ltr
    rw [e, q]
theorem nst_c {n : Nat} (h : ∀ j : Int, 0 ≤ j → j < n → v j = u j) : nst v n = nst u n := by
  induction n with
  | zero => rfl
  | succ n ih =>
    have e := ih fun j h0 h1 => h j h0 (by omega)
    have q := h n (by omega) (by omega)
    unfold nst
    rw [e, q]
theorem lke_c {n : Nat} (h : ∀ j : Int, 0 ≤ j → j < n → v j = u j) : lke v n = lke u n := by
  induction n with
  | zero => rfl
  | succ n ih =>
    have e := ih fun j h0 h1 => h j h0 (by omega)
    have q := h n (by omega) (by omega)
    by_cases hn : n = 0
    · subst hn
      unfold lke
      rw [e, q]
      rfl
    · have q2 := h (n - 1) (by omega) (by omega)
      unfold lke
      rw [e, q, q2]
theorem stp_c {n : Nat} (h : ∀ j : Int, 0 ≤ j → j < n → v j = u j) : stp v n = stp u n := by
  induction n with
  | zero => rfl
  | succ n ih =>
    have e := ih fun j h0 h1 => h j h0 (by omega)
    have q := h n (by omega) (by omega)
    by_cases hn : n = 0
    · subst hn
      unfold stp
      rw [e, q]
      rfl
    · have q2 := h (n - 1) (by omega) (by omega)
      unfold stp
      rw [e, q, q2]
theorem spr_c {n : Nat} (h : ∀ j : Int, 0 ≤ j → j < n → v j = u j) : spr v n = spr u n := by
  induction n with
  | zero => rfl
  | succ n ih =>
    have e := ih fun j h0 h1 => h j h0 (by omega)
    have q := h n (by omega) (by omega)
    unfold spr
    rw [e, q]
theorem tbl_c {tc : Int → Int} {n : Nat} (h : ∀ j : Int, 0 ≤ j → j < n → v j = u j) : tbl tc v n = tbl tc u n := by
  induction n with
  | zero => rfl
  | succ n ih =>
    have e := ih fun j h0 h1 => h j h0 (by omega)
    have q := h n (by omega) (by omega)
    have q0 := h 0 (by omega) (by omega)
    unfold tbl
    rw [e, q, q0]
theorem cmN_c {tl tc : Int → Int} {o k : Int} {n : Nat} (h : ∀ j : Int, 0 ≤ j → j < n → v j = u j) : cmN tl tc o v n k = cmN tl tc o u n k := by
  unfold cmN
  rw [gr_c h, shr_c h, lin_c h, rnn_c h, ltr_c (s := 0) h, ltr_c (s := 1) h, ltr_c (s := 2) h, ltr_c (s := 3) h, ltr_c (s := k) h, nst_c h, lke_c h, stp_c h, spr_c h, tbl_c h]
  by_cases hn : n = 0
  · subst hn
    rfl
  · rw [h 0 (by omega) (by omega), h (n - 1) (by omega) (by omega)]
theorem cm_c {tl tc : Int → Int} {o w : Int} {n : Nat} (h : ∀ j : Int, 0 ≤ j → j < n → v j = u j) : cm tl tc o v n w = cm tl tc o u n w := by
  unfold cm
  rw [cmN_c h]
end CONG
-- the same told in other words: as one goes through the whole row again
theorem gr_top (v : Int → Int) : ∀ n : Nat, 1 ≤ n → v (gr v n).2.2 = (gr v n).1 ∧ 0 ≤ (gr v n).2.2 ∧ (gr v n).2.2 < n ∧ ∀ j : Int, 0 ≤ j → j < n → v j ≤ (gr v n).1
  | 0, h => by omega
  | 1, _ => by
    refine ⟨rfl, Int.le_refl _, by show (0 : Int) < 1; omega, fun j h0 h1 => ?_⟩
    have e : j = 0 := by omega
    subst e
    exact Int.le_refl _
  | n + 2, _ => by
    obtain ⟨i1, i2, i3, i4⟩ := gr_top v (n + 1) (by omega)
    have e : gr v (n + 2) = (if n + 1 = 0 ∨ v ((n + 1 : Nat) : Int) > (gr v (n + 1)).1 then (v ((n + 1 : Nat) : Int), 1, ((n + 1 : Nat) : Int)) else if v ((n + 1 : Nat) : Int) = (gr v (n + 1)).1 then ((gr v (n + 1)).1, (gr v (n + 1)).2.1 + 1, (gr v (n + 1)).2.2) else gr v (n + 1)) := rfl
    rw [e]
    by_cases h1 : n + 1 = 0 ∨ v ((n + 1 : Nat) : Int) > (gr v (n + 1)).1
    · rw [if_pos h1]
      refine ⟨rfl, by show (0 : Int) ≤ ((n + 1 : Nat) : Int); omega, by show ((n + 1 : Nat) : Int) < _; omega, fun j h0 h2 => ?_⟩
      by_cases hj : j = ((n + 1 : Nat) : Int)
      · subst hj; exact Int.le_refl _
      · have := i4 j h0 (by omega)
        show v j ≤ v ((n + 1 : Nat) : Int)
        omega
    · rw [if_neg h1]
      have hj : ∀ j : Int, 0 ≤ j → j < ((n + 2 : Nat) : Int) → v j ≤ (gr v (n + 1)).1 := fun j h0 h2 => by
        by_cases hj : j = ((n + 1 : Nat) : Int)
        · subst hj; omega
        · exact i4 j h0 (by omega)
      by_cases h2 : v ((n + 1 : Nat) : Int) = (gr v (n + 1)).1
      · rw [if_pos h2]
        exact ⟨i1, i2, by show (gr v (n + 1)).2.2 < _; omega, hj⟩
      · rw [if_neg h2]
        exact ⟨i1, i2, by omega, hj⟩
theorem gr_step (v : Int → Int) (n : Nat) : (gr v (n + 1)).2.2 = if v n > v (gr v n).2.2 then (n : Int) else (gr v n).2.2 := by
  have e : gr v (n + 1) = (if n = 0 ∨ v n > (gr v n).1 then (v n, 1, (n : Int)) else if v n = (gr v n).1 then ((gr v n).1, (gr v n).2.1 + 1, (gr v n).2.2) else gr v n) := rfl
  by_cases hn : n = 0
  · subst hn
    show (0 : Int) = if v ((0 : Nat) : Int) > v 0 then ((0 : Nat) : Int) else 0
    split <;> rfl
  · have h := (gr_top v n (by omega)).1
    rw [e, h]
    by_cases h1 : v n > (gr v n).1
    · rw [if_pos (Or.inr h1), if_pos h1]
    · rw [if_neg (by omega), if_neg h1]
      split <;> rfl
def cnE (v : Int → Int) (m : Int) : Nat → Int
  | 0 => 0
  | n + 1 => cnE v m n + (if v n = m then 1 else 0)
theorem cnE_no {v : Int → Int} {m : Int} : ∀ n : Nat, (∀ j : Int, 0 ≤ j → j < n → v j ≠ m) → cnE v m n = 0
  | 0, _ => rfl
  | n + 1, h => by
    show cnE v m n + (if v n = m then 1 else 0) = 0
    rw [cnE_no n fun j h0 h1 => h j h0 (by omega), if_neg (h n (by omega) (by omega))]
    rfl
theorem gr_cnt (v : Int → Int) : ∀ n : Nat, 1 ≤ n → cnE v (gr v n).1 n = (gr v n).2.1
  | 0, h => by omega
  | 1, _ => by
    show (0 : Int) + (if v ((0 : Nat) : Int) = v ((0 : Nat) : Int) then 1 else 0) = 1
    rw [if_pos rfl]
    rfl
  | n + 2, _ => by
    have ih := gr_cnt v (n + 1) (by omega)
    have ht := (gr_top v (n + 1) (by omega)).2.2.2
    have e : gr v (n + 2) = (if n + 1 = 0 ∨ v ((n + 1 : Nat) : Int) > (gr v (n + 1)).1 then (v ((n + 1 : Nat) : Int), 1, ((n + 1 : Nat) : Int)) else if v ((n + 1 : Nat) : Int) = (gr v (n + 1)).1 then ((gr v (n + 1)).1, (gr v (n + 1)).2.1 + 1, (gr v (n + 1)).2.2) else gr v (n + 1)) := rfl
    rw [e]
    by_cases h1 : n + 1 = 0 ∨ v ((n + 1 : Nat) : Int) > (gr v (n + 1)).1
    · rw [if_pos h1]
      show cnE v (v ((n + 1 : Nat) : Int)) (n + 1) + (if v ((n + 1 : Nat) : Int) = v ((n + 1 : Nat) : Int) then 1 else 0) = 1
      rw [cnE_no (n + 1) fun j h0 h2 => by have := ht j h0 h2; omega, if_pos rfl]
      rfl
    · rw [if_neg h1]
      by_cases h2 : v ((n + 1 : Nat) : Int) = (gr v (n + 1)).1
      · rw [if_pos h2]
        show cnE v (gr v (n + 1)).1 (n + 1) + (if v ((n + 1 : Nat) : Int) = (gr v (n + 1)).1 then 1 else 0) = (gr v (n + 1)).2.1 + 1
        rw [if_pos h2, ih]
      · rw [if_neg h2]
        show cnE v (gr v (n + 1)).1 (n + 1) + (if v ((n + 1 : Nat) : Int) = (gr v (n + 1)).1 then 1 else 0) = (gr v (n + 1)).2.1
        rw [if_neg h2, ih]
        omega
theorem gcd_st {x y : Int} (h0 : 0 ≤ x) (h1 : 0 < y) : Int.gcd y (x % y) = Int.gcd x y := by
  obtain ⟨a, rfl⟩ := Int.eq_ofNat_of_zero_le h0
  obtain ⟨b, rfl⟩ := Int.eq_ofNat_of_zero_le (Int.le_of_lt h1)
  show Nat.gcd b (a % b) = Nat.gcd a b
  rw [Nat.gcd_comm a b, Nat.gcd_rec b a, Nat.gcd_comm]
theorem gcd_ab {x y z : Int} (h : y = z ∨ y = -z) : Int.gcd x y = Int.gcd x z := by
  rcases h with rfl | rfl
  · rfl
  · exact Int.gcd_neg
theorem gcd_z {x : Int} (h : 0 ≤ x) : ((Int.gcd x 0 : Nat) : Int) = x := by
  rw [Int.gcd_zero_right]
  omega
theorem shr_pos (v : Int → Int) : ∀ n : Nat, 0 ≤ (shr v n).1
  | 0 => Int.le_refl _
  | n + 1 => by show (0 : Int) ≤ ((Int.gcd (shr v n).1 (v n) : Nat) : Int); omega
/-- sums of neighbours: m of them from i on -/
def sm (v : Int → Int) (i : Int) : Nat → Int
  | 0 => 0
  | m + 1 => sm v i m + v (i + m)
theorem rnn_spec (v : Int → Int) : ∀ n : Nat, 1 ≤ n →
    (rnn v n).2.1 = sm v 0 n ∧
    ((∀ m : Nat, 1 ≤ m → m ≤ n → sm v 0 m ≤ (rnn v n).2.2.1) ∧ ∃ m : Nat, 1 ≤ m ∧ m ≤ n ∧ sm v 0 m = (rnn v n).2.2.1) ∧
    ((∀ m : Nat, 1 ≤ m → m ≤ n → sm v (n - m) m ≤ (rnn v n).2.2.2) ∧ ∃ m : Nat, 1 ≤ m ∧ m ≤ n ∧ sm v (n - m) m = (rnn v n).2.2.2) ∧
    ((∀ (i m : Nat), 1 ≤ m → i + m ≤ n → sm v i m ≤ (rnn v n).1) ∧ ∃ (i m : Nat), 1 ≤ m ∧ i + m ≤ n ∧ sm v i m = (rnn v n).1)
  | 0, h => by omega
  | 1, _ => by
    have e : rnn v 1 = (v 0, 0 + v 0, v 0, v 0) := rfl
    have s1 : ∀ m : Nat, 1 ≤ m → m ≤ 1 → sm v 0 m = v 0 := fun m h0 h1 => by
      obtain rfl : m = 1 := by omega
      show (0 : Int) + v (0 + ((0 : Nat) : Int)) = v 0
      simp
    rw [e]
    refine ⟨?_, ⟨fun m h0 h1 => ?_, 1, by omega, by omega, ?_⟩, ⟨fun m h0 h1 => ?_, 1, by omega, by omega, ?_⟩, ⟨fun i m h0 h1 => ?_, 0, 1, by omega, by omega, ?_⟩⟩
    · show (0 : Int) + v 0 = 0 + v (0 + ((0 : Nat) : Int))
      simp
    · rw [s1 m h0 h1]; exact Int.le_refl _
    · exact s1 1 (by omega) (by omega)
    · obtain rfl : m = 1 := by omega
      rw [show (((1 : Nat) : Int) - ((1 : Nat) : Int)) = 0 from rfl, s1 1 (by omega) (by omega)]; exact Int.le_refl _
    · rw [show (((1 : Nat) : Int) - ((1 : Nat) : Int)) = 0 from rfl]; exact s1 1 (by omega) (by omega)
    · obtain rfl : m = 1 := by omega
      obtain rfl : i = 0 := by omega
      show sm v 0 1 ≤ v 0
      rw [s1 1 (by omega) (by omega)]; exact Int.le_refl _
    · exact s1 1 (by omega) (by omega)
  | n + 2, _ => by
    obtain ⟨a1, ⟨f1, fm, f2, f3, f4⟩, ⟨l1, lm, l2, l3, l4⟩, ⟨b1, bi, bm, b2, b3, b4⟩⟩ := rnn_spec v (n + 1) (by omega)
    have e : rnn v (n + 2) = (max (rnn v (n + 1)).1 (max ((rnn v (n + 1)).2.2.2 + v ((n + 1 : Nat) : Int)) (v ((n + 1 : Nat) : Int))), (rnn v (n + 1)).2.1 + v ((n + 1 : Nat) : Int), max (rnn v (n + 1)).2.2.1 ((rnn v (n + 1)).2.1 + v ((n + 1 : Nat) : Int)), max ((rnn v (n + 1)).2.2.2 + v ((n + 1 : Nat) : Int)) (v ((n + 1 : Nat) : Int))) := rfl
    have sl : ∀ m : Nat, m ≤ n + 1 → sm v ((n + 2 : Nat) - ((m + 1 : Nat) : Int)) (m + 1) = sm v ((n + 1 : Nat) - (m : Int)) m + v ((n + 1 : Nat) : Int) := fun m hm => by
      show sm v ((n + 2 : Nat) - ((m + 1 : Nat) : Int)) m + v ((n + 2 : Nat) - ((m + 1 : Nat) : Int) + (m : Int)) = _
      rw [show ((n + 2 : Nat) : Int) - ((m + 1 : Nat) : Int) = ((n + 1 : Nat) : Int) - (m : Int) from by omega, show ((n + 1 : Nat) : Int) - (m : Int) + (m : Int) = ((n + 1 : Nat) : Int) from by omega]
    have s0 : sm v 0 (n + 2) = sm v 0 (n + 1) + v ((n + 1 : Nat) : Int) := by
      show sm v 0 (n + 1) + v (0 + ((n + 1 : Nat) : Int)) = _
      rw [Int.zero_add]
    have last : (∀ m : Nat, 1 ≤ m → m ≤ n + 2 → sm v ((n + 2 : Nat) - (m : Int)) m ≤ max ((rnn v (n + 1)).2.2.2 + v ((n + 1 : Nat) : Int)) (v ((n + 1 : Nat) : Int))) ∧ ∃ m : Nat, 1 ≤ m ∧ m ≤ n + 2 ∧ sm v ((n + 2 : Nat) - (m : Int)) m = max ((rnn v (n + 1)).2.2.2 + v ((n + 1 : Nat) : Int)) (v ((n + 1 : Nat) : Int)) := by
      refine ⟨fun m h0 h1 => ?_, ?_⟩
      · obtain ⟨k, rfl⟩ : ∃ k, m = k + 1 := ⟨m - 1, by omega⟩
        rw [sl k (by omega)]
        by_cases hk : k = 0
        · subst hk
          show (0 : Int) + _ ≤ _
          omega
        · have := l1 k (by omega) (by omega)
          omega
      · by_cases hp : 0 ≤ (rnn v (n + 1)).2.2.2
        · refine ⟨lm + 1, by omega, by omega, ?_⟩
          rw [sl lm (by omega), l4]
          omega
        · refine ⟨1, by omega, by omega, ?_⟩
          rw [sl 0 (by omega)]
          show (0 : Int) + _ = _
          omega
    rw [e]
    refine ⟨?_, ⟨fun m h0 h1 => ?_, ?_⟩, last, ⟨fun i m h0 h1 => ?_, ?_⟩⟩
    · show (rnn v (n + 1)).2.1 + v ((n + 1 : Nat) : Int) = _
      rw [s0, a1]
    · show _ ≤ max (rnn v (n + 1)).2.2.1 ((rnn v (n + 1)).2.1 + v ((n + 1 : Nat) : Int))
      by_cases hm : m = n + 2
      · subst hm
        rw [s0, a1]
        omega
      · have := f1 m h0 (by omega)
        omega
    · show ∃ m : Nat, 1 ≤ m ∧ m ≤ n + 2 ∧ sm v 0 m = max (rnn v (n + 1)).2.2.1 ((rnn v (n + 1)).2.1 + v ((n + 1 : Nat) : Int))
      by_cases hp : (rnn v (n + 1)).2.2.1 ≥ (rnn v (n + 1)).2.1 + v ((n + 1 : Nat) : Int)
      · exact ⟨fm, by omega, by omega, by omega⟩
      · refine ⟨n + 2, by omega, by omega, ?_⟩
        rw [s0, a1]
        omega
    · show sm v i m ≤ max (rnn v (n + 1)).1 (max ((rnn v (n + 1)).2.2.2 + v ((n + 1 : Nat) : Int)) (v ((n + 1 : Nat) : Int)))
      by_cases hm : i + m = n + 2
      · have := last.1 m h0 (by omega)
        rw [show ((n + 2 : Nat) : Int) - (m : Int) = (i : Int) from by omega] at this
        omega
      · have := b1 i m h0 (by omega)
        omega
    · show ∃ (i m : Nat), 1 ≤ m ∧ i + m ≤ n + 2 ∧ sm v i m = max (rnn v (n + 1)).1 (max ((rnn v (n + 1)).2.2.2 + v ((n + 1 : Nat) : Int)) (v ((n + 1 : Nat) : Int)))
      by_cases hp : (rnn v (n + 1)).1 ≥ max ((rnn v (n + 1)).2.2.2 + v ((n + 1 : Nat) : Int)) (v ((n + 1 : Nat) : Int))
      · exact ⟨bi, bm, by omega, by omega, by omega⟩
      · obtain ⟨m, m1, m2, m3⟩ := last.2
        refine ⟨n + 2 - m, m, m1, by omega, ?_⟩
        rw [show ((n + 2 - m : Nat) : Int) = ((n + 2 : Nat) : Int) - (m : Int) from by omega, m3]
        omega
/-- a row of like values that begins at i, t of them gone by -/
theorem lke_run (v : Int → Int) (i : Nat) (hb : i = 0 ∨ v i ≠ v (i - 1)) : ∀ t : Nat, 1 ≤ t → (∀ j : Nat, j < t → v (i + j) = v i) →
    lke v (i + t) = (max (lke v i).1 t, if (t : Int) > (lke v i).1 then v i else (lke v i).2.1, (lke v i).2.2.1 + 1, if (lke v i).2.2.1 + 1 = 1 then (t : Int) else (lke v i).2.2.2.1, (t : Int))
  | 0, h, _ => by omega
  | 1, _, _ => by
    have hs : (decide (0 < i) && decide (v i = v (i - 1))) = false := by
      rcases hb with rfl | h
      · rfl
      · simp [h]
    have e : lke v (i + 1) = (let s := lke v i; let same : Bool := decide (0 < i) && decide (v i = v (i - 1)); let l := if same then s.2.2.2.2 + 1 else 1; let r := if same then s.2.2.1 else s.2.2.1 + 1; (if l > s.1 then l else s.1, if l > s.1 then v i else s.2.1, r, if r = 1 then l else s.2.2.2.1, l)) := rfl
    rw [e]
    simp only [hs]
    show ((if (1 : Int) > (lke v i).1 then (1 : Int) else (lke v i).1), (if (1 : Int) > (lke v i).1 then v i else (lke v i).2.1), (lke v i).2.2.1 + 1, (if (lke v i).2.2.1 + 1 = 1 then (1 : Int) else (lke v i).2.2.2.1), (1 : Int)) = (max (lke v i).1 1, (if (1 : Int) > (lke v i).1 then v i else (lke v i).2.1), (lke v i).2.2.1 + 1, (if (lke v i).2.2.1 + 1 = 1 then (1 : Int) else (lke v i).2.2.2.1), (1 : Int))
    have : (if (1 : Int) > (lke v i).1 then (1 : Int) else (lke v i).1) = max (lke v i).1 1 := by split <;> omega
    rw [this]
  | t + 2, _, hv => by
    have ih := lke_run v i hb (t + 1) (by omega) fun j hj => hv j (by omega)
    have hs : (decide (0 < i + (t + 1)) && decide (v ((i + (t + 1) : Nat) : Int) = v (((i + (t + 1) : Nat) : Int) - 1))) = true := by
      have q1 := hv (t + 1) (by omega)
      have q2 := hv t (by omega)
      rw [show ((i + (t + 1) : Nat) : Int) = (i : Int) + ((t + 1 : Nat) : Int) from by omega, q1, show (i : Int) + ((t + 1 : Nat) : Int) - 1 = (i : Int) + (t : Int) from by omega, q2]
      simp only [decide_true, Bool.and_true]
      exact decide_eq_true (by omega)
    have hw : v ((i + (t + 1) : Nat) : Int) = v i := by
      have q1 := hv (t + 1) (by omega)
      rw [show ((i + (t + 1) : Nat) : Int) = (i : Int) + ((t + 1 : Nat) : Int) from by omega, q1]
    have e : lke v (i + (t + 1) + 1) = (let s := lke v (i + (t + 1)); let same : Bool := decide (0 < i + (t + 1)) && decide (v ((i + (t + 1) : Nat) : Int) = v (((i + (t + 1) : Nat) : Int) - 1)); let l := if same then s.2.2.2.2 + 1 else 1; let r := if same then s.2.2.1 else s.2.2.1 + 1; (if l > s.1 then l else s.1, if l > s.1 then v ((i + (t + 1) : Nat) : Int) else s.2.1, r, if r = 1 then l else s.2.2.2.1, l)) := rfl
    rw [show i + (t + 2) = i + (t + 1) + 1 from rfl, e, ih]
    simp only [hs]
    simp only [hw, if_true]
    have c1 : ((t + 1 : Nat) : Int) + 1 = ((t + 2 : Nat) : Int) := by omega
    rw [c1]
    refine Prod.ext ?_ (Prod.ext ?_ (Prod.ext rfl (Prod.ext ?_ rfl)))
    · show (if ((t + 2 : Nat) : Int) > max (lke v i).1 ((t + 1 : Nat) : Int) then ((t + 2 : Nat) : Int) else max (lke v i).1 ((t + 1 : Nat) : Int)) = max (lke v i).1 ((t + 2 : Nat) : Int)
      split <;> omega
    · show (if ((t + 2 : Nat) : Int) > max (lke v i).1 ((t + 1 : Nat) : Int) then v i else (if ((t + 1 : Nat) : Int) > (lke v i).1 then v i else (lke v i).2.1)) = (if ((t + 2 : Nat) : Int) > (lke v i).1 then v i else (lke v i).2.1)
      by_cases h1 : ((t + 2 : Nat) : Int) > (lke v i).1
      · rw [if_pos h1]
        by_cases h2 : ((t + 2 : Nat) : Int) > max (lke v i).1 ((t + 1 : Nat) : Int)
        · rw [if_pos h2]
        · omega
      · rw [if_neg h1, if_neg (by omega), if_neg (by omega)]
    · show (if (lke v i).2.2.1 + 1 = 1 then ((t + 2 : Nat) : Int) else (if (lke v i).2.2.1 + 1 = 1 then ((t + 1 : Nat) : Int) else (lke v i).2.2.2.1)) = _
      by_cases h : (lke v i).2.2.1 + 1 = 1
      · rw [if_pos h, if_pos h]
      · rw [if_neg h, if_neg h, if_neg h]
