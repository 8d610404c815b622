-- rows that forget what a number is, but for its bounds
theorem inR_le {a : Int} (h : inR a) : -2147483648 ≤ a ∧ a ≤ 2147483647 := ⟨h.1, by have := h.2; omega⟩
theorem iand_rng {a b : Int} (h0 : 0 ≤ b) (hb : inR b) : 0 ≤ iand a b ∧ iand a b ≤ b := by
  unfold iand
  have h3 : ((i3 a &&& i3 b).toBitVec).toNat ≤ (i3 b).toBitVec.toNat := by
    show ((i3 a).toBitVec &&& (i3 b).toBitVec).toNat ≤ _
    rw [BitVec.toNat_and]
    exact Nat.and_le_right
  have hbi : (i3 b).toInt = b := i3_toInt hb
  have hbn : ((i3 b).toBitVec.toNat : Int) = b := by
    have h5 : (i3 b).toBitVec.toInt = b := hbi
    rw [BitVec.toInt_eq_toNat_cond] at h5
    split at h5
    · exact h5
    · have := (i3 b).toBitVec.isLt
      omega
  have h6 : (i3 a &&& i3 b).toInt = (((i3 a &&& i3 b).toBitVec).toNat : Int) := by
    show ((i3 a &&& i3 b).toBitVec).toInt = _
    exact BitVec.toInt_eq_toNat_of_lt (by have := hb.2; omega)
  omega
theorem numF_rng (j : Int) : 1 ≤ numF j ∧ numF j ≤ 7 := by
  unfold numF
  split <;> omega
theorem ixor_sign {a b : Int} (ha : inR a) (hb : inR b) (h0 : 0 ≤ b) : ixor a b < 0 ↔ a < 0 := by
  unfold ixor
  have e : ∀ x : Int32, (x.toInt < 0) ↔ x.toBitVec.msb = true := fun x => by
    show x.toBitVec.toInt < 0 ↔ _
    rw [BitVec.msb_eq_toInt]
    simp
  rw [e]
  have h1 : (i3 a ^^^ i3 b).toBitVec = (i3 a).toBitVec ^^^ (i3 b).toBitVec := rfl
  rw [h1, BitVec.msb_xor]
  have hA := e (i3 a)
  rw [i3_toInt ha] at hA
  have hB := e (i3 b)
  rw [i3_toInt hb] at hB
  cases hb2 : (i3 b).toBitVec.msb
  · simp only [Bool.bne_false]
    exact hA.symm
  · exact absurd (hB.mpr hb2) (by omega)
section GROWS
variable {α : Type} {vd : α → Nat × Int → Prop} {rg : α → Prop} {cc : ByteArray} {own : String} {K : Nat → Lc → List Vl → α → Prop}
theorem r_iincG (hK : StpC vd rg cc own K) {pc : Nat} {ls : Lc} {st : List Vl} {μ : α} {x : Nat} {n a : Int} (hd : decode cc pc = .ok (.iinc x n, 3)) (hl : ls[x]? = some (some (vI a))) (hi : lfree ls x = true) (k : ∀ v : Int, (-2147483648 ≤ v ∧ v ≤ 2147483647) → K (pc + 3) (ls.set x (some (vI v))) st μ) : K pc ls st μ := r_iinc hK hd hl hi (k _ (inR_le (inR_wr _)))
theorem r_iaddG (hK : StpC vd rg cc own K) {pc : Nat} {ls : Lc} {st : List Vl} {μ : α} {a b : Int} (hd : decode cc pc = .ok (.iadd, 1)) (k : ∀ v : Int, (-2147483648 ≤ v ∧ v ≤ 2147483647) → K (pc + 1) ls (vI v :: st) μ) : K pc ls (vI b :: vI a :: st) μ := r_iadd hK hd (k _ (inR_le (inR_wr _)))
theorem r_isubG (hK : StpC vd rg cc own K) {pc : Nat} {ls : Lc} {st : List Vl} {μ : α} {a b : Int} (hd : decode cc pc = .ok (.isub, 1)) (k : ∀ v : Int, (-2147483648 ≤ v ∧ v ≤ 2147483647) → K (pc + 1) ls (vI v :: st) μ) : K pc ls (vI b :: vI a :: st) μ := r_isub hK hd (k _ (inR_le (inR_wr _)))
theorem r_imulG (hK : StpC vd rg cc own K) {pc : Nat} {ls : Lc} {st : List Vl} {μ : α} {a b : Int} (hd : decode cc pc = .ok (.imul, 1)) (k : ∀ v : Int, (-2147483648 ≤ v ∧ v ≤ 2147483647) → K (pc + 1) ls (vI v :: st) μ) : K pc ls (vI b :: vI a :: st) μ := r_imul hK hd (k _ (inR_le (inR_wr _)))
theorem r_inegG (hK : StpC vd rg cc own K) {pc : Nat} {ls : Lc} {st : List Vl} {μ : α} {a : Int} (hd : decode cc pc = .ok (.ineg, 1)) (k : ∀ v : Int, (-2147483648 ≤ v ∧ v ≤ 2147483647) → K (pc + 1) ls (vI v :: st) μ) : K pc ls (vI a :: st) μ := r_ineg hK hd (k _ (inR_le (inR_wr _)))
theorem r_iandG (hK : StpC vd rg cc own K) {pc : Nat} {ls : Lc} {st : List Vl} {μ : α} {a b : Int} (hd : decode cc pc = .ok (.iand, 1)) (k : ∀ v : Int, (-2147483648 ≤ v ∧ v ≤ 2147483647) → K (pc + 1) ls (vI v :: st) μ) : K pc ls (vI b :: vI a :: st) μ := r_iand hK hd (k _ (inR_le (inR_of _)))
theorem r_iandB (hK : StpC vd rg cc own K) {pc : Nat} {ls : Lc} {st : List Vl} {μ : α} {a b : Int} (hd : decode cc pc = .ok (.iand, 1)) (h0 : 0 ≤ b) (hb : inR b) (k : ∀ v : Int, (0 ≤ v ∧ v ≤ b) → K (pc + 1) ls (vI v :: st) μ) : K pc ls (vI b :: vI a :: st) μ := r_iand hK hd (k _ (iand_rng h0 hb))
theorem r_iorG (hK : StpC vd rg cc own K) {pc : Nat} {ls : Lc} {st : List Vl} {μ : α} {a b : Int} (hd : decode cc pc = .ok (.ior, 1)) (k : ∀ v : Int, (-2147483648 ≤ v ∧ v ≤ 2147483647) → K (pc + 1) ls (vI v :: st) μ) : K pc ls (vI b :: vI a :: st) μ := r_ior hK hd (k _ (inR_le (inR_of _)))
theorem r_ixorG (hK : StpC vd rg cc own K) {pc : Nat} {ls : Lc} {st : List Vl} {μ : α} {a b : Int} (hd : decode cc pc = .ok (.ixor, 1)) (k : ∀ v : Int, (-2147483648 ≤ v ∧ v ≤ 2147483647) → K (pc + 1) ls (vI v :: st) μ) : K pc ls (vI b :: vI a :: st) μ := r_ixor hK hd (k _ (inR_le (inR_of _)))
theorem r_ixorS (hK : StpC vd rg cc own K) {pc : Nat} {ls : Lc} {st : List Vl} {μ : α} {a b : Int} (hd : decode cc pc = .ok (.ixor, 1)) (ha : -2147483648 ≤ a ∧ a ≤ 2147483647) (hb : 0 ≤ b ∧ b ≤ 2147483647) (k : ∀ v : Int, (-2147483648 ≤ v ∧ v ≤ 2147483647) → (v < 0 ↔ a < 0) → K (pc + 1) ls (vI v :: st) μ) : K pc ls (vI b :: vI a :: st) μ := r_ixor hK hd (k _ (inR_le (inR_of _)) (ixor_sign ⟨ha.1, by omega⟩ ⟨by omega, by omega⟩ hb.1))
theorem r_ishlG (hK : StpC vd rg cc own K) {pc : Nat} {ls : Lc} {st : List Vl} {μ : α} {a b : Int} (hd : decode cc pc = .ok (.ishl, 1)) (k : ∀ v : Int, (-2147483648 ≤ v ∧ v ≤ 2147483647) → K (pc + 1) ls (vI v :: st) μ) : K pc ls (vI b :: vI a :: st) μ := r_ishl hK hd (k _ (inR_le (inR_of _)))
theorem r_ishrG (hK : StpC vd rg cc own K) {pc : Nat} {ls : Lc} {st : List Vl} {μ : α} {a b : Int} (hd : decode cc pc = .ok (.ishr, 1)) (k : ∀ v : Int, (-2147483648 ≤ v ∧ v ≤ 2147483647) → K (pc + 1) ls (vI v :: st) μ) : K pc ls (vI b :: vI a :: st) μ := r_ishr hK hd (k _ (inR_le (inR_of _)))
theorem r_iushrG (hK : StpC vd rg cc own K) {pc : Nat} {ls : Lc} {st : List Vl} {μ : α} {a b : Int} (hd : decode cc pc = .ok (.iushr, 1)) (k : ∀ v : Int, (-2147483648 ≤ v ∧ v ≤ 2147483647) → K (pc + 1) ls (vI v :: st) μ) : K pc ls (vI b :: vI a :: st) μ := r_iushr hK hd (k _ (inR_le (inR_of _)))
theorem r_idivG (hK : StpC vd rg cc own K) {pc : Nat} {ls : Lc} {st : List Vl} {μ : α} {a b : Int} (hd : decode cc pc = .ok (.idiv, 1)) (ha : -2147483648 ≤ a ∧ a ≤ 2147483647) (hb : 0 < b) (k : ∀ v : Int, (-2147483648 ≤ v ∧ v ≤ 2147483647) → K (pc + 1) ls (vI v :: st) μ) : K pc ls (vI b :: vI a :: st) μ := r_idiv hK hd hb (k _ (inR_le (tdiv_inR ⟨ha.1, by omega⟩ hb)))
theorem r_iremG (hK : StpC vd rg cc own K) {pc : Nat} {ls : Lc} {st : List Vl} {μ : α} {a b : Int} (hd : decode cc pc = .ok (.irem, 1)) (hb : 0 < b) (k : ∀ v : Int, (-b < v ∧ v < b) → (0 ≤ a → 0 ≤ v) → (a ≤ 0 → v ≤ 0) → K (pc + 1) ls (vI v :: st) μ) : K pc ls (vI b :: vI a :: st) μ := by
  have h3 : (-a).tmod b = -(a.tmod b) := Int.neg_tmod a b
  refine r_irem hK hd hb (k _ ⟨?_, Int.tmod_lt_of_pos a hb⟩ (fun h => Int.tmod_nonneg _ h) (fun h => ?_))
  · have h4 := Int.tmod_lt_of_pos (-a) hb
    omega
  · have h4 := Int.tmod_nonneg b (a := -a) (by omega)
    omega
theorem r_iremP (hK : StpC vd rg cc own K) {pc : Nat} {ls : Lc} {st : List Vl} {μ : α} {a b : Int} (hd : decode cc pc = .ok (.irem, 1)) (ha : 0 ≤ a) (hb : 0 < b) (k : ∀ v : Int, (0 ≤ v ∧ v < b) → K (pc + 1) ls (vI v :: st) μ) : K pc ls (vI b :: vI a :: st) μ := r_irem hK hd hb (k _ ⟨Int.tmod_nonneg _ ha, Int.tmod_lt_of_pos a hb⟩)
theorem r_idivN (hK : StpC vd rg cc own K) {pc : Nat} {ls : Lc} {st : List Vl} {μ : α} {a b : Int} (hd : decode cc pc = .ok (.idiv, 1)) (ha : 0 ≤ a) (hb : 0 < b) (k : K (pc + 1) ls (vI (a / b) :: st) μ) : K pc ls (vI b :: vI a :: st) μ := r_idiv hK hd hb (by rw [Int.tdiv_eq_ediv_of_nonneg ha]; exact k)
theorem r_iremN (hK : StpC vd rg cc own K) {pc : Nat} {ls : Lc} {st : List Vl} {μ : α} {a b : Int} (hd : decode cc pc = .ok (.irem, 1)) (ha : 0 ≤ a) (hb : 0 < b) (k : K (pc + 1) ls (vI (a % b) :: st) μ) : K pc ls (vI b :: vI a :: st) μ := r_irem hK hd hb (by rw [Int.tmod_eq_emod_of_nonneg ha]; exact k)
theorem r_lcmpG (hK : StpC vd rg cc own K) {pc : Nat} {ls : Lc} {st : List Vl} {μ : α} {a b : Int} (hd : decode cc pc = .ok (.lcmp, 1)) (k : ∀ v : Int, (-1 ≤ v ∧ v ≤ 1) → K (pc + 1) ls (vI v :: st) μ) : K pc ls (vL b :: vL a :: st) μ := r_lcmp hK hd (k _ (by
  unfold lcmp
  split
  · omega
  · split <;> omega))
theorem r_rngz (hK : StpC (fun _ => vld) rg cc own K) {pc : Nat} {ls : Lc} {st : List Vl} {μ : α} (k : (∀ v : Vl, some v ∈ ls → rV vld v) → K pc ls st μ) : K pc ls st μ := r_rng hK (fun _ g => k g)
end GROWS
-- memories that differ at certain places alone
def Gx (S : Nat → Int → Int → Prop) (σ ρ : Mm) : Prop := ∀ (c : Nat) (x y : Int), ¬ S c x y → ρ c x y = σ c x y
abbrev Al1 (σ ρ : Mm) (k : Nat) (i j : Int) : Prop := ∀ (c : Nat) (x y : Int), ¬ (c = k ∧ x = i ∧ y = j) → ρ c x y = σ c x y
theorem Gx.rf {S : Nat → Int → Int → Prop} {σ : Mm} : Gx S σ σ := fun _ _ _ _ => rfl
theorem Gx.al {S : Nat → Int → Int → Prop} {σ ρ ρ2 : Mm} {k : Nat} {i j : Int} (h : Gx S σ ρ) (a : Al1 ρ ρ2 k i j) (hs : S k i j) : Gx S σ ρ2 := fun c x y q => (a c x y (by rintro ⟨rfl, rfl, rfl⟩; exact q hs)).trans (h c x y q)
theorem Gx.gx {S T : Nat → Int → Int → Prop} {σ ρ ρ2 : Mm} (h : Gx S σ ρ) (a : Gx T ρ ρ2) (hs : ∀ c x y, T c x y → S c x y) : Gx S σ ρ2 := fun c x y q => (a c x y (fun t => q (hs c x y t))).trans (h c x y q)
section GX
variable {e : Ev} {cc : ByteArray} {own : String} {Cal : Nat → List Vl → Mm → (Option Vl → Mm → Prop) → Prop} {K : Nat → Lc → List Vl → Mm → Prop}
theorem z_putIG (hK : StpZ e cc own Cal K) {pc : Nat} {ls : Lc} {st : List Vl} {σ : Mm} {k : Nat} {i a jz : Int} {idx ci j : Nat} (hd : decode cc pc = .ok (.putfield idx, 3)) (hf : FLw own idx ci j .int) (hk : kd k = (0, ci)) (hr : rff k i j = none) (hz : (j : Int) = jz) (h2 : Tl e k jz) (h3 : Okv k jz a) (k_ : ∀ ρ : Mm, Al1 σ ρ k i jz → ρ k i jz = a → K (pc + 3) ls st ρ) : K pc ls (vI a :: vR k i :: st) σ := z_putIT hK hd hf hk hr hz h2 h3 (k_ _ (fun _ _ _ h => mu_ne h) (mu_self _ _ _ _ _))
theorem z_putZG (hK : StpZ e cc own Cal K) {pc : Nat} {ls : Lc} {st : List Vl} {σ : Mm} {k : Nat} {i a jz : Int} {idx ci j : Nat} (hd : decode cc pc = .ok (.putfield idx, 3)) (hf : FLw own idx ci j .boolean) (hk : kd k = (0, ci)) (hr : rff k i j = none) (hz : (j : Int) = jz) (ha : a = 0 ∨ a = 1) (h2 : Tl e k jz) (h3 : Okv k jz a) (k_ : ∀ ρ : Mm, Al1 σ ρ k i jz → ρ k i jz = a → K (pc + 3) ls st ρ) : K pc ls (vI a :: vR k i :: st) σ := z_putZT hK hd hf hk hr hz ha h2 h3 (k_ _ (fun _ _ _ h => mu_ne h) (mu_self _ _ _ _ _))
theorem z_iastG (hK : StpZ e cc own Cal K) {pc : Nat} {ls : Lc} {st : List Vl} {σ : Mm} {k : Nat} {i j a : Int} {n : Nat} (hd : decode cc pc = .ok (.iastore, 1)) (hk : kd k = (1, n)) (h0 : 0 ≤ j) (h1 : j < (n : Int)) (h2 : Tl e k j) (h3 : Okv k j a) (k_ : ∀ ρ : Mm, Al1 σ ρ k i j → ρ k i j = a → K (pc + 1) ls st ρ) : K pc ls (vI a :: vI j :: vR k i :: st) σ := z_iastT hK hd hk h0 h1 h2 h3 (k_ _ (fun _ _ _ h => mu_ne h) (mu_self _ _ _ _ _))
end GX
theorem InL.h7 {σ : Mm} (h : InL σ) {i : Int} (h0 : 0 ≤ i) (h1 : i < 7) : 0 ≤ σ 7 i 6 ∧ σ 7 i 6 ≤ 120 := by
  have := h.1 i h0 h1
  unfold Rst at this
  omega
theorem InL.put {σ ρ : Mm} (h : InL σ) {i : Int} (a : Al1 σ ρ 7 i 6) (r : Rst (σ 7 i 3) (σ 7 i 4) (ρ 7 i 6)) : InL ρ := by
  refine ⟨fun x h0 h1 => ?_, fun l h0 h1 => ?_⟩
  · rw [a 7 x 3 (by omega), a 7 x 4 (by omega)]
    by_cases hx : x = i
    · subst hx; exact r
    · rw [a 7 x 6 (by omega)]
      exact h.1 x h0 h1
  · rw [a 31 _ _ (by omega), a 31 _ _ (by omega), a 31 _ _ (by omega)]
    exact h.2 l h0 h1
/-- as Gx, and the lanes at rest -/
def GL (S : Nat → Int → Int → Prop) (σ ρ : Mm) : Prop := Gx S σ ρ ∧ InL ρ
theorem GL.put {S : Nat → Int → Int → Prop} {σ ρ ρ2 : Mm} (h : GL S σ ρ) {i : Int} (hs : S 7 i 6) (a : Al1 ρ ρ2 7 i 6) (r : Rst (ρ 7 i 3) (ρ 7 i 4) (ρ2 7 i 6)) : GL S σ ρ2 := ⟨h.1.al a hs, h.2.put a r⟩
theorem GL.drop {S : Nat → Int → Int → Prop} {σ ρ ρ2 : Mm} (h : GL S σ ρ) {i : Int} (hs : S 7 i 6) (a : Al1 ρ ρ2 7 i 6) (h0 : 0 ≤ i) (h1 : i < 7) (r : ρ2 7 i 6 = ρ 7 i 6 - 1) (r1 : 1 ≤ ρ 7 i 6) : GL S σ ρ2 := h.put hs a (by
  have := h.2.1 i h0 h1
  unfold Rst at this ⊢
  omega)
theorem GL.gl {S T : Nat → Int → Int → Prop} {σ ρ ρ2 : Mm} (h : GL S σ ρ) (g : GL T ρ ρ2) (hs : ∀ c x y, T c x y → S c x y) : GL S σ ρ2 := ⟨h.1.gx g.1 hs, g.2⟩
theorem mul_bd {a b A B : Int} (h0 : 0 ≤ a) (h1 : a ≤ A) (h2 : -B ≤ b) (h3 : b ≤ B) : -(A * B) ≤ a * b ∧ a * b ≤ A * B := by
  have hB : 0 ≤ B := by omega
  have q1 := Int.mul_le_mul_of_nonneg_left h3 h0
  have q2 := Int.mul_le_mul_of_nonneg_left h2 h0
  have q3 := Int.mul_le_mul_of_nonneg_right h1 hB
  rw [Int.mul_neg] at q2
  omega
theorem mul_bd2 {a b A B : Int} (h0 : 0 ≤ a) (h1 : a ≤ A) (h2 : -B ≤ b) (h3 : b ≤ B) : -(A * B) ≤ b * a ∧ b * a ≤ A * B := by
  rw [Int.mul_comm b a]
  exact mul_bd h0 h1 h2 h3
theorem GL.rf {S : Nat → Int → Int → Prop} {σ : Mm} (h : InL σ) : GL S σ σ := ⟨Gx.rf, h⟩
theorem InL.h31 {σ : Mm} (h : InL σ) {l : Int} (h0 : 0 ≤ l) (h1 : l < 8) : 0 ≤ σ 31 0 (22 * l + 5) ∧ σ 31 0 (22 * l + 5) ≤ 120 := by
  have := h.2 l h0 h1
  unfold Rst at this
  omega
theorem mul_nn {a b A B : Int} (h0 : 0 ≤ a) (h1 : a ≤ A) (h2 : 0 ≤ b) (h3 : b ≤ B) : 0 ≤ a * b ∧ a * b ≤ A * B := by
  have q1 := Int.mul_le_mul_of_nonneg_left h3 h0
  have q3 := Int.mul_le_mul_of_nonneg_right h1 (show 0 ≤ B by omega)
  have q0 := Int.mul_nonneg h0 h2
  omega
theorem InL.put31 {σ ρ : Mm} (h : InL σ) {l : Int} (a : Al1 σ ρ 31 0 (22 * l + 5)) (r : Rst (σ 31 0 (22 * l + 2)) (σ 31 0 (22 * l + 3)) (ρ 31 0 (22 * l + 5))) : InL ρ := by
  refine ⟨fun x h0 h1 => ?_, fun x h0 h1 => ?_⟩
  · rw [a 7 _ _ (by omega), a 7 _ _ (by omega), a 7 _ _ (by omega)]
    exact h.1 x h0 h1
  · rw [a 31 0 (22 * x + 2) (by omega), a 31 0 (22 * x + 3) (by omega)]
    by_cases hx : x = l
    · subst hx; exact r
    · rw [a 31 0 (22 * x + 5) (by omega)]
      exact h.2 x h0 h1
theorem GL.put31 {S : Nat → Int → Int → Prop} {σ ρ ρ2 : Mm} (h : GL S σ ρ) {l : Int} (hs : S 31 0 (22 * l + 5)) (a : Al1 ρ ρ2 31 0 (22 * l + 5)) (r : Rst (ρ 31 0 (22 * l + 2)) (ρ 31 0 (22 * l + 3)) (ρ2 31 0 (22 * l + 5))) : GL S σ ρ2 := ⟨h.1.al a hs, h.2.put31 a r⟩
theorem GL.drop31 {S : Nat → Int → Int → Prop} {σ ρ ρ2 : Mm} (h : GL S σ ρ) {l : Int} (hs : S 31 0 (22 * l + 5)) (a : Al1 ρ ρ2 31 0 (22 * l + 5)) (h0 : 0 ≤ l) (h1 : l < 8) (r : ρ2 31 0 (22 * l + 5) = ρ 31 0 (22 * l + 5) - 1) (r1 : 1 ≤ ρ 31 0 (22 * l + 5)) : GL S σ ρ2 := h.put31 hs a (by
  have := h.2.2 l h0 h1
  unfold Rst at this ⊢
  omega)
theorem cpy_zero {τ : Mm} {c0 c1 : Nat} {i0 i1 sp dp : Int} : cpy τ c0 i0 sp c1 i1 dp 0 = τ := by
  funext c i j
  unfold cpy
  rw [if_neg (by omega)]
theorem cpy_succ {τ : Mm} {c0 c1 : Nat} {i0 i1 sp dp n : Int} (h : 0 ≤ n) : cpy τ c0 i0 sp c1 i1 dp (n + 1) = mu (cpy τ c0 i0 sp c1 i1 dp n) c1 i1 (dp + n) (τ c0 i0 (sp + n)) := by
  funext c i j
  unfold mu cpy
  by_cases hj : c = c1 ∧ i = i1 ∧ j = dp + n
  · obtain ⟨rfl, rfl, rfl⟩ := hj
    rw [if_pos (by omega), if_pos ⟨rfl, rfl, rfl⟩, show sp + (dp + n - dp) = sp + n from by omega]
  · rw [if_neg hj]
    by_cases hk : c = c1 ∧ i = i1 ∧ dp ≤ j ∧ j < dp + n
    · rw [if_pos hk, if_pos (by omega)]
    · rw [if_neg hk, if_neg (by omega)]
theorem cpy_off {τ : Mm} {c0 c1 : Nat} {i0 i1 sp dp n j : Int} (h : ¬ (dp ≤ j ∧ j < dp + n)) : cpy τ c0 i0 sp c1 i1 dp n c1 i1 j = τ c1 i1 j := if_neg (by omega)
theorem cpy_at {τ : Mm} {c0 c1 : Nat} {i0 i1 sp dp n f : Int} (h : 0 ≤ f ∧ f < n) : cpy τ c0 i0 sp c1 i1 dp n c1 i1 (dp + f) = τ c0 i0 (sp + f) := by
  unfold cpy
  rw [if_pos (by omega), show sp + (dp + f - dp) = sp + f from by omega]
theorem cpy_tried {σ : Mm} (h : InL σ) {l : Int} (h0 : 0 ≤ l) (h1 : l ≤ 6) : GL (fun c x y => c = 31 ∧ x = 0 ∧ 154 ≤ y) σ (cpy σ 31 0 (22 * l) 31 0 (22 * 7) 22) := by
  refine ⟨fun c x y q => if_neg (by omega), fun i g0 g1 => ?_, fun i g0 g1 => ?_⟩
  · have e : ∀ j : Int, cpy σ 31 0 (22 * l) 31 0 (22 * 7) 22 7 i j = σ 7 i j := fun j => if_neg (by omega)
    rw [e, e, e]
    exact h.1 i g0 g1
  · by_cases hi : i = 7
    · subst hi
      rw [cpy_at (by omega), cpy_at (by omega), cpy_at (by omega)]
      exact h.2 l h0 (by omega)
    · rw [cpy_off (by omega), cpy_off (by omega), cpy_off (by omega)]
      exact h.2 i g0 g1
theorem Gx.gx0 {S T : Nat → Int → Int → Prop} {σ ρ : Mm} (g : Gx T σ ρ) (hs : ∀ c x y, T c x y → S c x y) : Gx S σ ρ := fun c x y q => g c x y (fun t => q (hs c x y t))
theorem GL.gx {S T : Nat → Int → Int → Prop} {σ ρ ρ2 : Mm} (h : GL S σ ρ) (g : Gx T ρ ρ2) (hs : ∀ c x y, T c x y → S c x y) (hd : ∀ c x y, T c x y → ¬ DL c y) : GL S σ ρ2 := ⟨h.1.gx g hs, h.2.to fun c i j q => g c i j (fun t => hd c i j t q)⟩
theorem InL.lane {σ ρ : Mm} (h : InL σ) {i : Int} (h0 : 0 ≤ i) (h1 : i < 7) (g : ∀ (c : Nat) (x y : Int), ¬ (c = 7 ∧ x = i) → ρ c x y = σ c x y) (r : Rst (ρ 7 i 3) (ρ 7 i 4) (ρ 7 i 6)) : InL ρ := by
  refine ⟨fun x g0 g1 => ?_, fun x g0 g1 => ?_⟩
  · by_cases hx : x = i
    · subst hx; exact r
    · rw [g 7 x _ (by omega), g 7 x _ (by omega), g 7 x _ (by omega)]
      exact h.1 x g0 g1
  · rw [g 31 _ _ (by omega), g 31 _ _ (by omega), g 31 _ _ (by omega)]
    exact h.2 x g0 g1
theorem InL.lane31 {σ ρ : Mm} (h : InL σ) {l : Int} (g : ∀ (c : Nat) (x y : Int), ¬ (c = 31 ∧ x = 0 ∧ 22 * l ≤ y ∧ y < 22 * l + 22) → ρ c x y = σ c x y) (r : Rst (ρ 31 0 (22 * l + 2)) (ρ 31 0 (22 * l + 3)) (ρ 31 0 (22 * l + 5))) : InL ρ := by
  refine ⟨fun x g0 g1 => ?_, fun x g0 g1 => ?_⟩
  · rw [g 7 _ _ (by omega), g 7 _ _ (by omega), g 7 _ _ (by omega)]
    exact h.1 x g0 g1
  · by_cases hx : x = l
    · subst hx; exact r
    · rw [g 31 _ _ (by omega), g 31 _ _ (by omega), g 31 _ _ (by omega)]
      exact h.2 x g0 g1
