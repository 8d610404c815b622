-- rows with the arithmetic's range told
section PR
variable {α : Type} {vd : α → Nat × Int → Prop} {rg : α → Prop} {cc : ByteArray} {own : String} {K : Nat → Lc → List Vl → α → Prop}
theorem r_iaddS (hK : StpC vd rg cc own K) {pc : Nat} {ls : Lc} {st : List Vl} {μ : α} {a b : Int} (hd : decode cc pc = .ok (.iadd, 1)) (h : inR (a + b)) (k : K (pc + 1) ls (vI (a + b) :: st) μ) : K pc ls (vI b :: vI a :: st) μ := r_iadd hK hd (by rw [wr_id h]; exact k)
theorem r_isubS (hK : StpC vd rg cc own K) {pc : Nat} {ls : Lc} {st : List Vl} {μ : α} {a b : Int} (hd : decode cc pc = .ok (.isub, 1)) (h : inR (a - b)) (k : K (pc + 1) ls (vI (a - b) :: st) μ) : K pc ls (vI b :: vI a :: st) μ := r_isub hK hd (by rw [wr_id h]; exact k)
theorem r_imulS (hK : StpC vd rg cc own K) {pc : Nat} {ls : Lc} {st : List Vl} {μ : α} {a b : Int} (hd : decode cc pc = .ok (.imul, 1)) (h : inR (a * b)) (k : K (pc + 1) ls (vI (a * b) :: st) μ) : K pc ls (vI b :: vI a :: st) μ := r_imul hK hd (by rw [wr_id h]; exact k)
theorem r_inegS (hK : StpC vd rg cc own K) {pc : Nat} {ls : Lc} {st : List Vl} {μ : α} {a : Int} (hd : decode cc pc = .ok (.ineg, 1)) (h : inR (-a)) (k : K (pc + 1) ls (vI (-a) :: st) μ) : K pc ls (vI a :: st) μ := r_ineg hK hd (by rw [wr_id h]; exact k)
theorem r_iincS (hK : StpC vd rg cc own K) {pc : Nat} {ls : Lc} {st : List Vl} {μ : α} {x : Nat} {n a : Int} (hd : decode cc pc = .ok (.iinc x n, 3)) (hl : ls[x]? = some (some (vI a))) (hi : lfree ls x = true) (h : inR (a + n)) (k : K (pc + 3) (ls.set x (some (vI (a + n)))) st μ) : K pc ls st μ := r_iinc hK hd hl hi (by rw [wr_id h]; exact k)
theorem r_iincE (hK : StpC vd rg cc own K) {pc : Nat} {ls : Lc} {st : List Vl} {μ : α} {x : Nat} {n a : Int} (v : Int) (hd : decode cc pc = .ok (.iinc x n, 3)) (hl : ls[x]? = some (some (vI a))) (hi : lfree ls x = true) (hv : a + n = v) (h : inR v) (k : K (pc + 3) (ls.set x (some (vI v))) st μ) : K pc ls st μ := by
  subst hv
  exact r_iincS hK hd hl hi h k
theorem r_iaddE (hK : StpC vd rg cc own K) {pc : Nat} {ls : Lc} {st : List Vl} {μ : α} {a b : Int} (v : Int) (hd : decode cc pc = .ok (.iadd, 1)) (hv : a + b = v) (h : inR v) (k : K (pc + 1) ls (vI v :: st) μ) : K pc ls (vI b :: vI a :: st) μ := by
  subst hv
  exact r_iaddS hK hd h k
theorem r_isubE (hK : StpC vd rg cc own K) {pc : Nat} {ls : Lc} {st : List Vl} {μ : α} {a b : Int} (v : Int) (hd : decode cc pc = .ok (.isub, 1)) (hv : a - b = v) (h : inR v) (k : K (pc + 1) ls (vI v :: st) μ) : K pc ls (vI b :: vI a :: st) μ := by
  subst hv
  exact r_isubS hK hd h k
theorem r_imulE (hK : StpC vd rg cc own K) {pc : Nat} {ls : Lc} {st : List Vl} {μ : α} {a b : Int} (v : Int) (hd : decode cc pc = .ok (.imul, 1)) (hv : a * b = v) (h : inR v) (k : K (pc + 1) ls (vI v :: st) μ) : K pc ls (vI b :: vI a :: st) μ := by
  subst hv
  exact r_imulS hK hd h k
theorem r_idivE (hK : StpC vd rg cc own K) {pc : Nat} {ls : Lc} {st : List Vl} {μ : α} {a b : Int} (v : Int) (hd : decode cc pc = .ok (.idiv, 1)) (hp : 0 < b) (hv : a.tdiv b = v) (k : K (pc + 1) ls (vI v :: st) μ) : K pc ls (vI b :: vI a :: st) μ := by
  subst hv
  exact r_idiv hK hd hp k
theorem r_iremE (hK : StpC vd rg cc own K) {pc : Nat} {ls : Lc} {st : List Vl} {μ : α} {a b : Int} (v : Int) (hd : decode cc pc = .ok (.irem, 1)) (hp : 0 < b) (hv : a.tmod b = v) (k : K (pc + 1) ls (vI v :: st) μ) : K pc ls (vI b :: vI a :: st) μ := by
  subst hv
  exact r_irem hK hd hp k
end PR
theorem post_of {P : Option Vl → Mm → Prop} {a b : Int} {τ : Mm} (h : a = b) (k : P (some (vI b)) τ) : P (some (vI a)) τ := h ▸ k
/-- nothing of the reference's has changed -/
def Sm30 (τ τ2 : Mm) : Prop := ∀ (c : Nat) (i j : Int), 30 ≤ c → τ2 c i j = τ c i j
theorem Sm30.rf {τ : Mm} : Sm30 τ τ := fun _ _ _ _ => rfl
theorem Sm30.mu {τ τ2 : Mm} {c : Nat} {i j v : Int} (h : Sm30 τ τ2) (hc : c < 30) : Sm30 τ (mu τ2 c i j v) := fun c' i' j' hc' => (mu_ne (fun q => by omega)).trans (h c' i' j' hc')
theorem vld_of {c : Nat} {i : Int} {n : Nat} (h : cnt c = n) (h0 : 0 ≤ i) (h1 : i < (n : Int)) : vld (c, i) := ⟨h0, by show i < (cnt c : Int); rw [h]; exact h1⟩
