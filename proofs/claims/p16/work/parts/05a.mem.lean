-- the fixed world: which cells there are once both objects stand, and what each holds, out of a memory of whole numbers
def kd (c : Nat) : Nat × Nat := match c with
  | 2 => (0, 5) | 3 => (2, 4) | 4 => (2, 3) | 5 => (3, 8) | 6 => (4, 4) | 7 => (0, 2)
  | 8 => (1, 121) | 9 => (1, 121) | 10 => (1, 121) | 11 => (0, 0) | 12 => (0, 4) | 13 => (0, 3) | 14 => (0, 1)
  | 15 => (1, 16) | 16 => (1, 8) | 17 => (1, 7) | 18 => (1, 7) | 19 => (5, 5) | 20 => (5, 5) | 21 => (1, 121) | 22 => (1, 121)
  | 30 => (0, 6) | 31 => (1, 176) | 32 => (1, 968) | 33 => (1, 968) | 34 => (1, 968) | 35 => (1, 16) | 36 => (1, 8) | 37 => (1, 242) | 38 => (1, 7)
  | 39 => (1, 8) | 40 => (1, 8) | 41 => (1, 8) | 42 => (1, 8) | 43 => (1, 8) | 44 => (1, 8) | 45 => (1, 4) | 46 => (1, 4) | 47 => (1, 4) | 48 => (1, 4)
  | 49 => (1, 7) | 50 => (1, 14400) | 51 => (1, 605) | 52 => (1, 605)
  | _ => (9, 0)
/-- how many of a kind -/
def cnt (c : Nat) : Nat := match c with
  | 0 => 1 | 1 => 1 | 7 => 7 | 8 => 7 | 9 => 7 | 10 => 7 | 11 => 8 | 12 => 8 | 13 => 4 | 21 => 5 | 22 => 5
  | 23 => 0 | 24 => 0 | 25 => 0 | 26 => 0 | 27 => 0 | 28 => 0 | 29 => 0
  | c => if c < 53 then 1 else 0
/-- the references that fields hold -/
def rff (c : Nat) (i : Int) (k : Nat) : Option (Nat × Int) := match c, k with
  | 2, 0 => some (3, 0) | 2, 1 => some (4, 0) | 2, 2 => some (5, 0) | 2, 3 => some (6, 0) | 2, 4 => some (14, 0) | 2, 5 => some (11, 7) | 2, 6 => some (19, 0) | 2, 7 => some (20, 0)
  | 7, 7 => some (8, i) | 7, 8 => some (9, i) | 7, 9 => some (10, i) | 7, 16 => some (11, i)
  | 14, 0 => some (15, 0) | 14, 1 => some (16, 0) | 14, 2 => some (17, 0) | 14, 3 => some (18, 0)
  | 30, 0 => some (31, 0) | 30, 1 => some (32, 0) | 30, 2 => some (33, 0) | 30, 3 => some (34, 0) | 30, 4 => some (35, 0) | 30, 5 => some (36, 0) | 30, 6 => some (37, 0) | 30, 7 => some (38, 0)
  | 30, 9 => some (39, 0) | 30, 10 => some (40, 0) | 30, 11 => some (41, 0) | 30, 12 => some (42, 0) | 30, 13 => some (43, 0) | 30, 14 => some (44, 0) | 30, 15 => some (45, 0) | 30, 16 => some (46, 0) | 30, 17 => some (47, 0) | 30, 18 => some (48, 0) | 30, 19 => some (49, 0) | 30, 20 => some (50, 0) | 30, 21 => some (51, 0) | 30, 22 => some (52, 0)
  | _, _ => none
/-- the references that rows hold -/
def rfa (c : Nat) (j : Int) : Nat × Int := match c with
  | 3 => (7, j) | 4 => (7, 4 + j) | 5 => (12, j) | 6 => (13, j) | 19 => (21, j) | 20 => (22, j)
  | _ => (99, 0)
def vld (q : Nat × Int) : Prop := 0 ≤ q.2 ∧ q.2 < (cnt q.1 : Int)
def cellsL : List (Nat × Int) := (List.range 53).flatMap fun c => if c < 2 then [] else (List.range (cnt c)).map fun (k : Nat) => (c, (k : Int))
theorem cellsL_mem {c : Nat} {i : Int} (h : vld (c, i)) (hc : 2 ≤ c) : (c, i) ∈ cellsL := by
  obtain ⟨h1, h2⟩ := h
  have hc2 : c < 53 := by
    refine Nat.not_le.mp fun h => ?_
    have h0 : cnt c = 0 := by
      unfold cnt
      split <;> first | omega | (rw [if_neg (by omega)])
    rw [show cnt (c, i).1 = 0 from h0] at h2
    simp at h2
    omega
  refine List.mem_flatMap.mpr ⟨c, List.mem_range.mpr hc2, ?_⟩
  rw [if_neg (by omega)]
  refine List.mem_map.mpr ⟨i.toNat, List.mem_range.mpr ?_, ?_⟩
  · have h3 : i < (cnt c : Int) := h2
    have h4 : 0 ≤ i := h1
    omega
  · have h4 : 0 ≤ i := h1
    rw [Int.toNat_of_nonneg h4]
theorem cellsL_nd : cellsL.Nodup := by decide +kernel
def fval (τ : Mm) (c : Nat) (i : Int) (k : Nat) : Vl := match rff c i k with
  | some q => Sum.inr (Sum.inl (some q))
  | none => vI (τ c i k)
def cE (ad : Nat → Int → Nat) (cI : ClassId) (cR : Nat → ClassId) (τ : Mm) (c : Nat) (i : Int) : va_E := match (kd c).1 with
  | 0 => .inr ((kd c).2, (List.range (clN (kd c).2)).map fun k => mv ad (fval τ c i k))
  | 1 => .inl (cI, (kd c).2, .inl (fun j => i3 (τ c i (j : Int))))
  | t => .inl (cR t, (kd c).2, .inr (.inr (.inr (.inr (fun j => some (ad (rfa c j).1 (rfa c j).2))))))
def wsT (ad : Nat → Int → Nat) (cI : ClassId) (cR : Nat → ClassId) (τ : Mm) : va_W := cellsL.map fun q => (ad q.1 q.2, cE ad cI cR τ q.1 q.2)
def tysT (cI : ClassId) (cR : Nat → ClassId) : List (ClassId × FieldType) := [(cI, .int), (cR 2, .object RX2), (cR 3, .object RX4), (cR 4, .object RX3), (cR 5, .array .int)]
theorem wsT_at {ad : Nat → Int → Nat} {cI : ClassId} {cR : Nat → ClassId} {τ : Mm} {c : Nat} {i : Int} (h : vld (c, i)) (hc : 2 ≤ c) : ∃ k : Nat, cellsL[k]? = some (c, i) ∧ (wsT ad cI cR τ)[k]? = some (ad c i, cE ad cI cR τ c i) := by
  obtain ⟨k, hk⟩ := List.getElem?_of_mem (cellsL_mem h hc)
  exact ⟨k, hk, by unfold wsT; rw [List.getElem?_map, hk]; rfl⟩
theorem wsT_set {ad : Nat → Int → Nat} {cI : ClassId} {cR : Nat → ClassId} {τ τ' : Mm} {c : Nat} {i : Int} {k : Nat} (hk : cellsL[k]? = some (c, i)) {x : va_E} (hx : cE ad cI cR τ' c i = x)
    (hne : ∀ (c' : Nat) (i' : Int), ¬ (c' = c ∧ i' = i) → ∀ j : Int, τ' c' i' j = τ c' i' j) : (wsT ad cI cR τ).set k (ad c i, x) = wsT ad cI cR τ' := by
  have hlt := (List.getElem?_eq_some_iff.mp hk).1
  apply List.ext_getElem?
  intro n
  by_cases hn : k = n
  · subst hn
    unfold wsT
    rw [List.getElem?_set_self (by simpa using hlt), List.getElem?_map, hk, ← hx]
    rfl
  · rw [List.getElem?_set_ne hn]
    unfold wsT
    rw [List.getElem?_map, List.getElem?_map]
    cases hq : cellsL[n]? with
    | none => rfl
    | some q =>
      obtain ⟨c', i'⟩ := q
      have hd : ¬ (c' = c ∧ i' = i) := by
        rintro ⟨rfl, rfl⟩
        have h1 := List.getElem?_eq_some_iff.mp hk
        have h2 := List.getElem?_eq_some_iff.mp hq
        exact hn (List.getElem_inj (h₀ := h1.1) (h₁ := h2.1) cellsL_nd |>.mp (h1.2.trans h2.2.symm))
      have e := hne c' i' hd
      have e2 : cE ad cI cR τ c' i' = cE ad cI cR τ' c' i' := by
        unfold cE
        split
        · congr 2
          apply List.map_congr_left
          intro k _
          unfold fval
          rw [e]
        · congr 4
          funext j
          rw [e]
        · rfl
      simp [e2]
/-- one place gets another number -/
def mu (τ : Mm) (c : Nat) (i j v : Int) : Mm := fun c' i' j' => if c' = c ∧ i' = i ∧ j' = j then v else τ c' i' j'
/-- a stretch is copied -/
def cpy (τ : Mm) (c0 : Nat) (i0 sp : Int) (c1 : Nat) (i1 dp n : Int) : Mm := fun c i j => if c = c1 ∧ i = i1 ∧ dp ≤ j ∧ j < dp + n then τ c0 i0 (sp + (j - dp)) else τ c i j
theorem mu_self (τ : Mm) (c : Nat) (i j v : Int) : mu τ c i j v c i j = v := if_pos ⟨rfl, rfl, rfl⟩
theorem mu_ne {τ : Mm} {c c' : Nat} {i i' j j' v : Int} (h : ¬ (c' = c ∧ i' = i ∧ j' = j)) : mu τ c i j v c' i' j' = τ c' i' j' := if_neg h
def numF (j : Int) : Int := match j with
  | 0 => 4 | 1 => 2 | 2 => 2 | 3 => 4 | 4 => 5 | 5 => 4 | 6 => 7 | 7 => 5 | 8 => 3 | _ => 1
/-- what the memory's numbers are: ints, all -/
def rgF (τ : Mm) : Prop := ∀ (c : Nat) (i j : Int), inR (τ c i j)
theorem rgF_mu {τ : Mm} {c : Nat} {i j v : Int} (h : rgF τ) (hv : inR v) : rgF (mu τ c i j v) := fun c' i' j' => by
  unfold mu
  split
  · exact hv
  · exact h _ _ _
theorem rgF_cpy {τ : Mm} {c0 : Nat} {i0 sp : Int} {c1 : Nat} {i1 dp n : Int} (h : rgF τ) : rgF (cpy τ c0 i0 sp c1 i1 dp n) := fun c' i' j' => by
  unfold cpy
  split
  · exact h _ _ _
  · exact h _ _ _
/-- the world's cells hold the memory; the script's own row is what the memory says -/
def Wf (ad : Nat → Int → Nat) (cI : ClassId) (cR : Nat → ClassId) (D : va_G) (scr : Cell) (τ : Mm) (H : Heap) : Prop :=
  va_P D vwCl (wsT ad cI cR τ) H ∧ (scr.slots.size : Int) = τ 0 0 (-1) ∧ ∀ j : Nat, j < scr.slots.size → scr.slots[j]? = some (.int (i3 (τ 0 0 (j : Int))))
/-- what stays as it is: the tables, the script's cell, the row NUMBERS -/
def CF (ad : Nat → Int → Nat) (cI : ClassId) (cR : Nat → ClassId) (D : va_G) (scr num : Cell) (A : Nat → Prop) (U : State) : Prop :=
  va_K D vwCl (tysT cI cR) U ∧ (∀ τ : Mm, va_D A (wsT ad cI cR τ)) ∧
  (U.heap[ad 0 0]? = some scr ∧ ¬ A (ad 0 0) ∧ U.isArrayOf scr .int ∧ scr.vm ≠ .unknown) ∧
  (U.heap[ad 1 0]? = some num ∧ ¬ A (ad 1 0) ∧ U.isArrayOf num .int ∧ num.vm ≠ .unknown ∧ 10 ≤ num.slots.size ∧ ∀ j : Nat, j < 10 → num.slots[j]? = some (.int (i3 (numF (j : Int))))) ∧
  va_Z RX5 "NUMBERS" "[I" (.ref (ad 1 0)) A U U.heap
theorem CF.moved {ad : Nat → Int → Nat} {cI : ClassId} {cR : Nat → ClassId} {D : va_G} {scr num : Cell} {A : Nat → Prop} {u U : State} (h : CF ad cI cR D scr num A u) (hvm : u.vm.Alike U.vm) (hh : ∀ q : Nat, q < u.heap.size → ¬ A q → U.heap[q]? = u.heap[q]?) : CF ad cI cR D scr num A U := by
  obtain ⟨h1, h2, ⟨h3, h4, h5, h6⟩, ⟨h7, h8, h9, h10, h11⟩, h12⟩ := h
  refine ⟨h1.moved hvm, h2, ⟨?_, h4, State.isArrayOf_alike hvm h5, h6⟩, ⟨?_, h8, State.isArrayOf_alike hvm h9, h10, h11⟩, (h12.moved hvm).kept hh⟩
  · rw [hh _ (Array.getElem?_eq_some_iff.mp h3).1 h4]
    exact h3
  · rw [hh _ (Array.getElem?_eq_some_iff.mp h7).1 h8]
    exact h7
-- the rules of memory, over the machine
theorem kd_two {c a b : Nat} (h : kd c = (a, b)) (hx : a ≠ 9) : 2 ≤ c := by
  refine Nat.not_lt.mp fun hc => hx ?_
  rcases (by omega : c = 0 ∨ c = 1) with rfl | rfl <;> exact (congrArg Prod.fst h).symm
theorem map_set_at {α : Type} {N k : Nat} {f f' : Nat → α} {v : α} (hk : k < N) (h1 : f' k = v) (h2 : ∀ j, j ≠ k → f' j = f j) : ((List.range N).map f).set k v = (List.range N).map f' := by
  apply List.ext_getElem?
  intro n
  by_cases hn : k = n
  · subst hn
    rw [List.getElem?_set_self (by simpa using hk), List.getElem?_map, List.getElem?_range hk, ← h1]
    rfl
  · rw [List.getElem?_set_ne hn, List.getElem?_map, List.getElem?_map]
    by_cases h3 : n < N
    · rw [List.getElem?_range h3]
      simp [h2 n (fun h => hn h.symm)]
    · rw [List.getElem?_eq_none (by simpa using h3)]
      rfl
theorem gf_in {j : Int} {n : Nat} (h0 : 0 ≤ j) (h1 : j < n) (hr : inR j) : vp_in (i3 j) n := by
  rintro (h | h)
  · have h2 := (i3_lt hr (inR_lit rfl : inR 0)).mp h
    omega
  · rw [i3_nat hr] at h
    omega
section GMF
variable {ad : Nat → Int → Nat} {cI : ClassId} {cR : Nat → ClassId} {D : va_G} {scr num : Cell} {nc ns : Nat}
variable {p : Program} {l : Launch} {e : Env} {R : Room} {s : State} {m : MethodId} {args : Array Value} {below : List Frame} {meth : Method} {c : Code} {A : Nat → Prop} {Q : State → Prop} {nL : Nat} {cc : ByteArray} {own : String}
abbrev Gf (ad : Nat → Int → Nat) (cI : ClassId) (cR : Nat → ClassId) (D : va_G) (scr : Cell) (nc ns : Nat) (p : Program) (l : Launch) (e : Env) (R : Room) (s : State) (m : MethodId) (args : Array Value) (below : List Frame) (meth : Method) (c : Code) (A : Nat → Prop) (Q : State → Prop) (nL : Nat) : Nat → Lc → List Vl → Mm → Prop :=
  Gm ad (fun _ => vld) (Wf ad cI cR D scr) (fun _ => nc) (fun _ => ns) rgF p l e R s m args below meth c A Q nL
theorem cE_obj {τ : Mm} {k : Nat} {i : Int} {ci : Nat} (h : kd k = (0, ci)) : cE ad cI cR τ k i = .inr (ci, (List.range (clN ci)).map fun j => mv ad (fval τ k i j)) := by
  unfold cE
  rw [h]
  rfl
theorem cE_int {τ : Mm} {k : Nat} {i : Int} {n : Nat} (h : kd k = (1, n)) : cE ad cI cR τ k i = .inl (cI, n, .inl (fun j => i3 (τ k i (j : Int)))) := by
  unfold cE
  rw [h]
  rfl
theorem cE_ref {τ : Mm} {k : Nat} {i : Int} {t n : Nat} (h : kd k = (t + 2, n)) : cE ad cI cR τ k i = .inl (cR (t + 2), n, .inr (.inr (.inr (.inr (fun j => some (ad (rfa k j).1 (rfa k j).2)))))) := by
  unfold cE
  rw [h]
  rfl
/-- a field is read -/
theorem gf_get (CX : Cx p s m args meth c cc own nL) (CY : CF ad cI cR D scr num A s) {pc : Nat} {ls : Lc} {st : List Vl} {τ : Mm} {k : Nat} {i : Int} {idx ci j : Nat} {ty : FieldType}
    (hd : decode cc pc = .ok (.getfield idx, 3)) (hf : FLk own idx ci j ty) (hk : kd k = (0, ci)) (hr : ∀ q : Nat × Int, rff k i j = some q → vld q)
    (kk : Gf ad cI cR D scr nc ns p l e R s m args below meth c A Q nL (pc + 3) ls (fval τ k i j :: st) τ) : Gf ad cI cR D scr nc ns p l e R s m args below meth c A Q nL pc ls (vR k i :: st) τ := by
  obtain ⟨hx, hb, hml, hown, hts, hnest, hlk⟩ := CX
  obtain ⟨C, T, N, ty0, hci, hN, hj, hin, hty, hnm, hC, hty1, hlink⟩ := hf
  intro g1 g2 g3 H locs lsA g4 g5 g6
  obtain ⟨q1, g3⟩ := rS_cons.mp g3
  obtain ⟨k0, hk0, he⟩ := wsT_at (ad := ad) (cI := cI) (cR := cR) (τ := τ) q1 (kd_two hk (by decide))
  rw [cE_obj hk] at he
  have hv : ((List.range (clN ci)).map fun j => mv ad (fval τ k i j))[j]? = some (mv ad (fval τ k i j)) := by
    rw [List.getElem?_map, List.getElem?_range (by rw [← hN]; exact hj)]
    rfl
  have hrv : rV vld (fval τ k i j) := by
    unfold fval
    cases hq : rff k i j with
    | none => exact g1 _ _ _
    | some q => exact hr q hq
  have k' := kk g1 g2 (rS_cons.mpr ⟨hrv, g3⟩) H locs lsA g4 g5 g6
  rw [List.map_cons] at k'
  rcases hlink with hl | ⟨host, hl⟩
  · exact va_get hx hb hts hin hown CY.1 g4.1 k0 he hci j hj (hts _ hl) (fun x h => by rw [hC] at h; exact h) hv hd k'
  · exact va_getN hx hb hts hin hown CY.1 g4.1 k0 he hci j hj (va_Nw.use rfl (hnest _ hl)) (fun x h => by rw [hC] at h; exact h) hv hd k'
/-- a field of whole numbers is written -/
theorem gf_put (CX : Cx p s m args meth c cc own nL) (CY : CF ad cI cR D scr num A s) {pc : Nat} {ls : Lc} {st : List Vl} {τ : Mm} {k : Nat} {i a jz : Int} {idx ci j : Nat} {ty : FieldType}
    (hd : decode cc pc = .ok (.putfield idx, 3)) (hf : FLw own idx ci j ty) (hk : kd k = (0, ci)) (hr : rff k i j = none) (hz : (j : Int) = jz) (hn : narrow ty (.int (i3 a)) = .int (i3 a)) (hfit : fits ty (.int (i3 a)) = true)
    (kk : Gf ad cI cR D scr nc ns p l e R s m args below meth c A Q nL (pc + 3) ls st (mu τ k i jz a)) : Gf ad cI cR D scr nc ns p l e R s m args below meth c A Q nL pc ls (vI a :: vR k i :: st) τ := by
  obtain ⟨hx, hb, hml, hown, hts, hnest, hlk⟩ := CX
  obtain ⟨⟨C, T, N, ty0, hci, hN, hj, hin, hty, hnm, hC, hty1, hlink⟩, hfin⟩ := hf
  have hfin := hfin C T N hci
  intro g1 g2 g3 H locs lsA g4 g5 g6
  obtain ⟨q0, g3⟩ := rS_cons.mp g3
  obtain ⟨q1, g3⟩ := rS_cons.mp g3
  obtain ⟨k0, hk0, he⟩ := wsT_at (ad := ad) (cI := cI) (cR := cR) (τ := τ) q1 (kd_two hk (by decide))
  have hset : (wsT ad cI cR τ).set k0 (ad k i, .inr (ci, ((List.range (clN ci)).map fun j => mv ad (fval τ k i j)).set j (mv ad (vI a)))) = wsT ad cI cR (mu τ k i jz a) := by
    refine wsT_set hk0 ?_ (fun c' i' h j' => mu_ne fun h2 => h ⟨h2.1, h2.2.1⟩)
    rw [cE_obj hk]
    refine congrArg (fun z => Sum.inr (ci, z)) (map_set_at (by rw [← hN]; exact hj) ?_ ?_).symm
    · unfold fval
      rw [hr]
      show mv ad (vI (mu τ k i jz a k i j)) = _
      rw [hz, mu_self]
    · intro j2 hj2
      unfold fval
      cases rff k i j2 with
      | some q => rfl
      | none =>
        show mv ad (vI (mu τ k i jz a k i j2)) = mv ad (vI (τ k i j2))
        rw [mu_ne (fun h => hj2 (by have := h.2.2; omega))]
  rw [cE_obj hk] at he
  have hl2 : j < ((List.range (clN ci)).map fun j => mv ad (fval τ k i j)).length := by
    rw [List.length_map, List.length_range, ← hN]
    exact hj
  rcases hlink with hl | ⟨host, hl⟩
  · refine va_put (A := A) hx hb hts hin ty0 hty hnm hown CY.1 g4.1 (CY.2.1 τ) g5 k0 he hci j hj (hts _ hl) (fun x h => by rw [hC] at h; exact h) hfin ((hty j hj).trans (by rw [hty1])) hn hfit hl2 hd (fun H1 locs1 hP1 hD1 hS1 => ?_)
    have hP1 : va_P D vwCl ((wsT ad cI cR τ).set k0 (ad k i, .inr (ci, ((List.range (clN ci)).map fun j => mv ad (fval τ k i j)).set j (mv ad (vI a))))) H1 := hP1
    rw [hset] at hP1
    exact kk (rgF_mu g1 q0) g2 g3 H1 locs1 lsA ⟨hP1, by rw [mu_ne (fun h => by have h1 := kd_two hk (by decide); omega)]; exact g4.2.1, fun z hz2 => by rw [mu_ne (fun h => by have h1 := kd_two hk (by decide); omega)]; exact g4.2.2 z hz2⟩ hS1 g6
  · refine va_putN (A := A) hx hb hts hin ty0 hty hnm hown CY.1 g4.1 (CY.2.1 τ) g5 k0 he hci j hj (va_Nw.use rfl (hnest _ hl)) (fun x h => by rw [hC] at h; exact h) hfin ((hty j hj).trans (by rw [hty1])) hn hfit hl2 hd (fun H1 locs1 hP1 hD1 hS1 => ?_)
    have hP1 : va_P D vwCl ((wsT ad cI cR τ).set k0 (ad k i, .inr (ci, ((List.range (clN ci)).map fun j => mv ad (fval τ k i j)).set j (mv ad (vI a))))) H1 := hP1
    rw [hset] at hP1
    exact kk (rgF_mu g1 q0) g2 g3 H1 locs1 lsA ⟨hP1, by rw [mu_ne (fun h => by have h1 := kd_two hk (by decide); omega)]; exact g4.2.1, fun z hz2 => by rw [mu_ne (fun h => by have h1 := kd_two hk (by decide); omega)]; exact g4.2.2 z hz2⟩ hS1 g6
/-- a row of whole numbers is read -/
theorem gf_iald (CX : Cx p s m args meth c cc own nL) (CY : CF ad cI cR D scr num A s) {pc : Nat} {ls : Lc} {st : List Vl} {τ : Mm} {k : Nat} {i j : Int} {n : Nat}
    (hd : decode cc pc = .ok (.iaload, 1)) (hk : kd k = (1, n)) (h0 : 0 ≤ j) (h1 : j < n)
    (kk : Gf ad cI cR D scr nc ns p l e R s m args below meth c A Q nL (pc + 1) ls (vI (τ k i j) :: st) τ) : Gf ad cI cR D scr nc ns p l e R s m args below meth c A Q nL pc ls (vI j :: vR k i :: st) τ := by
  obtain ⟨hx, hb, hml, hown, hts, hnest, hlk⟩ := CX
  intro g1 g2 g3 H locs lsA g4 g5 g6
  obtain ⟨q0, g3⟩ := rS_cons.mp g3
  obtain ⟨q1, g3⟩ := rS_cons.mp g3
  obtain ⟨k0, hk0, he⟩ := wsT_at (ad := ad) (cI := cI) (cR := cR) (τ := τ) q1 (kd_two hk (by decide))
  rw [cE_int hk] at he
  have k' := kk g1 g2 (rS_cons.mpr ⟨g1 _ _ _, g3⟩) H locs lsA g4 g5 g6
  rw [List.map_cons] at k'
  refine va_iald hx hb CY.1 g4.1 k0 0 he rfl (gf_in h0 h1 q0) hd ?_
  rw [i3_nat q0, Int.toNat_of_nonneg h0]
  exact k'
/-- a row of whole numbers is written -/
theorem gf_iast (CX : Cx p s m args meth c cc own nL) (CY : CF ad cI cR D scr num A s) {pc : Nat} {ls : Lc} {st : List Vl} {τ : Mm} {k : Nat} {i j a : Int} {n : Nat}
    (hd : decode cc pc = .ok (.iastore, 1)) (hk : kd k = (1, n)) (h0 : 0 ≤ j) (h1 : j < n)
    (kk : Gf ad cI cR D scr nc ns p l e R s m args below meth c A Q nL (pc + 1) ls st (mu τ k i j a)) : Gf ad cI cR D scr nc ns p l e R s m args below meth c A Q nL pc ls (vI a :: vI j :: vR k i :: st) τ := by
  obtain ⟨hx, hb, hml, hown, hts, hnest, hlk⟩ := CX
  intro g1 g2 g3 H locs lsA g4 g5 g6
  obtain ⟨qa, g3⟩ := rS_cons.mp g3
  obtain ⟨q0, g3⟩ := rS_cons.mp g3
  obtain ⟨q1, g3⟩ := rS_cons.mp g3
  obtain ⟨k0, hk0, he⟩ := wsT_at (ad := ad) (cI := cI) (cR := cR) (τ := τ) q1 (kd_two hk (by decide))
  have hset : (wsT ad cI cR τ).set k0 (ad k i, .inl (cI, n, .inl (upd (fun z => i3 (τ k i (z : Int))) (i3 j).toNatClampNeg (i3 a)))) = wsT ad cI cR (mu τ k i j a) := by
    refine wsT_set hk0 ?_ (fun c' i' h j' => mu_ne fun h2 => h ⟨h2.1, h2.2.1⟩)
    rw [cE_int hk]
    refine congrArg (fun z => Sum.inl (cI, n, Sum.inl z)) (funext fun z => ?_)
    rw [i3_nat q0]
    unfold upd
    by_cases hz : z = j.toNat
    · rw [if_pos hz, hz, Int.toNat_of_nonneg h0, mu_self]
    · rw [if_neg hz, mu_ne (fun h => hz (by have := h.2.2; omega))]
  rw [cE_int hk] at he
  refine va_iast hx hb CY.1 g4.1 (CY.2.1 τ) g5 k0 0 he rfl (gf_in h0 h1 q0) hd (fun H1 locs1 hP1 hD1 hS1 => ?_)
  rw [hset] at hP1
  exact kk (rgF_mu g1 qa) g2 g3 H1 locs1 lsA ⟨hP1, by rw [mu_ne (fun h => by have h1 := kd_two hk (by decide); omega)]; exact g4.2.1, fun z hz2 => by rw [mu_ne (fun h => by have h1 := kd_two hk (by decide); omega)]; exact g4.2.2 z hz2⟩ hS1 g6
/-- a row of references is read -/
theorem gf_aald (CX : Cx p s m args meth c cc own nL) (CY : CF ad cI cR D scr num A s) {pc : Nat} {ls : Lc} {st : List Vl} {τ : Mm} {k : Nat} {i j : Int} {t n : Nat}
    (hd : decode cc pc = .ok (.aaload, 1)) (hk : kd k = (t + 2, n)) (ht : t < 4) (h0 : 0 ≤ j) (h1 : j < n) (hv : vld (rfa k j))
    (kk : Gf ad cI cR D scr nc ns p l e R s m args below meth c A Q nL (pc + 1) ls (Sum.inr (Sum.inl (some (rfa k j))) :: st) τ) : Gf ad cI cR D scr nc ns p l e R s m args below meth c A Q nL pc ls (vI j :: vR k i :: st) τ := by
  obtain ⟨hx, hb, hml, hown, hts, hnest, hlk⟩ := CX
  intro g1 g2 g3 H locs lsA g4 g5 g6
  obtain ⟨q0, g3⟩ := rS_cons.mp g3
  obtain ⟨q1, g3⟩ := rS_cons.mp g3
  obtain ⟨k0, hk0, he⟩ := wsT_at (ad := ad) (cI := cI) (cR := cR) (τ := τ) q1 (kd_two hk (by omega))
  rw [cE_ref hk] at he
  have k' := kk g1 g2 (rS_cons.mpr ⟨hv, g3⟩) H locs lsA g4 g5 g6
  rw [List.map_cons] at k'
  obtain ⟨ty, htt, hrf⟩ : ∃ ty : FieldType, (tysT cI cR)[t + 1]? = some (cR (t + 2), ty) ∧ ty.isReference = true := by
    rcases (by omega : t = 0 ∨ t = 1 ∨ t = 2 ∨ t = 3) with rfl | rfl | rfl | rfl <;> exact ⟨_, rfl, rfl⟩
  have hin := gf_in h0 h1 q0
  have hlt : (i3 j).toNatClampNeg < n := Nat.not_le.mp fun q => hin (Or.inr q)
  refine W.aald (v := mv ad (Sum.inr (Sum.inl (some (rfa k j))))) (ty := ty) hx hb (g4.1 k0 _ he) ((CY.1.2 (t + 1) _ htt).1 n (fun z => va_rf (some (ad (rfa k z).1 (rfa k z).2)))) hrf (fun q => by cases q) ?_ ?_ rfl rfl hd k'
  · show ¬ (_ ∨ (arrV _ _ _).slots.size ≤ _)
    rw [arrV_size]
    exact hin
  · show (arrV _ _ _).slots[_]? = _
    rw [arrV_read _ _ hlt, i3_nat q0]
    have e : ((j.toNat : Nat) : Int) = j := Int.toNat_of_nonneg h0
    show some (Value.ref (ad (rfa k ((j.toNat : Nat) : Int)).1 (rfa k ((j.toNat : Nat) : Int)).2)) = _
    rw [e]
    rfl
/-- a row's length -/
theorem gf_alen (CX : Cx p s m args meth c cc own nL) (CY : CF ad cI cR D scr num A s) {pc : Nat} {ls : Lc} {st : List Vl} {τ : Mm} {k : Nat} {i nz : Int} {n : Nat}
    (hd : decode cc pc = .ok (.arraylength, 1)) (hk : kd k = (1, n)) (hz : (n : Int) = nz) (hn : n < 2147483648)
    (kk : Gf ad cI cR D scr nc ns p l e R s m args below meth c A Q nL (pc + 1) ls (vI nz :: st) τ) : Gf ad cI cR D scr nc ns p l e R s m args below meth c A Q nL pc ls (vR k i :: st) τ := by
  obtain ⟨hx, hb, hml, hown, hts, hnest, hlk⟩ := CX
  subst hz
  intro g1 g2 g3 H locs lsA g4 g5 g6
  obtain ⟨q1, g3⟩ := rS_cons.mp g3
  obtain ⟨k0, hk0, he⟩ := wsT_at (ad := ad) (cI := cI) (cR := cR) (τ := τ) q1 (kd_two hk (by decide))
  rw [cE_int hk] at he
  have k' := kk g1 g2 (rS_cons.mpr ⟨⟨by omega, by omega⟩, g3⟩) H locs lsA g4 g5 g6
  rw [List.map_cons] at k'
  exact va_alen hx hb CY.1 g4.1 k0 0 he rfl (v := i3 n) rfl hd k'
/-- the script is read -/
theorem gf_sald (CX : Cx p s m args meth c cc own nL) (CY : CF ad cI cR D scr num A s) {pc : Nat} {ls : Lc} {st : List Vl} {τ : Mm} {j : Int}
    (hd : decode cc pc = .ok (.iaload, 1)) (h0 : 0 ≤ j) (h1 : j < τ 0 0 (-1))
    (kk : Gf ad cI cR D scr nc ns p l e R s m args below meth c A Q nL (pc + 1) ls (vI (τ 0 0 j) :: st) τ) : Gf ad cI cR D scr nc ns p l e R s m args below meth c A Q nL pc ls (vI j :: vR 0 0 :: st) τ := by
  obtain ⟨hx, hb, hml, hown, hts, hnest, hlk⟩ := CX
  intro g1 g2 g3 H locs lsA g4 g5 g6
  obtain ⟨q0, g3⟩ := rS_cons.mp g3
  obtain ⟨q1, g3⟩ := rS_cons.mp g3
  have k' := kk g1 g2 (rS_cons.mpr ⟨g1 _ _ _, g3⟩) H locs lsA g4 g5 g6
  rw [List.map_cons] at k'
  obtain ⟨z1, z2, z3, z4⟩ := CY.2.2.1
  have hsz : j < (scr.slots.size : Int) := by rw [g4.2.1]; exact h1
  refine W.iald hx hb (a := ad 0 0) (v := .int (i3 (τ 0 0 j))) (by rw [g5.2.1 _ (Array.getElem?_eq_some_iff.mp z1).1 z2]; exact z1) z3 z4 (gf_in h0 hsz q0) ?_ rfl rfl hd k'
  rw [i3_nat q0, g4.2.2 j.toNat (by omega), Int.toNat_of_nonneg h0]
theorem gf_slen (CX : Cx p s m args meth c cc own nL) (CY : CF ad cI cR D scr num A s) {pc : Nat} {ls : Lc} {st : List Vl} {τ : Mm}
    (hd : decode cc pc = .ok (.arraylength, 1))
    (kk : Gf ad cI cR D scr nc ns p l e R s m args below meth c A Q nL (pc + 1) ls (vI (τ 0 0 (-1)) :: st) τ) : Gf ad cI cR D scr nc ns p l e R s m args below meth c A Q nL pc ls (vR 0 0 :: st) τ := by
  obtain ⟨hx, hb, hml, hown, hts, hnest, hlk⟩ := CX
  intro g1 g2 g3 H locs lsA g4 g5 g6
  obtain ⟨q1, g3⟩ := rS_cons.mp g3
  have k' := kk g1 g2 (rS_cons.mpr ⟨g1 _ _ _, g3⟩) H locs lsA g4 g5 g6
  rw [List.map_cons] at k'
  obtain ⟨z1, z2, z3, z4⟩ := CY.2.2.1
  exact W.alen hx hb (a := ad 0 0) (n := i3 (τ 0 0 (-1))) (by rw [g5.2.1 _ (Array.getElem?_eq_some_iff.mp z1).1 z2]; exact z1) z3 (by rw [← g4.2.1]; rfl) rfl rfl hd k'
/-- the row NUMBERS -/
theorem gf_nums (CX : Cx p s m args meth c cc own nL) (CY : CF ad cI cR D scr num A s) {pc : Nat} {ls : Lc} {st : List Vl} {τ : Mm} {idx : Nat}
    (hd : decode cc pc = .ok (.getstatic idx, 3)) (hl : SLk own idx)
    (kk : Gf ad cI cR D scr nc ns p l e R s m args below meth c A Q nL (pc + 3) ls (vR 1 0 :: st) τ) : Gf ad cI cR D scr nc ns p l e R s m args below meth c A Q nL pc ls st τ := by
  obtain ⟨hx, hb, hml, hown, hts, hnest, hlk⟩ := CX
  intro g1 g2 g3 H locs lsA g4 g5 g6
  have k' := kk g1 g2 (rS_cons.mpr ⟨(show vld (1, 0) from ⟨Int.le_refl 0, by decide⟩), g3⟩) H locs lsA g4 g5 g6
  rw [List.map_cons] at k'
  rcases hl with hl | ⟨host, hl⟩
  · exact va_gets hx hb CY.2.2.2.2 g5 hown (hts _ hl) (fun x h => h) hd k'
  · exact va_getsN hx hb CY.2.2.2.2 g5 hown (va_Nw.use rfl (hnest _ hl)) (fun x h => h) hd k'
theorem gf_nald (CX : Cx p s m args meth c cc own nL) (CY : CF ad cI cR D scr num A s) {pc : Nat} {ls : Lc} {st : List Vl} {τ : Mm} {j : Int}
    (hd : decode cc pc = .ok (.iaload, 1)) (h0 : 0 ≤ j) (h1 : j < 10)
    (kk : Gf ad cI cR D scr nc ns p l e R s m args below meth c A Q nL (pc + 1) ls (vI (numF j) :: st) τ) : Gf ad cI cR D scr nc ns p l e R s m args below meth c A Q nL pc ls (vI j :: vR 1 0 :: st) τ := by
  obtain ⟨hx, hb, hml, hown, hts, hnest, hlk⟩ := CX
  intro g1 g2 g3 H locs lsA g4 g5 g6
  obtain ⟨q0, g3⟩ := rS_cons.mp g3
  obtain ⟨q1, g3⟩ := rS_cons.mp g3
  have hnr : inR (numF j) := by unfold numF; split <;> exact inR_lit rfl
  have k' := kk g1 g2 (rS_cons.mpr ⟨hnr, g3⟩) H locs lsA g4 g5 g6
  rw [List.map_cons] at k'
  obtain ⟨z1, z2, z3, z4, z5, z6⟩ := CY.2.2.2.1
  refine W.iald hx hb (a := ad 1 0) (v := .int (i3 (numF j))) (by rw [g5.2.1 _ (Array.getElem?_eq_some_iff.mp z1).1 z2]; exact z1) z3 z4 (gf_in h0 (by omega) q0) ?_ rfl rfl hd k'
  rw [i3_nat q0, z6 j.toNat (by omega), Int.toNat_of_nonneg h0]
/-- a stretch of a row is copied -/
theorem gf_copy (CX : Cx p s m args meth c cc own nL) (CY : CF ad cI cR D scr num A s) (hR : 1 ≤ R.frames ∧ 40 ≤ R.locals) {pc : Nat} {ls : Lc} {st : List Vl} {τ : Mm} {k0 k1 : Nat} {i0 i1 sp dp n : Int} {n0 n1 idx : Nat}
    (hd : decode cc pc = .ok (.invokestatic idx, 3)) (hl : Cond.methodLink own idx arraycopyName ∈ gT ∧ Cond.native arraycopyName ∈ gT ∧ Cond.static arraycopyName ∈ gT ∧ Cond.initialized "java/lang/System" ∈ gT)
    (hk0 : kd k0 = (1, n0)) (hk1 : kd k1 = (1, n1)) (h1 : 0 ≤ sp) (h2 : 0 ≤ dp) (h3 : 0 ≤ n) (h4 : sp + n ≤ n0) (h5 : dp + n ≤ n1) (hst : csum st ≤ 8)
    (kk : Gf ad cI cR D scr nc ns p l e R s m args below meth c A Q nL (pc + 3) ls st (cpy τ k0 i0 sp k1 i1 dp n)) : Gf ad cI cR D scr nc ns p l e R s m args below meth c A Q nL pc ls (vI n :: vI dp :: vR k1 i1 :: vI sp :: vR k0 i0 :: st) τ := by
  obtain ⟨hx, hb, hml, hown, hts, hnest, hlk⟩ := CX
  intro g1 g2 g3 H locs lsA g4 g5 g6
  obtain ⟨qn, g3⟩ := rS_cons.mp g3
  obtain ⟨qd, g3⟩ := rS_cons.mp g3
  obtain ⟨q1, g3⟩ := rS_cons.mp g3
  obtain ⟨qs, g3⟩ := rS_cons.mp g3
  obtain ⟨q0, g3⟩ := rS_cons.mp g3
  obtain ⟨p0, hp0, he0⟩ := wsT_at (ad := ad) (cI := cI) (cR := cR) (τ := τ) q0 (kd_two hk0 (by decide))
  obtain ⟨p1, hp1, he1⟩ := wsT_at (ad := ad) (cI := cI) (cR := cR) (τ := τ) q1 (kd_two hk1 (by decide))
  have hset : (wsT ad cI cR τ).set p1 (ad k1 i1, .inl (cI, n1, .inl (va_cpy (fun z => i3 (τ k0 i0 (z : Int))) (fun z => i3 (τ k1 i1 (z : Int))) (i3 sp).toNatClampNeg (i3 dp).toNatClampNeg (i3 n).toNatClampNeg))) = wsT ad cI cR (cpy τ k0 i0 sp k1 i1 dp n) := by
    refine wsT_set hp1 ?_ (fun c' i' h j' => if_neg fun h2 => h ⟨h2.1, h2.2.1⟩)
    rw [cE_int hk1]
    refine congrArg (fun z => Sum.inl (cI, n1, Sum.inl z)) (funext fun z => ?_)
    rw [i3_nat qs, i3_nat qd, i3_nat qn]
    unfold va_cpy cpy
    by_cases hz : dp.toNat ≤ z ∧ z < dp.toNat + n.toNat
    · rw [if_pos hz, if_pos ⟨rfl, rfl, by omega, by omega⟩]
      congr 2
      omega
    · rw [if_neg hz, if_neg (fun h => hz (by omega))]
  rw [cE_int hk0] at he0
  rw [cE_int hk1] at he1
  have hnl : ∀ z : Int, inR z → 0 ≤ z → ¬ i3 z < 0 := fun z hz h0 h => by
    have h2 := (i3_lt hz (inR_lit rfl : inR 0)).mp h
    omega
  refine va_copyi hx hb (hml.trans g6.2.1.symm) hown (hts _ hl.1) (hts _ hl.2.1) (hts _ hl.2.2.1) (hts _ hl.2.2.2) CY.1 g4.1 (CY.2.1 τ) g5 p0 p1 0 0 he0 he1 rfl rfl rfl (hnl _ qs h1) (hnl _ qd h2) (hnl _ qn h3) (by rw [i3_nat qs, i3_nat qn]; omega) (by rw [i3_nat qd, i3_nat qn]; omega) (fun _ _ => rfl) hR.1 ?_ hd (fun H1 locs1 hP1 hD1 hS1 => ?_)
  · have hw : nativeFrameWords "java/lang/System" "arraycopy" 5 + 11 ≤ 32 := by decide
    rw [mv_sum]
    omega
  · rw [hset] at hP1
    exact kk (rgF_cpy g1) g2 g3 H1 locs1 lsA ⟨hP1, by rw [show cpy τ k0 i0 sp k1 i1 dp n 0 0 (-1) = τ 0 0 (-1) from if_neg (fun h => by have h1 := kd_two hk1 (by decide); omega)]; exact g4.2.1, fun z hz2 => by rw [show cpy τ k0 i0 sp k1 i1 dp n 0 0 z = τ 0 0 z from if_neg (fun h => by have h1 := kd_two hk1 (by decide); omega)]; exact g4.2.2 z hz2⟩ hS1 g6
end GMF
-- contracts, calls, returns; what a method comes to
theorem nT_moved {s U : State} (h : ∀ w ∈ nT, va_Nw w s) (hW : s.WarmedH U.vm) : ∀ w ∈ nT, va_Nw w U := by
  intro w hw
  have h1 := h w hw
  have h2 := (List.mem_filter.mp hw).2
  cases w <;> first | (simp [isNest] at h2; done) | exact va_Nw.warmF hW h1 | exact va_Nw.warmM hW h1
theorem nT_same {u U : State} (h : ∀ w ∈ nT, va_Nw w u) (hv : u.vm = U.vm) : ∀ w ∈ nT, va_Nw w U := by
  intro w hw
  have h1 := h w hw
  have h2 := (List.mem_filter.mp hw).2
  cases w <;> first | (simp [isNest] at h2; done) | exact va_Nw.same rfl hv h1
theorem gT_good : ∀ w ∈ gT, (w.onTables && w.keeps) = true ∨ ∃ ty, w = .arrayClass ty := fun w hw => good_of_word (List.mem_filter.mp hw).2
theorem wsM_good {M : Nat} (h : MOK M) : GoodIn gT (wsM M) := by
  intro w hw
  rcases List.mem_cons.mp hw with rfl | hw
  · exact ⟨h.1, Or.inl rfl⟩
  · exact ⟨hw, gT_good w hw⟩
def rmd (d : Nat) : Room := { frames := d, cells := 0, slots := 0, locals := 40 * d }
/-- a method's start: its arguments, the world, the tables -/
def Pcm (ad : Nat → Int → Nat) (cI : ClassId) (cR : Nat → ClassId) (D : va_G) (scr num : Cell) (A : Nat → Prop) (as : List Vl) (τ : Mm) : Array Value → State → Prop :=
  va_Pc (as.map (mv ad)) (fun U => rS vld as ∧ Wf ad cI cR D scr τ U.heap ∧ CF ad cI cR D scr num A U ∧ (∀ w ∈ nT, va_Nw w U) ∧ rgF τ)
/-- and its end -/
def Qcm (ad : Nat → Int → Nat) (cI : ClassId) (cR : Nat → ClassId) (D : va_G) (scr : Cell) (A : Nat → Prop) (Post : Option Vl → Mm → Prop) : Array Value → State → Outcome → State → Prop :=
  fun _ st oc t => (∃ (r : Option Vl) (τ : Mm), oc = .returned (r.map (mv ad)) ∧ Post r τ ∧ (∀ v : Vl, r = some v → rV vld v) ∧ rgF τ ∧ Wf ad cI cR D scr τ t.heap) ∧ va_F A st t
theorem Pcm_blind {ad : Nat → Int → Nat} {cI : ClassId} {cR : Nat → ClassId} {D : va_G} {scr num : Cell} {A : Nat → Prop} {as : List Vl} {τ : Mm} : FrameBlind (Pcm ad cI cR D scr num A as τ) := by
  intro a U g mk h
  obtain ⟨h1, h2, h3, h4, h5, h6⟩ := h
  exact ⟨h1, h2, h3, CF.moved (u := U) (U := U.calling g mk a) h4 (Vm.Alike.refl U.vm) (fun _ _ _ => rfl), nT_same h5 rfl, h6⟩
section CALLF
variable {ad : Nat → Int → Nat} {cI : ClassId} {cR : Nat → ClassId} {D : va_G} {scr num : Cell} {nc ns : Nat}
variable {p : Program} {l : Launch} {e : Env} {R : Room} {s : State} {m : MethodId} {args : Array Value} {below : List Frame} {meth : Method} {c : Code} {A : Nat → Prop} {Q : State → Prop} {nL : Nat} {cc : ByteArray} {own : String}
theorem gm_call {H : Heap} {locs : List Loc} {cells slots pc : Nat} {ls : Array Slot} {st0 rest : List Value} {a : Array Value} {Post : Option Vl → Mm → Prop}
    (hr : va_Run p l e R s m args below meth c H locs cells slots 0 0 (F0 m pc ls st0) rest (Qcm ad cI cR D scr A Post a) A) (hS : va_S A s.heap H locs)
    (kk : ∀ (r : Option Vl) (τ : Mm) (H1 : Heap) (locs1 : List Loc), Post r τ → (∀ v : Vl, r = some v → rV vld v) → rgF τ → Wf ad cI cR D scr τ H1 → va_S A s.heap H1 locs1 → W p l e R s m args below meth c H1 locs1 cells slots Q (F0 m (pc + 3) ls ((r.map (mv ad)).toList ++ rest))) :
    W p l e R s m args below meth c H locs cells slots Q (F0 m pc ls st0) := by
  intro T hT X
  obtain ⟨v, st₀, t, T', L, h0, X', hL, e1, e2, ⟨⟨r, τ, hv, hp, hb, hg, hw⟩, hz, hk⟩, st⟩ := hr T hT X
  cases hv
  rw [h0] at hz hk
  obtain ⟨t2, a1, b1⟩ := kk r τ T'.heap (locs ++ L) hp hb hg (by rw [e1]; exact hw)
    ⟨Nat.le_trans hS.1 (by rw [e1]; exact hz), fun q h1 h2 => by rw [e1, hk q (Nat.lt_of_lt_of_le h1 hS.1) h2]; exact hS.2.1 q h1 h2, fun q hq => by
      rcases List.mem_append.mp hq with h | h
      · exact hS.2.2 q h
      · exact hL q h⟩ T' rfl X'
  exact ⟨t2, st t2 a1, b1⟩
theorem pcm_at (CX : Cx p s m args meth c cc own nL) (CY : CF ad cI cR D scr num A s) {as : List Vl} {τ : Mm} {H : Heap} {locs : List Loc} (g1 : rgF τ) (g4 : Wf ad cI cR D scr τ H) (g5 : va_S A s.heap H locs) (hrs : rS vld as) : ∀ U : State, U.heap = H → s.WarmedH U.vm → Pcm ad cI cR D scr num A as τ (as.map (mv ad)).toArray U :=
  fun U hU hW => ⟨rfl, hrs, by rw [hU]; exact g4, CY.moved hW.alike (fun q h1 h2 => by rw [hU]; exact g5.2.1 q h1 h2), nT_moved CX.2.2.2.2.2.1 hW, g1⟩
theorem gf_inv (CX : Cx p s m args meth c cc own nL) (CY : CF ad cI cR D scr num A s) {d : Nat} (hR : d + 1 ≤ R.frames ∧ 40 * (d + 1) ≤ R.locals) (hC0 : nc ≤ R.cells ∧ ns ≤ R.slots) {Cal : Nat → List Vl → Mm → (Option Vl → Mm → Prop) → Prop}
    (hCal : ∀ (M : Nat) (as : List Vl) (τ : Mm) (Post : Option Vl → Mm → Prop), Cal M as τ Post → csum as ≤ ml M → MOK M → Met l (my M) (wsM M) (rmd d) (Pcm ad cI cR D scr num A as τ) (Qcm ad cI cR D scr A Post) 0 0 A)
    {pc : Nat} {ls : Lc} {rest as : List Vl} {τ : Mm} {k idx M ci : Nat} {i : Int}
    (hd : decode cc pc = .ok (.invokevirtual idx, 3)) (hl : VLk own idx M) (hk : kd k = (0, ci)) (hn : (vwCl[ci]?).map (fun q => q.1) = some (my M).cls) (hlen : as.length = mp M) (hcs : csum (vR k i :: as) ≤ ml M) (hst : csum rest ≤ 8)
    (kk : Cal M (vR k i :: as) τ (fun r τ' => Gf ad cI cR D scr nc ns p l e R s m args below meth c A Q nL (pc + 3) ls (r.toList ++ rest) τ')) : Gf ad cI cR D scr nc ns p l e R s m args below meth c A Q nL pc ls (as.reverse ++ vR k i :: rest) τ := by
  intro g1 g2 g3 H locs lsA g4 g5 g6
  have CX' := CX
  obtain ⟨hx, hb, hml, hown, hts, hnest, hlk⟩ := CX
  obtain ⟨hlink, hmok, hinst, hsel⟩ := hl
  obtain ⟨ga, gr⟩ := rS_app.mp g3
  obtain ⟨q1, gr⟩ := rS_cons.mp gr
  have gas : rS vld (vR k i :: as) := rS_cons.mpr ⟨q1, rS_rev.mp ga⟩
  obtain ⟨k0, hk0, he⟩ := wsT_at (ad := ad) (cI := cI) (cR := cR) (τ := τ) q1 (kd_two hk (by decide))
  rw [cE_obj hk] at he
  obtain ⟨q, hq, hqn⟩ := Option.map_eq_some_iff.mp hn
  have hrec := va_recv CY.1 g4.1 hq he
  rw [hqn] at hrec
  have hM := hCal M (vR k i :: as) τ _ kk hcs hmok
  have hgood := wsM_good hmok
  have hR2 : (rmd d).frames + 1 ≤ R.frames ∧ 8 + (ml M + 11) + (rmd d).locals ≤ R.locals := ⟨hR.1, by have h1 := hmok.2.2.2.2.1; show 8 + (ml M + 11) + 40 * d ≤ R.locals; omega⟩
  have hdd : (my M).cls ≠ "java/lang/invoke/MethodHandle" ∧ (my M).cls ≠ "java/lang/invoke/VarHandle" ∧ (parseMethodDescriptor (my M).desc).map (fun d => d.parameters.length) = some (mp M) := ⟨hmok.2.2.1.1, hmok.2.2.1.2, hmok.2.2.2.1⟩
  have hp : PreV s H (my M).cls (ad k i) (Pcm ad cI cR D scr num A (vR k i :: as) τ) (as.map (mv ad)) := ⟨Pcm_blind, hrec, pcm_at CX' CY g1 g4 g5 gas⟩
  have hfin : ∀ hr : va_Run p l e R s m args below meth c H locs nc ns 0 0 (F0 m pc lsA (List.map (mv ad) (as.reverse ++ vR k i :: rest))) (rest.map (mv ad)) (Qcm ad cI cR D scr A (fun r τ' => Gf ad cI cR D scr nc ns p l e R s m args below meth c A Q nL (pc + 3) ls (r.toList ++ rest) τ') (Value.ref (ad k i) :: as.map (mv ad)).toArray) A,
      W p l e R s m args below meth c H locs nc ns Q (F0 m pc lsA (List.map (mv ad) (as.reverse ++ vR k i :: rest))) := fun hr => by
    refine gm_call hr g5 (fun r τ' H1 locs1 hpost hrv hrg hw hS1 => ?_)
    have k' := hpost hrg g2 (rS_app.mpr ⟨fun v hv => hrv v (by
      cases r with
      | none => simp at hv
      | some w => simp at hv; rw [hv]), gr⟩) H1 locs1 lsA hw hS1 g6
    rw [List.map_append] at k'
    cases r <;> exact k'
  have hstack : List.map (mv ad) (as.reverse ++ vR k i :: rest) = (as.map (mv ad)).reverse ++ .ref (ad k i) :: rest.map (mv ad) := by
    rw [List.map_append, List.map_reverse]
    rfl
  rcases hlink with hlnk | ⟨host, hlnk⟩
  · exact hfin (va_runV (mc := 0) (ms := 0) ⟨hx, hb, hml, hown, hts⟩ hM ⟨callB_of (mp M) hts hgood rfl rfl rfl (hts _ hmok.2.1) (hts _ hlnk) hdd hR2, hts _ hinst, hts _ hsel⟩ hp rfl (by rw [List.length_map]; exact hlen) g6.2.1 hstack (lv_room (by rw [mv_sum]; exact hst)) hd hC0)
  · exact hfin (va_runVN (mc := 0) (ms := 0) ⟨hx, hb, hml, hown, hts⟩ hM ⟨va_cnB (mp M) hts hgood rfl rfl rfl (hnest _ hlnk) (hts _ hmok.2.1) hdd hR2, hts _ hinst, hts _ hsel⟩ hp rfl (by rw [List.length_map]; exact hlen) g6.2.1 hstack (lv_room (by rw [mv_sum]; exact hst)) hd hC0)
theorem gf_ins (CX : Cx p s m args meth c cc own nL) (CY : CF ad cI cR D scr num A s) {d : Nat} (hR : d + 1 ≤ R.frames ∧ 40 * (d + 1) ≤ R.locals) (hC0 : nc ≤ R.cells ∧ ns ≤ R.slots) {Cal : Nat → List Vl → Mm → (Option Vl → Mm → Prop) → Prop}
    (hCal : ∀ (M : Nat) (as : List Vl) (τ : Mm) (Post : Option Vl → Mm → Prop), Cal M as τ Post → csum as ≤ ml M → MOK M → Met l (my M) (wsM M) (rmd d) (Pcm ad cI cR D scr num A as τ) (Qcm ad cI cR D scr A Post) 0 0 A)
    {pc : Nat} {ls : Lc} {rest as : List Vl} {τ : Mm} {idx M : Nat}
    (hd : decode cc pc = .ok (.invokestatic idx, 3)) (hl : TLk own idx M) (hlen : as.length = mp M) (hcs : csum as ≤ ml M) (hst : csum rest ≤ 8)
    (kk : Cal M as τ (fun r τ' => Gf ad cI cR D scr nc ns p l e R s m args below meth c A Q nL (pc + 3) ls (r.toList ++ rest) τ')) : Gf ad cI cR D scr nc ns p l e R s m args below meth c A Q nL pc ls (as.reverse ++ rest) τ := by
  intro g1 g2 g3 H locs lsA g4 g5 g6
  have CX' := CX
  obtain ⟨hx, hb, hml, hown, hts, hnest, hlk⟩ := CX
  obtain ⟨hlink, hmok, hstat⟩ := hl
  obtain ⟨ga, gr⟩ := rS_app.mp g3
  have gas : rS vld as := rS_rev.mp ga
  have hM := hCal M as τ _ kk hcs hmok
  have hgood := wsM_good hmok
  have hR2 : (rmd d).frames + 1 ≤ R.frames ∧ 8 + (ml M + 11) + (rmd d).locals ≤ R.locals := ⟨hR.1, by have h1 := hmok.2.2.2.2.1; show 8 + (ml M + 11) + 40 * d ≤ R.locals; omega⟩
  have hdd : (my M).cls ≠ "java/lang/invoke/MethodHandle" ∧ (my M).cls ≠ "java/lang/invoke/VarHandle" ∧ (parseMethodDescriptor (my M).desc).map (fun d => d.parameters.length) = some (mp M) := ⟨hmok.2.2.1.1, hmok.2.2.1.2, hmok.2.2.2.1⟩
  have hp : PreS s H (Pcm ad cI cR D scr num A as τ) (as.map (mv ad)) := ⟨Pcm_blind, pcm_at CX' CY g1 g4 g5 gas⟩
  have hfin : ∀ hr : va_Run p l e R s m args below meth c H locs nc ns 0 0 (F0 m pc lsA (List.map (mv ad) (as.reverse ++ rest))) (rest.map (mv ad)) (Qcm ad cI cR D scr A (fun r τ' => Gf ad cI cR D scr nc ns p l e R s m args below meth c A Q nL (pc + 3) ls (r.toList ++ rest) τ') (as.map (mv ad)).toArray) A,
      W p l e R s m args below meth c H locs nc ns Q (F0 m pc lsA (List.map (mv ad) (as.reverse ++ rest))) := fun hr => by
    refine gm_call hr g5 (fun r τ' H1 locs1 hpost hrv hrg hw hS1 => ?_)
    have k' := hpost hrg g2 (rS_app.mpr ⟨fun v hv => hrv v (by
      cases r with
      | none => simp at hv
      | some w => simp at hv; rw [hv]), gr⟩) H1 locs1 lsA hw hS1 g6
    rw [List.map_append] at k'
    cases r <;> exact k'
  have hstack : List.map (mv ad) (as.reverse ++ rest) = (as.map (mv ad)).reverse ++ rest.map (mv ad) := by
    rw [List.map_append, List.map_reverse]
  rcases hlink with hlnk | ⟨host, hlnk⟩
  · exact hfin (va_runS (mc := 0) (ms := 0) ⟨hx, hb, hml, hown, hts⟩ hM ⟨callB_of (mp M) hts hgood rfl rfl rfl (hts _ hmok.2.1) (hts _ hlnk) hdd hR2, hts _ hstat⟩ hp rfl (by rw [List.length_map]; exact hlen) g6.2.1 hstack (lv_room (by rw [mv_sum]; exact hst)) hd hC0)
  · exact hfin (va_runSN (mc := 0) (ms := 0) ⟨hx, hb, hml, hown, hts⟩ hM ⟨va_cnB (mp M) hts hgood rfl rfl rfl (hnest _ hlnk) (hts _ hmok.2.1) hdd hR2, hts _ hstat, trivial⟩ hp rfl (by rw [List.length_map]; exact hlen) g6.2.1 hstack (lv_room (by rw [mv_sum]; exact hst)) hd hC0)
theorem gf_iret (CX : Cx p s m args meth c cc own nL) {Post : Option Vl → Mm → Prop} {pc : Nat} {ls : Lc} {τ : Mm} {a : Int} (hr : meth.sig.returnType = some .int) (hd : decode cc pc = .ok (.ireturn, 1)) (hp : Post (some (vI a)) τ) :
    Gf ad cI cR D scr 0 0 p l e R s m args below meth c A (MQ below (Qcm ad cI cR D scr A Post) args s 0 0 A) nL pc ls [vI a] τ := by
  intro g1 g2 g3 H locs lsA g4 g5 g6
  obtain ⟨hx, hb, hml, hown, hts, hnest, hlk⟩ := CX
  exact W.iret (v := i3 a) hx hb hr (fun t ht hW => ⟨⟨some (vI a), τ, rfl, hp, fun v hv => by cases hv; exact (rS_cons.mp g3).1, g1, by rw [ht]; exact g4⟩, g5.F ht⟩) g5.2.2 hd (hlocks := hlk)
theorem gf_zret (CX : Cx p s m args meth c cc own nL) {Post : Option Vl → Mm → Prop} {pc : Nat} {ls : Lc} {τ : Mm} {a : Int} (hr : meth.sig.returnType = some .boolean) (hd : decode cc pc = .ok (.ireturn, 1)) (ha : a = 0 ∨ a = 1) (hp : Post (some (vI a)) τ) :
    Gf ad cI cR D scr 0 0 p l e R s m args below meth c A (MQ below (Qcm ad cI cR D scr A Post) args s 0 0 A) nL pc ls [vI a] τ := by
  intro g1 g2 g3 H locs lsA g4 g5 g6
  obtain ⟨hx, hb, hml, hown, hts, hnest, hlk⟩ := CX
  exact W.zret (v := i3 a) hx hb hr (by rcases ha with rfl | rfl <;> rfl) (fun t ht hW => ⟨⟨some (vI a), τ, rfl, hp, fun v hv => by cases hv; exact (rS_cons.mp g3).1, g1, by rw [ht]; exact g4⟩, g5.F ht⟩) g5.2.2 hd (hlocks := hlk)
theorem gf_vret (CX : Cx p s m args meth c cc own nL) {Post : Option Vl → Mm → Prop} {pc : Nat} {ls : Lc} {τ : Mm} (hr : meth.sig.returnType = none) (hd : decode cc pc = .ok (.return_, 1)) (hp : Post none τ) :
    Gf ad cI cR D scr 0 0 p l e R s m args below meth c A (MQ below (Qcm ad cI cR D scr A Post) args s 0 0 A) nL pc ls [] τ := by
  intro g1 g2 g3 H locs lsA g4 g5 g6
  obtain ⟨hx, hb, hml, hown, hts, hnest, hlk⟩ := CX
  exact W.vret hx hb hr (fun t ht hW => ⟨⟨none, τ, rfl, hp, fun v hv => by (cases hv), g1, by rw [ht]; exact g4⟩, g5.F ht⟩) g5.2.2 hd (hlocks := hlk)
theorem gf_aret (CX : Cx p s m args meth c cc own nL) {Post : Option Vl → Mm → Prop} {pc : Nat} {ls : Lc} {τ : Mm} {n : String} {q : Option (Nat × Int)} (hr : meth.sig.returnType = some (.object n)) (hd : decode cc pc = .ok (.areturn, 1)) (hp : Post (some (Sum.inr (Sum.inl q))) τ) :
    Gf ad cI cR D scr 0 0 p l e R s m args below meth c A (MQ below (Qcm ad cI cR D scr A Post) args s 0 0 A) nL pc ls [Sum.inr (Sum.inl q)] τ := by
  intro g1 g2 g3 H locs lsA g4 g5 g6
  obtain ⟨hx, hb, hml, hown, hts, hnest, hlk⟩ := CX
  exact W.aret (v := mv ad (Sum.inr (Sum.inl q))) hx hb hr (Or.inl ⟨n, rfl⟩) (by rcases q with _ | q; exact Or.inl rfl; exact Or.inr ⟨_, rfl⟩) (fun t ht hW => ⟨⟨some (Sum.inr (Sum.inl q)), τ, rfl, hp, fun v hv => by cases hv; exact (rS_cons.mp g3).1, g1, by rw [ht]; exact g4⟩, g5.F ht⟩) g5.2.2 hd (hlocks := hlk)
end CALLF
def M_getI (cc : ByteArray) (own : String) (Cal : Nat → List Vl → Mm → (Option Vl → Mm → Prop) → Prop) (K : Nat → Lc → List Vl → Mm → Prop) : Prop := ∀ {pc : Nat} {ls : Lc} {st : List Vl} {τ : Mm} {k : Nat} {i jz : Int} {idx ci j : Nat} {ty : FieldType}, (decode cc pc = .ok (.getfield idx, 3)) → (FLk own idx ci j ty) → (kd k = (0, ci)) → (rff k i j = none) → ((j : Int) = jz) → (K (pc + 3) ls (vI (τ k i jz) :: st) τ) → K pc ls (vR k i :: st) τ
def M_getR (cc : ByteArray) (own : String) (Cal : Nat → List Vl → Mm → (Option Vl → Mm → Prop) → Prop) (K : Nat → Lc → List Vl → Mm → Prop) : Prop := ∀ {pc : Nat} {ls : Lc} {st : List Vl} {τ : Mm} {k : Nat} {i : Int} {idx ci j : Nat} {ty : FieldType} {q : Nat × Int}, (decode cc pc = .ok (.getfield idx, 3)) → (FLk own idx ci j ty) → (kd k = (0, ci)) → (rff k i j = some q) → (vld q) → (K (pc + 3) ls (Sum.inr (Sum.inl (some q)) :: st) τ) → K pc ls (vR k i :: st) τ
def M_putI (cc : ByteArray) (own : String) (Cal : Nat → List Vl → Mm → (Option Vl → Mm → Prop) → Prop) (K : Nat → Lc → List Vl → Mm → Prop) : Prop := ∀ {pc : Nat} {ls : Lc} {st : List Vl} {τ : Mm} {k : Nat} {i a jz : Int} {idx ci j : Nat}, (decode cc pc = .ok (.putfield idx, 3)) → (FLw own idx ci j .int) → (kd k = (0, ci)) → (rff k i j = none) → ((j : Int) = jz) → (K (pc + 3) ls st (mu τ k i jz a)) → K pc ls (vI a :: vR k i :: st) τ
def M_putZ (cc : ByteArray) (own : String) (Cal : Nat → List Vl → Mm → (Option Vl → Mm → Prop) → Prop) (K : Nat → Lc → List Vl → Mm → Prop) : Prop := ∀ {pc : Nat} {ls : Lc} {st : List Vl} {τ : Mm} {k : Nat} {i a jz : Int} {idx ci j : Nat}, (decode cc pc = .ok (.putfield idx, 3)) → (FLw own idx ci j .boolean) → (kd k = (0, ci)) → (rff k i j = none) → ((j : Int) = jz) → (a = 0 ∨ a = 1) → (K (pc + 3) ls st (mu τ k i jz a)) → K pc ls (vI a :: vR k i :: st) τ
def M_iald (cc : ByteArray) (own : String) (Cal : Nat → List Vl → Mm → (Option Vl → Mm → Prop) → Prop) (K : Nat → Lc → List Vl → Mm → Prop) : Prop := ∀ {pc : Nat} {ls : Lc} {st : List Vl} {τ : Mm} {k : Nat} {i j : Int} {n : Nat}, (decode cc pc = .ok (.iaload, 1)) → (kd k = (1, n)) → (0 ≤ j) → (j < (n : Int)) → (K (pc + 1) ls (vI (τ k i j) :: st) τ) → K pc ls (vI j :: vR k i :: st) τ
def M_iast (cc : ByteArray) (own : String) (Cal : Nat → List Vl → Mm → (Option Vl → Mm → Prop) → Prop) (K : Nat → Lc → List Vl → Mm → Prop) : Prop := ∀ {pc : Nat} {ls : Lc} {st : List Vl} {τ : Mm} {k : Nat} {i j a : Int} {n : Nat}, (decode cc pc = .ok (.iastore, 1)) → (kd k = (1, n)) → (0 ≤ j) → (j < (n : Int)) → (K (pc + 1) ls st (mu τ k i j a)) → K pc ls (vI a :: vI j :: vR k i :: st) τ
def M_aald (cc : ByteArray) (own : String) (Cal : Nat → List Vl → Mm → (Option Vl → Mm → Prop) → Prop) (K : Nat → Lc → List Vl → Mm → Prop) : Prop := ∀ {pc : Nat} {ls : Lc} {st : List Vl} {τ : Mm} {k : Nat} {i j : Int} {t n : Nat}, (decode cc pc = .ok (.aaload, 1)) → (kd k = (t + 2, n)) → (t < 4) → (0 ≤ j) → (j < (n : Int)) → (vld (rfa k j)) → (K (pc + 1) ls (Sum.inr (Sum.inl (some (rfa k j))) :: st) τ) → K pc ls (vI j :: vR k i :: st) τ
def M_alen (cc : ByteArray) (own : String) (Cal : Nat → List Vl → Mm → (Option Vl → Mm → Prop) → Prop) (K : Nat → Lc → List Vl → Mm → Prop) : Prop := ∀ {pc : Nat} {ls : Lc} {st : List Vl} {τ : Mm} {k : Nat} {i nz : Int} {n : Nat}, (decode cc pc = .ok (.arraylength, 1)) → (kd k = (1, n)) → ((n : Int) = nz) → (n < 2147483648) → (K (pc + 1) ls (vI nz :: st) τ) → K pc ls (vR k i :: st) τ
def M_sald (cc : ByteArray) (own : String) (Cal : Nat → List Vl → Mm → (Option Vl → Mm → Prop) → Prop) (K : Nat → Lc → List Vl → Mm → Prop) : Prop := ∀ {pc : Nat} {ls : Lc} {st : List Vl} {τ : Mm} {j : Int}, (decode cc pc = .ok (.iaload, 1)) → (0 ≤ j) → (j < τ 0 0 (-1)) → (K (pc + 1) ls (vI (τ 0 0 j) :: st) τ) → K pc ls (vI j :: vR 0 0 :: st) τ
def M_slen (cc : ByteArray) (own : String) (Cal : Nat → List Vl → Mm → (Option Vl → Mm → Prop) → Prop) (K : Nat → Lc → List Vl → Mm → Prop) : Prop := ∀ {pc : Nat} {ls : Lc} {st : List Vl} {τ : Mm}, (decode cc pc = .ok (.arraylength, 1)) → (K (pc + 1) ls (vI (τ 0 0 (-1)) :: st) τ) → K pc ls (vR 0 0 :: st) τ
def M_nums (cc : ByteArray) (own : String) (Cal : Nat → List Vl → Mm → (Option Vl → Mm → Prop) → Prop) (K : Nat → Lc → List Vl → Mm → Prop) : Prop := ∀ {pc : Nat} {ls : Lc} {st : List Vl} {τ : Mm} {idx : Nat}, (decode cc pc = .ok (.getstatic idx, 3)) → (SLk own idx) → (K (pc + 3) ls (vR 1 0 :: st) τ) → K pc ls st τ
def M_nald (cc : ByteArray) (own : String) (Cal : Nat → List Vl → Mm → (Option Vl → Mm → Prop) → Prop) (K : Nat → Lc → List Vl → Mm → Prop) : Prop := ∀ {pc : Nat} {ls : Lc} {st : List Vl} {τ : Mm} {j : Int}, (decode cc pc = .ok (.iaload, 1)) → (0 ≤ j) → (j < 10) → (K (pc + 1) ls (vI (numF j) :: st) τ) → K pc ls (vI j :: vR 1 0 :: st) τ
def M_copy (cc : ByteArray) (own : String) (Cal : Nat → List Vl → Mm → (Option Vl → Mm → Prop) → Prop) (K : Nat → Lc → List Vl → Mm → Prop) : Prop := ∀ {pc : Nat} {ls : Lc} {st : List Vl} {τ : Mm} {k0 k1 : Nat} {i0 i1 sp dp n : Int} {n0 n1 idx : Nat}, (decode cc pc = .ok (.invokestatic idx, 3)) → (Cond.methodLink own idx arraycopyName ∈ gT ∧ Cond.native arraycopyName ∈ gT ∧ Cond.static arraycopyName ∈ gT ∧ Cond.initialized "java/lang/System" ∈ gT) → (kd k0 = (1, n0)) → (kd k1 = (1, n1)) → (0 ≤ sp) → (0 ≤ dp) → (0 ≤ n) → (sp + n ≤ (n0 : Int)) → (dp + n ≤ (n1 : Int)) → (csum st ≤ 8) → (K (pc + 3) ls st (cpy τ k0 i0 sp k1 i1 dp n)) → K pc ls (vI n :: vI dp :: vR k1 i1 :: vI sp :: vR k0 i0 :: st) τ
def M_inv (cc : ByteArray) (own : String) (Cal : Nat → List Vl → Mm → (Option Vl → Mm → Prop) → Prop) (K : Nat → Lc → List Vl → Mm → Prop) : Prop := ∀ {pc : Nat} {ls : Lc} {rest as : List Vl} {τ : Mm} {k idx M ci : Nat} {i : Int}, (decode cc pc = .ok (.invokevirtual idx, 3)) → (VLk own idx M) → (kd k = (0, ci)) → ((vwCl[ci]?).map (fun q => q.1) = some (my M).cls) → (as.length = mp M) → (csum (vR k i :: as) ≤ ml M) → (csum rest ≤ 8) → (Cal M (vR k i :: as) τ (fun r τ2 => K (pc + 3) ls (r.toList ++ rest) τ2)) → K pc ls (as.reverse ++ vR k i :: rest) τ
def M_ins (cc : ByteArray) (own : String) (Cal : Nat → List Vl → Mm → (Option Vl → Mm → Prop) → Prop) (K : Nat → Lc → List Vl → Mm → Prop) : Prop := ∀ {pc : Nat} {ls : Lc} {rest as : List Vl} {τ : Mm} {idx M : Nat}, (decode cc pc = .ok (.invokestatic idx, 3)) → (TLk own idx M) → (as.length = mp M) → (csum as ≤ ml M) → (csum rest ≤ 8) → (Cal M as τ (fun r τ2 => K (pc + 3) ls (r.toList ++ rest) τ2)) → K pc ls (as.reverse ++ rest) τ
def T_iret (cc : ByteArray) (ret : Option FieldType) (Post : Option Vl → Mm → Prop) (K : Nat → Lc → List Vl → Mm → Prop) : Prop := ∀ {pc : Nat} {ls : Lc} {τ : Mm} {a : Int}, (ret = some .int) → (decode cc pc = .ok (.ireturn, 1)) → (Post (some (vI a)) τ) → K pc ls [vI a] τ
def T_zret (cc : ByteArray) (ret : Option FieldType) (Post : Option Vl → Mm → Prop) (K : Nat → Lc → List Vl → Mm → Prop) : Prop := ∀ {pc : Nat} {ls : Lc} {τ : Mm} {a : Int}, (ret = some .boolean) → (decode cc pc = .ok (.ireturn, 1)) → (a = 0 ∨ a = 1) → (Post (some (vI a)) τ) → K pc ls [vI a] τ
def T_vret (cc : ByteArray) (ret : Option FieldType) (Post : Option Vl → Mm → Prop) (K : Nat → Lc → List Vl → Mm → Prop) : Prop := ∀ {pc : Nat} {ls : Lc} {τ : Mm}, (ret = none) → (decode cc pc = .ok (.return_, 1)) → (Post none τ) → K pc ls [] τ
def T_aret (cc : ByteArray) (ret : Option FieldType) (Post : Option Vl → Mm → Prop) (K : Nat → Lc → List Vl → Mm → Prop) : Prop := ∀ {pc : Nat} {ls : Lc} {τ : Mm} {n : String} {q : Option (Nat × Int)}, (ret = some (.object n)) → (decode cc pc = .ok (.areturn, 1)) → (Post (some (Sum.inr (Sum.inl q))) τ) → K pc ls [Sum.inr (Sum.inl q)] τ
def StpM (cc : ByteArray) (own : String) (Cal : Nat → List Vl → Mm → (Option Vl → Mm → Prop) → Prop) (K : Nat → Lc → List Vl → Mm → Prop) : Prop := StpC (fun _ => vld) rgF cc own K ∧ M_getI cc own Cal K ∧ M_getR cc own Cal K ∧ M_putI cc own Cal K ∧ M_putZ cc own Cal K ∧ M_iald cc own Cal K ∧ M_iast cc own Cal K ∧ M_aald cc own Cal K ∧ M_alen cc own Cal K ∧ M_sald cc own Cal K ∧ M_slen cc own Cal K ∧ M_nums cc own Cal K ∧ M_nald cc own Cal K ∧ M_copy cc own Cal K ∧ M_inv cc own Cal K ∧ M_ins cc own Cal K
def StpF (cc : ByteArray) (own : String) (ret : Option FieldType) (Cal : Nat → List Vl → Mm → (Option Vl → Mm → Prop) → Prop) (Post : Option Vl → Mm → Prop) (K : Nat → Lc → List Vl → Mm → Prop) : Prop := StpM cc own Cal K ∧ T_iret cc ret Post K ∧ T_zret cc ret Post K ∧ T_vret cc ret Post K ∧ T_aret cc ret Post K
section MROWS
variable {cc : ByteArray} {own : String} {ret : Option FieldType} {Cal : Nat → List Vl → Mm → (Option Vl → Mm → Prop) → Prop} {Post : Option Vl → Mm → Prop} {K : Nat → Lc → List Vl → Mm → Prop}
theorem m_getI (hK : StpM cc own Cal K) {pc : Nat} {ls : Lc} {st : List Vl} {τ : Mm} {k : Nat} {i jz : Int} {idx ci j : Nat} {ty : FieldType} (hd : decode cc pc = .ok (.getfield idx, 3)) (hf : FLk own idx ci j ty) (hk : kd k = (0, ci)) (hr : rff k i j = none) (hz : (j : Int) = jz) (k_ : K (pc + 3) ls (vI (τ k i jz) :: st) τ) : K pc ls (vR k i :: st) τ := hK.2.1 hd hf hk hr hz k_
theorem m_getR (hK : StpM cc own Cal K) {pc : Nat} {ls : Lc} {st : List Vl} {τ : Mm} {k : Nat} {i : Int} {idx ci j : Nat} {ty : FieldType} {q : Nat × Int} (hd : decode cc pc = .ok (.getfield idx, 3)) (hf : FLk own idx ci j ty) (hk : kd k = (0, ci)) (hr : rff k i j = some q) (hv : vld q) (k_ : K (pc + 3) ls (Sum.inr (Sum.inl (some q)) :: st) τ) : K pc ls (vR k i :: st) τ := hK.2.2.1 hd hf hk hr hv k_
theorem m_putI (hK : StpM cc own Cal K) {pc : Nat} {ls : Lc} {st : List Vl} {τ : Mm} {k : Nat} {i a jz : Int} {idx ci j : Nat} (hd : decode cc pc = .ok (.putfield idx, 3)) (hf : FLw own idx ci j .int) (hk : kd k = (0, ci)) (hr : rff k i j = none) (hz : (j : Int) = jz) (k_ : K (pc + 3) ls st (mu τ k i jz a)) : K pc ls (vI a :: vR k i :: st) τ := hK.2.2.2.1 hd hf hk hr hz k_
theorem m_putZ (hK : StpM cc own Cal K) {pc : Nat} {ls : Lc} {st : List Vl} {τ : Mm} {k : Nat} {i a jz : Int} {idx ci j : Nat} (hd : decode cc pc = .ok (.putfield idx, 3)) (hf : FLw own idx ci j .boolean) (hk : kd k = (0, ci)) (hr : rff k i j = none) (hz : (j : Int) = jz) (ha : a = 0 ∨ a = 1) (k_ : K (pc + 3) ls st (mu τ k i jz a)) : K pc ls (vI a :: vR k i :: st) τ := hK.2.2.2.2.1 hd hf hk hr hz ha k_
theorem m_iald (hK : StpM cc own Cal K) {pc : Nat} {ls : Lc} {st : List Vl} {τ : Mm} {k : Nat} {i j : Int} {n : Nat} (hd : decode cc pc = .ok (.iaload, 1)) (hk : kd k = (1, n)) (h0 : 0 ≤ j) (h1 : j < (n : Int)) (k_ : K (pc + 1) ls (vI (τ k i j) :: st) τ) : K pc ls (vI j :: vR k i :: st) τ := hK.2.2.2.2.2.1 hd hk h0 h1 k_
theorem m_iast (hK : StpM cc own Cal K) {pc : Nat} {ls : Lc} {st : List Vl} {τ : Mm} {k : Nat} {i j a : Int} {n : Nat} (hd : decode cc pc = .ok (.iastore, 1)) (hk : kd k = (1, n)) (h0 : 0 ≤ j) (h1 : j < (n : Int)) (k_ : K (pc + 1) ls st (mu τ k i j a)) : K pc ls (vI a :: vI j :: vR k i :: st) τ := hK.2.2.2.2.2.2.1 hd hk h0 h1 k_
theorem m_aald (hK : StpM cc own Cal K) {pc : Nat} {ls : Lc} {st : List Vl} {τ : Mm} {k : Nat} {i j : Int} {t n : Nat} (hd : decode cc pc = .ok (.aaload, 1)) (hk : kd k = (t + 2, n)) (ht : t < 4) (h0 : 0 ≤ j) (h1 : j < (n : Int)) (hv : vld (rfa k j)) (k_ : K (pc + 1) ls (Sum.inr (Sum.inl (some (rfa k j))) :: st) τ) : K pc ls (vI j :: vR k i :: st) τ := hK.2.2.2.2.2.2.2.1 hd hk ht h0 h1 hv k_
theorem m_alen (hK : StpM cc own Cal K) {pc : Nat} {ls : Lc} {st : List Vl} {τ : Mm} {k : Nat} {i nz : Int} {n : Nat} (hd : decode cc pc = .ok (.arraylength, 1)) (hk : kd k = (1, n)) (hz : (n : Int) = nz) (hn : n < 2147483648) (k_ : K (pc + 1) ls (vI nz :: st) τ) : K pc ls (vR k i :: st) τ := hK.2.2.2.2.2.2.2.2.1 hd hk hz hn k_
theorem m_sald (hK : StpM cc own Cal K) {pc : Nat} {ls : Lc} {st : List Vl} {τ : Mm} {j : Int} (hd : decode cc pc = .ok (.iaload, 1)) (h0 : 0 ≤ j) (h1 : j < τ 0 0 (-1)) (k_ : K (pc + 1) ls (vI (τ 0 0 j) :: st) τ) : K pc ls (vI j :: vR 0 0 :: st) τ := hK.2.2.2.2.2.2.2.2.2.1 hd h0 h1 k_
theorem m_slen (hK : StpM cc own Cal K) {pc : Nat} {ls : Lc} {st : List Vl} {τ : Mm} (hd : decode cc pc = .ok (.arraylength, 1)) (k_ : K (pc + 1) ls (vI (τ 0 0 (-1)) :: st) τ) : K pc ls (vR 0 0 :: st) τ := hK.2.2.2.2.2.2.2.2.2.2.1 hd k_
theorem m_nums (hK : StpM cc own Cal K) {pc : Nat} {ls : Lc} {st : List Vl} {τ : Mm} {idx : Nat} (hd : decode cc pc = .ok (.getstatic idx, 3)) (hl : SLk own idx) (k_ : K (pc + 3) ls (vR 1 0 :: st) τ) : K pc ls st τ := hK.2.2.2.2.2.2.2.2.2.2.2.1 hd hl k_
theorem m_nald (hK : StpM cc own Cal K) {pc : Nat} {ls : Lc} {st : List Vl} {τ : Mm} {j : Int} (hd : decode cc pc = .ok (.iaload, 1)) (h0 : 0 ≤ j) (h1 : j < 10) (k_ : K (pc + 1) ls (vI (numF j) :: st) τ) : K pc ls (vI j :: vR 1 0 :: st) τ := hK.2.2.2.2.2.2.2.2.2.2.2.2.1 hd h0 h1 k_
theorem m_copy (hK : StpM cc own Cal K) {pc : Nat} {ls : Lc} {st : List Vl} {τ : Mm} {k0 k1 : Nat} {i0 i1 sp dp n : Int} {n0 n1 idx : Nat} (hd : decode cc pc = .ok (.invokestatic idx, 3)) (hl : Cond.methodLink own idx arraycopyName ∈ gT ∧ Cond.native arraycopyName ∈ gT ∧ Cond.static arraycopyName ∈ gT ∧ Cond.initialized "java/lang/System" ∈ gT) (hk0 : kd k0 = (1, n0)) (hk1 : kd k1 = (1, n1)) (h1 : 0 ≤ sp) (h2 : 0 ≤ dp) (h3 : 0 ≤ n) (h4 : sp + n ≤ (n0 : Int)) (h5 : dp + n ≤ (n1 : Int)) (hst : csum st ≤ 8) (k_ : K (pc + 3) ls st (cpy τ k0 i0 sp k1 i1 dp n)) : K pc ls (vI n :: vI dp :: vR k1 i1 :: vI sp :: vR k0 i0 :: st) τ := hK.2.2.2.2.2.2.2.2.2.2.2.2.2.1 hd hl hk0 hk1 h1 h2 h3 h4 h5 hst k_
theorem m_inv (hK : StpM cc own Cal K) {pc : Nat} {ls : Lc} {rest as : List Vl} {τ : Mm} {k idx M ci : Nat} {i : Int} (hd : decode cc pc = .ok (.invokevirtual idx, 3)) (hl : VLk own idx M) (hk : kd k = (0, ci)) (hn : (vwCl[ci]?).map (fun q => q.1) = some (my M).cls) (hlen : as.length = mp M) (hcs : csum (vR k i :: as) ≤ ml M) (hst : csum rest ≤ 8) (k_ : Cal M (vR k i :: as) τ (fun r τ2 => K (pc + 3) ls (r.toList ++ rest) τ2)) : K pc ls (as.reverse ++ vR k i :: rest) τ := hK.2.2.2.2.2.2.2.2.2.2.2.2.2.2.1 hd hl hk hn hlen hcs hst k_
theorem m_ins (hK : StpM cc own Cal K) {pc : Nat} {ls : Lc} {rest as : List Vl} {τ : Mm} {idx M : Nat} (hd : decode cc pc = .ok (.invokestatic idx, 3)) (hl : TLk own idx M) (hlen : as.length = mp M) (hcs : csum as ≤ ml M) (hst : csum rest ≤ 8) (k_ : Cal M as τ (fun r τ2 => K (pc + 3) ls (r.toList ++ rest) τ2)) : K pc ls (as.reverse ++ rest) τ := hK.2.2.2.2.2.2.2.2.2.2.2.2.2.2.2 hd hl hlen hcs hst k_
theorem t_iret (hK : StpF cc own ret Cal Post K) {pc : Nat} {ls : Lc} {τ : Mm} {a : Int} (hr : ret = some .int) (hd : decode cc pc = .ok (.ireturn, 1)) (hp : Post (some (vI a)) τ) : K pc ls [vI a] τ := hK.2.1 hr hd hp
theorem t_zret (hK : StpF cc own ret Cal Post K) {pc : Nat} {ls : Lc} {τ : Mm} {a : Int} (hr : ret = some .boolean) (hd : decode cc pc = .ok (.ireturn, 1)) (ha : a = 0 ∨ a = 1) (hp : Post (some (vI a)) τ) : K pc ls [vI a] τ := hK.2.2.1 hr hd ha hp
theorem t_vret (hK : StpF cc own ret Cal Post K) {pc : Nat} {ls : Lc} {τ : Mm} (hr : ret = none) (hd : decode cc pc = .ok (.return_, 1)) (hp : Post none τ) : K pc ls [] τ := hK.2.2.2.1 hr hd hp
theorem t_aret (hK : StpF cc own ret Cal Post K) {pc : Nat} {ls : Lc} {τ : Mm} {n : String} {q : Option (Nat × Int)} (hr : ret = some (.object n)) (hd : decode cc pc = .ok (.areturn, 1)) (hp : Post (some (Sum.inr (Sum.inl q))) τ) : K pc ls [Sum.inr (Sum.inl q)] τ := hK.2.2.2.2 hr hd hp
theorem m_inv0 (hK : StpM cc own Cal K) {pc : Nat} {ls : Lc} {rest : List Vl} {τ : Mm} {k idx M ci : Nat} {i : Int} (hd : decode cc pc = .ok (.invokevirtual idx, 3)) (hl : VLk own idx M) (hk : kd k = (0, ci)) (hn : (vwCl[ci]?).map (fun q => q.1) = some (my M).cls) (hlen : (0 : Nat) = mp M) (hcs : csum (vR k i :: []) ≤ ml M) (hst : csum rest ≤ 8) (k_ : Cal M (vR k i :: []) τ (fun r τ2 => K (pc + 3) ls (r.toList ++ rest) τ2)) : K pc ls (vR k i :: rest) τ := m_inv hK (as := []) hd hl hk hn hlen hcs hst k_
theorem m_inv1 (hK : StpM cc own Cal K) {pc : Nat} {ls : Lc} {rest : List Vl} {τ : Mm} {k idx M ci : Nat} {i : Int} {a1 : Vl} (hd : decode cc pc = .ok (.invokevirtual idx, 3)) (hl : VLk own idx M) (hk : kd k = (0, ci)) (hn : (vwCl[ci]?).map (fun q => q.1) = some (my M).cls) (hlen : (1 : Nat) = mp M) (hcs : csum (vR k i :: [a1]) ≤ ml M) (hst : csum rest ≤ 8) (k_ : Cal M (vR k i :: [a1]) τ (fun r τ2 => K (pc + 3) ls (r.toList ++ rest) τ2)) : K pc ls (a1 :: vR k i :: rest) τ := m_inv hK (as := [a1]) hd hl hk hn hlen hcs hst k_
theorem m_ins1 (hK : StpM cc own Cal K) {pc : Nat} {ls : Lc} {rest : List Vl} {τ : Mm} {idx M : Nat} {a1 : Vl} (hd : decode cc pc = .ok (.invokestatic idx, 3)) (hl : TLk own idx M) (hlen : (1 : Nat) = mp M) (hcs : csum [a1] ≤ ml M) (hst : csum rest ≤ 8) (k_ : Cal M [a1] τ (fun r τ2 => K (pc + 3) ls (r.toList ++ rest) τ2)) : K pc ls (a1 :: rest) τ := m_ins hK (as := [a1]) hd hl hlen hcs hst k_
theorem m_inv2 (hK : StpM cc own Cal K) {pc : Nat} {ls : Lc} {rest : List Vl} {τ : Mm} {k idx M ci : Nat} {i : Int} {a1 a2 : Vl} (hd : decode cc pc = .ok (.invokevirtual idx, 3)) (hl : VLk own idx M) (hk : kd k = (0, ci)) (hn : (vwCl[ci]?).map (fun q => q.1) = some (my M).cls) (hlen : (2 : Nat) = mp M) (hcs : csum (vR k i :: [a1, a2]) ≤ ml M) (hst : csum rest ≤ 8) (k_ : Cal M (vR k i :: [a1, a2]) τ (fun r τ2 => K (pc + 3) ls (r.toList ++ rest) τ2)) : K pc ls (a2 :: a1 :: vR k i :: rest) τ := m_inv hK (as := [a1, a2]) hd hl hk hn hlen hcs hst k_
theorem m_ins2 (hK : StpM cc own Cal K) {pc : Nat} {ls : Lc} {rest : List Vl} {τ : Mm} {idx M : Nat} {a1 a2 : Vl} (hd : decode cc pc = .ok (.invokestatic idx, 3)) (hl : TLk own idx M) (hlen : (2 : Nat) = mp M) (hcs : csum [a1, a2] ≤ ml M) (hst : csum rest ≤ 8) (k_ : Cal M [a1, a2] τ (fun r τ2 => K (pc + 3) ls (r.toList ++ rest) τ2)) : K pc ls (a2 :: a1 :: rest) τ := m_ins hK (as := [a1, a2]) hd hl hlen hcs hst k_
theorem m_inv3 (hK : StpM cc own Cal K) {pc : Nat} {ls : Lc} {rest : List Vl} {τ : Mm} {k idx M ci : Nat} {i : Int} {a1 a2 a3 : Vl} (hd : decode cc pc = .ok (.invokevirtual idx, 3)) (hl : VLk own idx M) (hk : kd k = (0, ci)) (hn : (vwCl[ci]?).map (fun q => q.1) = some (my M).cls) (hlen : (3 : Nat) = mp M) (hcs : csum (vR k i :: [a1, a2, a3]) ≤ ml M) (hst : csum rest ≤ 8) (k_ : Cal M (vR k i :: [a1, a2, a3]) τ (fun r τ2 => K (pc + 3) ls (r.toList ++ rest) τ2)) : K pc ls (a3 :: a2 :: a1 :: vR k i :: rest) τ := m_inv hK (as := [a1, a2, a3]) hd hl hk hn hlen hcs hst k_
theorem m_ins3 (hK : StpM cc own Cal K) {pc : Nat} {ls : Lc} {rest : List Vl} {τ : Mm} {idx M : Nat} {a1 a2 a3 : Vl} (hd : decode cc pc = .ok (.invokestatic idx, 3)) (hl : TLk own idx M) (hlen : (3 : Nat) = mp M) (hcs : csum [a1, a2, a3] ≤ ml M) (hst : csum rest ≤ 8) (k_ : Cal M [a1, a2, a3] τ (fun r τ2 => K (pc + 3) ls (r.toList ++ rest) τ2)) : K pc ls (a3 :: a2 :: a1 :: rest) τ := m_ins hK (as := [a1, a2, a3]) hd hl hlen hcs hst k_
theorem m_inv4 (hK : StpM cc own Cal K) {pc : Nat} {ls : Lc} {rest : List Vl} {τ : Mm} {k idx M ci : Nat} {i : Int} {a1 a2 a3 a4 : Vl} (hd : decode cc pc = .ok (.invokevirtual idx, 3)) (hl : VLk own idx M) (hk : kd k = (0, ci)) (hn : (vwCl[ci]?).map (fun q => q.1) = some (my M).cls) (hlen : (4 : Nat) = mp M) (hcs : csum (vR k i :: [a1, a2, a3, a4]) ≤ ml M) (hst : csum rest ≤ 8) (k_ : Cal M (vR k i :: [a1, a2, a3, a4]) τ (fun r τ2 => K (pc + 3) ls (r.toList ++ rest) τ2)) : K pc ls (a4 :: a3 :: a2 :: a1 :: vR k i :: rest) τ := m_inv hK (as := [a1, a2, a3, a4]) hd hl hk hn hlen hcs hst k_
theorem m_ins4 (hK : StpM cc own Cal K) {pc : Nat} {ls : Lc} {rest : List Vl} {τ : Mm} {idx M : Nat} {a1 a2 a3 a4 : Vl} (hd : decode cc pc = .ok (.invokestatic idx, 3)) (hl : TLk own idx M) (hlen : (4 : Nat) = mp M) (hcs : csum [a1, a2, a3, a4] ≤ ml M) (hst : csum rest ≤ 8) (k_ : Cal M [a1, a2, a3, a4] τ (fun r τ2 => K (pc + 3) ls (r.toList ++ rest) τ2)) : K pc ls (a4 :: a3 :: a2 :: a1 :: rest) τ := m_ins hK (as := [a1, a2, a3, a4]) hd hl hlen hcs hst k_
theorem m_inv5 (hK : StpM cc own Cal K) {pc : Nat} {ls : Lc} {rest : List Vl} {τ : Mm} {k idx M ci : Nat} {i : Int} {a1 a2 a3 a4 a5 : Vl} (hd : decode cc pc = .ok (.invokevirtual idx, 3)) (hl : VLk own idx M) (hk : kd k = (0, ci)) (hn : (vwCl[ci]?).map (fun q => q.1) = some (my M).cls) (hlen : (5 : Nat) = mp M) (hcs : csum (vR k i :: [a1, a2, a3, a4, a5]) ≤ ml M) (hst : csum rest ≤ 8) (k_ : Cal M (vR k i :: [a1, a2, a3, a4, a5]) τ (fun r τ2 => K (pc + 3) ls (r.toList ++ rest) τ2)) : K pc ls (a5 :: a4 :: a3 :: a2 :: a1 :: vR k i :: rest) τ := m_inv hK (as := [a1, a2, a3, a4, a5]) hd hl hk hn hlen hcs hst k_
theorem m_ins5 (hK : StpM cc own Cal K) {pc : Nat} {ls : Lc} {rest : List Vl} {τ : Mm} {idx M : Nat} {a1 a2 a3 a4 a5 : Vl} (hd : decode cc pc = .ok (.invokestatic idx, 3)) (hl : TLk own idx M) (hlen : (5 : Nat) = mp M) (hcs : csum [a1, a2, a3, a4, a5] ≤ ml M) (hst : csum rest ≤ 8) (k_ : Cal M [a1, a2, a3, a4, a5] τ (fun r τ2 => K (pc + 3) ls (r.toList ++ rest) τ2)) : K pc ls (a5 :: a4 :: a3 :: a2 :: a1 :: rest) τ := m_ins hK (as := [a1, a2, a3, a4, a5]) hd hl hlen hcs hst k_
end MROWS
section MSND
variable {ad : Nat → Int → Nat} {cI : ClassId} {cR : Nat → ClassId} {D : va_G} {scr num : Cell} {nc ns : Nat}
variable {p : Program} {l : Launch} {e : Env} {R : Room} {s : State} {m : MethodId} {args : Array Value} {below : List Frame} {meth : Method} {c : Code} {A : Nat → Prop} {Q : State → Prop} {nL : Nat} {cc : ByteArray} {own : String}
theorem stpM_Gf (CX : Cx p s m args meth c cc own nL) (CY : CF ad cI cR D scr num A s) {d : Nat} (hR : d + 1 ≤ R.frames ∧ 40 * (d + 1) ≤ R.locals) (hC0 : nc ≤ R.cells ∧ ns ≤ R.slots) {Cal : Nat → List Vl → Mm → (Option Vl → Mm → Prop) → Prop}
    (hCal : ∀ (M : Nat) (as : List Vl) (τ : Mm) (Post : Option Vl → Mm → Prop), Cal M as τ Post → csum as ≤ ml M → MOK M → Met l (my M) (wsM M) (rmd d) (Pcm ad cI cR D scr num A as τ) (Qcm ad cI cR D scr A Post) 0 0 A) :
    StpM cc own Cal (Gf ad cI cR D scr nc ns p l e R s m args below meth c A Q nL) := by
  have hR1 : 1 ≤ R.frames ∧ 40 ≤ R.locals := ⟨by omega, by omega⟩
  refine ⟨stpC_Gm CX, ?_, ?_, ?_, ?_, ?_, ?_, ?_, ?_, ?_, ?_, ?_, ?_, ?_, ?_, ?_⟩
  · intro pc ls st τ k i jz idx ci j ty hd hf hk hr hz k_
    exact by subst hz; exact gf_get CX CY hd hf hk (fun q h => by rw [hr] at h; cases h) (by unfold fval; rw [hr]; exact k_)
  · intro pc ls st τ k i idx ci j ty q hd hf hk hr hv k_
    exact gf_get CX CY hd hf hk (fun q2 h => by rw [hr] at h; cases h; exact hv) (by unfold fval; rw [hr]; exact k_)
  · intro pc ls st τ k i a jz idx ci j hd hf hk hr hz k_
    exact gf_put CX CY hd hf hk hr hz rfl rfl k_
  · intro pc ls st τ k i a jz idx ci j hd hf hk hr hz ha k_
    exact gf_put CX CY hd hf hk hr hz (by rcases ha with rfl | rfl <;> rfl) (by rcases ha with rfl | rfl <;> rfl) k_
  · intro pc ls st τ k i j n hd hk h0 h1 k_
    exact gf_iald CX CY hd hk h0 h1 k_
  · intro pc ls st τ k i j a n hd hk h0 h1 k_
    exact gf_iast CX CY hd hk h0 h1 k_
  · intro pc ls st τ k i j t n hd hk ht h0 h1 hv k_
    exact gf_aald CX CY hd hk ht h0 h1 hv k_
  · intro pc ls st τ k i nz n hd hk hz hn k_
    exact gf_alen CX CY hd hk hz hn k_
  · intro pc ls st τ j hd h0 h1 k_
    exact gf_sald CX CY hd h0 h1 k_
  · intro pc ls st τ hd k_
    exact gf_slen CX CY hd k_
  · intro pc ls st τ idx hd hl k_
    exact gf_nums CX CY hd hl k_
  · intro pc ls st τ j hd h0 h1 k_
    exact gf_nald CX CY hd h0 h1 k_
  · intro pc ls st τ k0 k1 i0 i1 sp dp n n0 n1 idx hd hl hk0 hk1 h1 h2 h3 h4 h5 hst k_
    exact gf_copy CX CY hR1 hd hl hk0 hk1 h1 h2 h3 h4 h5 hst k_
  · intro pc ls rest as τ k idx M ci i hd hl hk hn hlen hcs hst k_
    exact gf_inv CX CY hR hC0 hCal hd hl hk hn hlen hcs hst k_
  · intro pc ls rest as τ idx M hd hl hlen hcs hst k_
    exact gf_ins CX CY hR hC0 hCal hd hl hlen hcs hst k_
theorem stpF_Gf (CX : Cx p s m args meth c cc own nL) (CY : CF ad cI cR D scr num A s) {d : Nat} (hR : d + 1 ≤ R.frames ∧ 40 * (d + 1) ≤ R.locals) {Cal : Nat → List Vl → Mm → (Option Vl → Mm → Prop) → Prop}
    (hCal : ∀ (M : Nat) (as : List Vl) (τ : Mm) (Post : Option Vl → Mm → Prop), Cal M as τ Post → csum as ≤ ml M → MOK M → Met l (my M) (wsM M) (rmd d) (Pcm ad cI cR D scr num A as τ) (Qcm ad cI cR D scr A Post) 0 0 A) {ret : Option FieldType} (hret : meth.sig.returnType = ret) {Post : Option Vl → Mm → Prop} :
    StpF cc own ret Cal Post (Gf ad cI cR D scr 0 0 p l e R s m args below meth c A (MQ below (Qcm ad cI cR D scr A Post) args s 0 0 A) nL) := by
  refine ⟨stpM_Gf CX CY hR ⟨Nat.zero_le _, Nat.zero_le _⟩ hCal, ?_, ?_, ?_, ?_⟩
  · intro pc ls τ a hr hd hp
    exact gf_iret CX (hret.trans hr) hd hp
  · intro pc ls τ a hr hd ha hp
    exact gf_zret CX (hret.trans hr) hd ha hp
  · intro pc ls τ hr hd hp
    exact gf_vret CX (hret.trans hr) hd hp
  · intro pc ls τ n q hr hd hp
    exact gf_aret CX (hret.trans hr) hd hp
end MSND
/-- what method M comes to, called with 'as' in memory τ, calls at most d deep -/
def WP : Nat → Nat → List Vl → Mm → (Option Vl → Mm → Prop) → Prop
  | 0, _, _, _, _ => False
  | d + 1, M, as, τ, Post => ∀ K : Nat → Lc → List Vl → Mm → Prop, StpF (mb M) (my M).cls (mr M) (WP d) Post K → K 0 (ent (ml M) as) [] τ
theorem Met.ofWF {l : Launch} {y : MethodName} {ws ws' : List Cond} {rm : Room} {Pc : Array Value → State → Prop} {Qc : Array Value → State → Outcome → State → Prop} {mc ms : Nat} {free : Addr → Prop} {cc : ByteArray} {maxL : Nat} {ret : Option FieldType}
    (hy : plainFor y = true) (hw : ws = Cond.code y cc maxL ret :: ws')
    (body : ∀ p e s m args below meth c s₁, BodyLoose p l y (headSpec ws rm) cc maxL ret e s m args below meth c s₁ → c.maxLocals = maxL → Pc args s →
      W p l e (headSpec ws rm).room s m args below meth c s.heap [] 0 0 (MQ below Qc args s mc ms free) (entryFrame m args maxL)) : Met l y ws rm Pc Qc mc ms free := by
  refine MetFree.of_bodySF (code := cc) (maxLocals := maxL) (ret := ret) hy ?_ ?_
  · intro args s m h hn
    obtain ⟨meth, c, h1, h2, h3, h4, h5, h6, -, -⟩ := Cond.code_spec hn (atoms_spec (ws := ws) h _ (by rw [hw]; exact List.mem_cons_self))
    exact ⟨meth, c, h1, h2, h3, h4, h5, h6⟩
  · intro p e s m args below meth c s₁ B hml hP _
    have hh0 : s₁.heap = s.heap := by rw [B.state]; rfl
    obtain ⟨t, a1, o, b1, b2, b3⟩ := body p e s m args below meth c s₁ B hml hP s₁ hh0 (Stand.of_body B)
    exact ⟨t, o, a1, b1, b2, ⟨b3.1, b3.2⟩⟩
theorem WP_met {ad : Nat → Int → Nat} {cI : ClassId} {cR : Nat → ClassId} {D : va_G} {scr num : Cell} {l : Launch} {A : Nat → Prop} : ∀ (d M : Nat) (as : List Vl) (τ : Mm) (Post : Option Vl → Mm → Prop), WP d M as τ Post → csum as ≤ ml M → MOK M → Met l (my M) (wsM M) (rmd d) (Pcm ad cI cR D scr num A as τ) (Qcm ad cI cR D scr A Post) 0 0 A
  | 0, _, _, _, _, h, _, _ => h.elim
  | d + 1, M, as, τ, Post, h, hcs, hmok => by
    refine Met.ofWF (cc := mb M) (maxL := ml M) (ret := mr M) hmok.2.2.2.2.2 rfl ?_
    intro p e s m args below meth c s₁ B hml hv
    obtain ⟨rfl, hrs, hWf, hCF, hN, hrg⟩ := hv
    have CX : Cx p s m (as.map (mv ad)).toArray meth c (mb M) (my M).cls (ml M) := ⟨B.exec, B.bytes, hml, findClass_of_methodNamed B.named, fun w hw => atoms_spec (ws := wsM M) B.pre w (List.mem_cons_of_mem _ hw), hN, B.notSynchronized⟩
    rw [lg_entry_eq]
    exact h (Gf ad cI cR D scr 0 0 p l e (headSpec (wsM M) (rmd (d + 1))).room s m (as.map (mv ad)).toArray below meth c A (MQ below (Qcm ad cI cR D scr A Post) (as.map (mv ad)).toArray s 0 0 A) (ml M)) (stpF_Gf CX hCF (d := d) ⟨Nat.le_refl _, Nat.le_refl _⟩ (fun M as τ Post h h1 h2 => WP_met d M as τ Post h h1 h2) B.returns) hrg (fun v hv => ent_rng hrs v hv) rS_nil s.heap [] _ hWf va_S.rf (ent_ok ad as hcs)
-- rows with the arithmetic's range told
section PR
variable {α : Type} {vd : α → Nat × Int → Prop} {rg : α → Prop} {cc : ByteArray} {own : String} {K : Nat → Lc → List Vl → α → Prop}
theorem r_iaddS (hK : StpC vd rg cc own K) {pc : Nat} {ls : Lc} {st : List Vl} {μ : α} {a b : Int} (hd : decode cc pc = .ok (.iadd, 1)) (h : inR (a + b)) (k : K (pc + 1) ls (vI (a + b) :: st) μ) : K pc ls (vI b :: vI a :: st) μ := r_iadd hK hd (by rw [wr_id h]; exact k)
theorem r_isubS (hK : StpC vd rg cc own K) {pc : Nat} {ls : Lc} {st : List Vl} {μ : α} {a b : Int} (hd : decode cc pc = .ok (.isub, 1)) (h : inR (a - b)) (k : K (pc + 1) ls (vI (a - b) :: st) μ) : K pc ls (vI b :: vI a :: st) μ := r_isub hK hd (by rw [wr_id h]; exact k)
theorem r_imulS (hK : StpC vd rg cc own K) {pc : Nat} {ls : Lc} {st : List Vl} {μ : α} {a b : Int} (hd : decode cc pc = .ok (.imul, 1)) (h : inR (a * b)) (k : K (pc + 1) ls (vI (a * b) :: st) μ) : K pc ls (vI b :: vI a :: st) μ := r_imul hK hd (by rw [wr_id h]; exact k)
theorem r_inegS (hK : StpC vd rg cc own K) {pc : Nat} {ls : Lc} {st : List Vl} {μ : α} {a : Int} (hd : decode cc pc = .ok (.ineg, 1)) (h : inR (-a)) (k : K (pc + 1) ls (vI (-a) :: st) μ) : K pc ls (vI a :: st) μ := r_ineg hK hd (by rw [wr_id h]; exact k)
theorem r_iincS (hK : StpC vd rg cc own K) {pc : Nat} {ls : Lc} {st : List Vl} {μ : α} {x : Nat} {n a : Int} (hd : decode cc pc = .ok (.iinc x n, 3)) (hl : ls[x]? = some (some (vI a))) (hi : lfree ls x = true) (h : inR (a + n)) (k : K (pc + 3) (ls.set x (some (vI (a + n)))) st μ) : K pc ls st μ := r_iinc hK hd hl hi (by rw [wr_id h]; exact k)
theorem r_iincE (hK : StpC vd rg cc own K) {pc : Nat} {ls : Lc} {st : List Vl} {μ : α} {x : Nat} {n a : Int} (v : Int) (hd : decode cc pc = .ok (.iinc x n, 3)) (hl : ls[x]? = some (some (vI a))) (hi : lfree ls x = true) (hv : a + n = v) (h : inR v) (k : K (pc + 3) (ls.set x (some (vI v))) st μ) : K pc ls st μ := by
  subst hv
  exact r_iincS hK hd hl hi h k
theorem r_iaddE (hK : StpC vd rg cc own K) {pc : Nat} {ls : Lc} {st : List Vl} {μ : α} {a b : Int} (v : Int) (hd : decode cc pc = .ok (.iadd, 1)) (hv : a + b = v) (h : inR v) (k : K (pc + 1) ls (vI v :: st) μ) : K pc ls (vI b :: vI a :: st) μ := by
  subst hv
  exact r_iaddS hK hd h k
theorem r_isubE (hK : StpC vd rg cc own K) {pc : Nat} {ls : Lc} {st : List Vl} {μ : α} {a b : Int} (v : Int) (hd : decode cc pc = .ok (.isub, 1)) (hv : a - b = v) (h : inR v) (k : K (pc + 1) ls (vI v :: st) μ) : K pc ls (vI b :: vI a :: st) μ := by
  subst hv
  exact r_isubS hK hd h k
theorem r_imulE (hK : StpC vd rg cc own K) {pc : Nat} {ls : Lc} {st : List Vl} {μ : α} {a b : Int} (v : Int) (hd : decode cc pc = .ok (.imul, 1)) (hv : a * b = v) (h : inR v) (k : K (pc + 1) ls (vI v :: st) μ) : K pc ls (vI b :: vI a :: st) μ := by
  subst hv
  exact r_imulS hK hd h k
theorem r_idivE (hK : StpC vd rg cc own K) {pc : Nat} {ls : Lc} {st : List Vl} {μ : α} {a b : Int} (v : Int) (hd : decode cc pc = .ok (.idiv, 1)) (hp : 0 < b) (hv : a.tdiv b = v) (k : K (pc + 1) ls (vI v :: st) μ) : K pc ls (vI b :: vI a :: st) μ := by
  subst hv
  exact r_idiv hK hd hp k
theorem r_iremE (hK : StpC vd rg cc own K) {pc : Nat} {ls : Lc} {st : List Vl} {μ : α} {a b : Int} (v : Int) (hd : decode cc pc = .ok (.irem, 1)) (hp : 0 < b) (hv : a.tmod b = v) (k : K (pc + 1) ls (vI v :: st) μ) : K pc ls (vI b :: vI a :: st) μ := by
  subst hv
  exact r_irem hK hd hp k
end PR
theorem post_of {P : Option Vl → Mm → Prop} {a b : Int} {τ : Mm} (h : a = b) (k : P (some (vI b)) τ) : P (some (vI a)) τ := h ▸ k
/-- nothing of the reference's has changed -/
def Sm30 (τ τ2 : Mm) : Prop := ∀ (c : Nat) (i j : Int), 30 ≤ c → τ2 c i j = τ c i j
theorem Sm30.rf {τ : Mm} : Sm30 τ τ := fun _ _ _ _ => rfl
theorem Sm30.mu {τ τ2 : Mm} {c : Nat} {i j v : Int} (h : Sm30 τ τ2) (hc : c < 30) : Sm30 τ (mu τ2 c i j v) := fun c' i' j' hc' => (mu_ne (fun q => by omega)).trans (h c' i' j' hc')
theorem vld_of {c : Nat} {i : Int} {n : Nat} (h : cnt c = n) (h0 : 0 ≤ i) (h1 : i < (n : Int)) : vld (c, i) := ⟨h0, by show i < (cnt c : Int); rw [h]; exact h1⟩
