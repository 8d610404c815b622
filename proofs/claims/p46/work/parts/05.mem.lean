-- the fixed world: which cells there are once both objects stand, and what each holds, out of a memory of whole numbers
def kd (c : Nat) : Nat × Nat := match c with
  | 2 => (0, 5) | 3 => (2, 4) | 4 => (2, 3) | 5 => (3, 8) | 6 => (4, 4) | 7 => (0, 2)
  | 8 => (1, 121) | 9 => (1, 121) | 10 => (1, 121) | 11 => (0, 0) | 12 => (0, 4) | 13 => (0, 3) | 14 => (0, 1)
  | 15 => (1, 16) | 16 => (1, 8) | 17 => (1, 7) | 18 => (1, 7) | 19 => (5, 5) | 20 => (5, 5) | 21 => (1, 121) | 22 => (1, 121)
  | 30 => (0, 6) | 31 => (1, 176) | 32 => (1, 968) | 33 => (1, 968) | 34 => (1, 968) | 35 => (1, 16) | 36 => (1, 8) | 37 => (1, 242) | 38 => (1, 7)
  | 39 => (1, 8) | 40 => (1, 8) | 41 => (1, 8) | 42 => (1, 8) | 43 => (1, 8) | 44 => (1, 8) | 45 => (1, 4) | 46 => (1, 4) | 47 => (1, 4) | 48 => (1, 4)
  | 49 => (1, 7) | 50 => (1, 14400) | 51 => (1, 605) | 52 => (1, 605)
  | _ => (9, 0)
/-- how many of a kind -/
def cnt (c : Nat) : Nat := match c with
  | 0 => 1 | 1 => 1 | 7 => 7 | 8 => 7 | 9 => 7 | 10 => 7 | 11 => 8 | 12 => 8 | 13 => 4 | 21 => 5 | 22 => 5
  | 23 => 0 | 24 => 0 | 25 => 0 | 26 => 0 | 27 => 0 | 28 => 0 | 29 => 0
  | c => if c < 53 then 1 else 0
/-- the references that fields hold -/
def rff (c : Nat) (i : Int) (k : Nat) : Option (Nat × Int) := match c, k with
  | 2, 0 => some (3, 0) | 2, 1 => some (4, 0) | 2, 2 => some (5, 0) | 2, 3 => some (6, 0) | 2, 4 => some (14, 0) | 2, 5 => some (11, 7) | 2, 6 => some (19, 0) | 2, 7 => some (20, 0)
  | 7, 7 => some (8, i) | 7, 8 => some (9, i) | 7, 9 => some (10, i) | 7, 16 => some (11, i)
  | 14, 0 => some (15, 0) | 14, 1 => some (16, 0) | 14, 2 => some (17, 0) | 14, 3 => some (18, 0)
  | 30, 0 => some (31, 0) | 30, 1 => some (32, 0) | 30, 2 => some (33, 0) | 30, 3 => some (34, 0) | 30, 4 => some (35, 0) | 30, 5 => some (36, 0) | 30, 6 => some (37, 0) | 30, 7 => some (38, 0)
  | 30, 9 => some (39, 0) | 30, 10 => some (40, 0) | 30, 11 => some (41, 0) | 30, 12 => some (42, 0) | 30, 13 => some (43, 0) | 30, 14 => some (44, 0) | 30, 15 => some (45, 0) | 30, 16 => some (46, 0) | 30, 17 => some (47, 0) | 30, 18 => some (48, 0) | 30, 19 => some (49, 0) | 30, 20 => some (50, 0) | 30, 21 => some (51, 0) | 30, 22 => some (52, 0)
  | _, _ => none
/-- the references that rows hold -/
def rfa (c : Nat) (j : Int) : Nat × Int := match c with
  | 3 => (7, j) | 4 => (7, 4 + j) | 5 => (12, j) | 6 => (13, j) | 19 => (21, j) | 20 => (22, j)
  | _ => (99, 0)
def vld (q : Nat × Int) : Prop := 0 ≤ q.2 ∧ q.2 < (cnt q.1 : Int)
def cellsL : List (Nat × Int) := (List.range 53).flatMap fun c => if c < 2 then [] else (List.range (cnt c)).map fun (k : Nat) => (c, (k : Int))
theorem cellsL_mem {c : Nat} {i : Int} (h : vld (c, i)) (hc : 2 ≤ c) : (c, i) ∈ cellsL := by
  obtain ⟨h1, h2⟩ := h
  have hc2 : c < 53 := by
    refine Nat.not_le.mp fun h => ?_
    have h0 : cnt c = 0 := by
      unfold cnt
      split <;> first | omega | (rw [if_neg (by omega)])
    rw [show cnt (c, i).1 = 0 from h0] at h2
    simp at h2
    omega
  refine List.mem_flatMap.mpr ⟨c, List.mem_range.mpr hc2, ?_⟩
  rw [if_neg (by omega)]
  refine List.mem_map.mpr ⟨i.toNat, List.mem_range.mpr ?_, ?_⟩
  · have h3 : i < (cnt c : Int) := h2
    have h4 : 0 ≤ i := h1
    omega
  · have h4 : 0 ≤ i := h1
    rw [Int.toNat_of_nonneg h4]
theorem cellsL_nd : cellsL.Nodup := by decide +kernel
def fval (τ : Mm) (c : Nat) (i : Int) (k : Nat) : Vl := match rff c i k with
  | some q => Sum.inr (Sum.inl (some q))
  | none => vI (τ c i k)
def cE (ad : Nat → Int → Nat) (cI : ClassId) (cR : Nat → ClassId) (τ : Mm) (c : Nat) (i : Int) : va_E := match (kd c).1 with
  | 0 => .inr ((kd c).2, (List.range (clN (kd c).2)).map fun k => mv ad (fval τ c i k))
  | 1 => .inl (cI, (kd c).2, .inl (fun j => i3 (τ c i (j : Int))))
  | t => .inl (cR t, (kd c).2, .inr (.inr (.inr (.inr (fun j => some (ad (rfa c j).1 (rfa c j).2))))))
def wsT (ad : Nat → Int → Nat) (cI : ClassId) (cR : Nat → ClassId) (τ : Mm) : va_W := cellsL.map fun q => (ad q.1 q.2, cE ad cI cR τ q.1 q.2)
def tysT (cI : ClassId) (cR : Nat → ClassId) : List (ClassId × FieldType) := [(cI, .int), (cR 2, .object RX2), (cR 3, .object RX4), (cR 4, .object RX3), (cR 5, .array .int)]
theorem wsT_at {ad : Nat → Int → Nat} {cI : ClassId} {cR : Nat → ClassId} {τ : Mm} {c : Nat} {i : Int} (h : vld (c, i)) (hc : 2 ≤ c) : ∃ k : Nat, cellsL[k]? = some (c, i) ∧ (wsT ad cI cR τ)[k]? = some (ad c i, cE ad cI cR τ c i) := by
  obtain ⟨k, hk⟩ := List.getElem?_of_mem (cellsL_mem h hc)
  exact ⟨k, hk, by unfold wsT; rw [List.getElem?_map, hk]; rfl⟩
theorem wsT_set {ad : Nat → Int → Nat} {cI : ClassId} {cR : Nat → ClassId} {τ τ' : Mm} {c : Nat} {i : Int} {k : Nat} (hk : cellsL[k]? = some (c, i)) {x : va_E} (hx : cE ad cI cR τ' c i = x)
    (hne : ∀ (c' : Nat) (i' : Int), ¬ (c' = c ∧ i' = i) → ∀ j : Int, τ' c' i' j = τ c' i' j) : (wsT ad cI cR τ).set k (ad c i, x) = wsT ad cI cR τ' := by
  have hlt := (List.getElem?_eq_some_iff.mp hk).1
  apply List.ext_getElem?
  intro n
  by_cases hn : k = n
  · subst hn
    unfold wsT
    rw [List.getElem?_set_self (by simpa using hlt), List.getElem?_map, hk, ← hx]
    rfl
  · rw [List.getElem?_set_ne hn]
    unfold wsT
    rw [List.getElem?_map, List.getElem?_map]
    cases hq : cellsL[n]? with
    | none => rfl
    | some q =>
      obtain ⟨c', i'⟩ := q
      have hd : ¬ (c' = c ∧ i' = i) := by
        rintro ⟨rfl, rfl⟩
        have h1 := List.getElem?_eq_some_iff.mp hk
        have h2 := List.getElem?_eq_some_iff.mp hq
        exact hn (List.getElem_inj (h₀ := h1.1) (h₁ := h2.1) cellsL_nd |>.mp (h1.2.trans h2.2.symm))
      have e := hne c' i' hd
      have e2 : cE ad cI cR τ c' i' = cE ad cI cR τ' c' i' := by
        unfold cE
        split
        · congr 2
          apply List.map_congr_left
          intro k _
          unfold fval
          rw [e]
        · congr 4
          funext j
          rw [e]
        · rfl
      simp [e2]
/-- one place gets another number -/
def mu (τ : Mm) (c : Nat) (i j v : Int) : Mm := fun c' i' j' => if c' = c ∧ i' = i ∧ j' = j then v else τ c' i' j'
/-- a stretch is copied -/
def cpy (τ : Mm) (c0 : Nat) (i0 sp : Int) (c1 : Nat) (i1 dp n : Int) : Mm := fun c i j => if c = c1 ∧ i = i1 ∧ dp ≤ j ∧ j < dp + n then τ c0 i0 (sp + (j - dp)) else τ c i j
theorem mu_self (τ : Mm) (c : Nat) (i j v : Int) : mu τ c i j v c i j = v := if_pos ⟨rfl, rfl, rfl⟩
theorem mu_ne {τ : Mm} {c c' : Nat} {i i' j j' v : Int} (h : ¬ (c' = c ∧ i' = i ∧ j' = j)) : mu τ c i j v c' i' j' = τ c' i' j' := if_neg h
def numF (j : Int) : Int := match j with
  | 0 => 4 | 1 => 2 | 2 => 2 | 3 => 4 | 4 => 5 | 5 => 4 | 6 => 7 | 7 => 5 | 8 => 3 | _ => 1
/-- what the memory's numbers are: ints, all -/
def rgF (τ : Mm) : Prop := ∀ (c : Nat) (i j : Int), inR (τ c i j)
theorem rgF_mu {τ : Mm} {c : Nat} {i j v : Int} (h : rgF τ) (hv : inR v) : rgF (mu τ c i j v) := fun c' i' j' => by
  unfold mu
  split
  · exact hv
  · exact h _ _ _
theorem rgF_cpy {τ : Mm} {c0 : Nat} {i0 sp : Int} {c1 : Nat} {i1 dp n : Int} (h : rgF τ) : rgF (cpy τ c0 i0 sp c1 i1 dp n) := fun c' i' j' => by
  unfold cpy
  split
  · exact h _ _ _
  · exact h _ _ _
/-- the world's cells hold the memory; the script's own row is what the memory says -/
def Wf (ad : Nat → Int → Nat) (cI : ClassId) (cR : Nat → ClassId) (D : va_G) (scr : Cell) (τ : Mm) (H : Heap) : Prop :=
  va_P D vwCl (wsT ad cI cR τ) H ∧ (scr.slots.size : Int) = τ 0 0 (-1) ∧ ∀ j : Nat, j < scr.slots.size → scr.slots[j]? = some (.int (i3 (τ 0 0 (j : Int))))
/-- what stays as it is: the tables, the script's cell, the row NUMBERS -/
def CF (ad : Nat → Int → Nat) (cI : ClassId) (cR : Nat → ClassId) (D : va_G) (scr num : Cell) (A : Nat → Prop) (U : State) : Prop :=
  va_K D vwCl (tysT cI cR) U ∧ (∀ τ : Mm, va_D A (wsT ad cI cR τ)) ∧
  (U.heap[ad 0 0]? = some scr ∧ ¬ A (ad 0 0) ∧ U.isArrayOf scr .int ∧ scr.vm ≠ .unknown) ∧
  (U.heap[ad 1 0]? = some num ∧ ¬ A (ad 1 0) ∧ U.isArrayOf num .int ∧ num.vm ≠ .unknown ∧ 10 ≤ num.slots.size ∧ ∀ j : Nat, j < 10 → num.slots[j]? = some (.int (i3 (numF (j : Int))))) ∧
  va_Z RX5 "NUMBERS" "[I" (.ref (ad 1 0)) A U U.heap
theorem CF.moved {ad : Nat → Int → Nat} {cI : ClassId} {cR : Nat → ClassId} {D : va_G} {scr num : Cell} {A : Nat → Prop} {u U : State} (h : CF ad cI cR D scr num A u) (hvm : u.vm.Alike U.vm) (hh : ∀ q : Nat, q < u.heap.size → ¬ A q → U.heap[q]? = u.heap[q]?) : CF ad cI cR D scr num A U := by
  obtain ⟨h1, h2, ⟨h3, h4, h5, h6⟩, ⟨h7, h8, h9, h10, h11⟩, h12⟩ := h
  refine ⟨h1.moved hvm, h2, ⟨?_, h4, State.isArrayOf_alike hvm h5, h6⟩, ⟨?_, h8, State.isArrayOf_alike hvm h9, h10, h11⟩, (h12.moved hvm).kept hh⟩
  · rw [hh _ (Array.getElem?_eq_some_iff.mp h3).1 h4]
    exact h3
  · rw [hh _ (Array.getElem?_eq_some_iff.mp h7).1 h8]
    exact h7
-- the rules of memory, over the machine
theorem kd_two {c a b : Nat} (h : kd c = (a, b)) (hx : a ≠ 9) : 2 ≤ c := by
  refine Nat.not_lt.mp fun hc => hx ?_
  rcases (by omega : c = 0 ∨ c = 1) with rfl | rfl <;> exact (congrArg Prod.fst h).symm
theorem map_set_at {α : Type} {N k : Nat} {f f' : Nat → α} {v : α} (hk : k < N) (h1 : f' k = v) (h2 : ∀ j, j ≠ k → f' j = f j) : ((List.range N).map f).set k v = (List.range N).map f' := by
  apply List.ext_getElem?
  intro n
  by_cases hn : k = n
  · subst hn
    rw [List.getElem?_set_self (by simpa using hk), List.getElem?_map, List.getElem?_range hk, ← h1]
    rfl
  · rw [List.getElem?_set_ne hn, List.getElem?_map, List.getElem?_map]
    by_cases h3 : n < N
    · rw [List.getElem?_range h3]
      simp [h2 n (fun h => hn h.symm)]
    · rw [List.getElem?_eq_none (by simpa using h3)]
      rfl
theorem gf_in {j : Int} {n : Nat} (h0 : 0 ≤ j) (h1 : j < n) (hr : inR j) : vp_in (i3 j) n := by
  rintro (h | h)
  · have h2 := (i3_lt hr (inR_lit rfl : inR 0)).mp h
    omega
  · rw [i3_nat hr] at h
    omega
section GMF
variable {ad : Nat → Int → Nat} {cI : ClassId} {cR : Nat → ClassId} {D : va_G} {scr num : Cell} {nc ns : Nat}
variable {p : Program} {l : Launch} {e : Env} {R : Room} {s : State} {m : MethodId} {args : Array Value} {below : List Frame} {meth : Method} {c : Code} {A : Nat → Prop} {Q : State → Prop} {nL : Nat} {cc : ByteArray} {own : String}
abbrev Gf (ad : Nat → Int → Nat) (cI : ClassId) (cR : Nat → ClassId) (D : va_G) (scr : Cell) (nc ns : Nat) (p : Program) (l : Launch) (e : Env) (R : Room) (s : State) (m : MethodId) (args : Array Value) (below : List Frame) (meth : Method) (c : Code) (A : Nat → Prop) (Q : State → Prop) (nL : Nat) : Nat → Lc → List Vl → Mm → Prop :=
  Gm ad (fun _ => vld) (Wf ad cI cR D scr) (fun _ => nc) (fun _ => ns) rgF p l e R s m args below meth c A Q nL
theorem cE_obj {τ : Mm} {k : Nat} {i : Int} {ci : Nat} (h : kd k = (0, ci)) : cE ad cI cR τ k i = .inr (ci, (List.range (clN ci)).map fun j => mv ad (fval τ k i j)) := by
  unfold cE
  rw [h]
  rfl
theorem cE_int {τ : Mm} {k : Nat} {i : Int} {n : Nat} (h : kd k = (1, n)) : cE ad cI cR τ k i = .inl (cI, n, .inl (fun j => i3 (τ k i (j : Int)))) := by
  unfold cE
  rw [h]
  rfl
theorem cE_ref {τ : Mm} {k : Nat} {i : Int} {t n : Nat} (h : kd k = (t + 2, n)) : cE ad cI cR τ k i = .inl (cR (t + 2), n, .inr (.inr (.inr (.inr (fun j => some (ad (rfa k j).1 (rfa k j).2)))))) := by
  unfold cE
  rw [h]
  rfl
/-- a field is read -/
theorem gf_get (CX : Cx p s m args meth c cc own nL) (CY : CF ad cI cR D scr num A s) {pc : Nat} {ls : Lc} {st : List Vl} {τ : Mm} {k : Nat} {i : Int} {idx ci j : Nat} {ty : FieldType}
    (hd : decode cc pc = .ok (.getfield idx, 3)) (hf : FLk own idx ci j ty) (hk : kd k = (0, ci)) (hr : ∀ q : Nat × Int, rff k i j = some q → vld q)
    (kk : Gf ad cI cR D scr nc ns p l e R s m args below meth c A Q nL (pc + 3) ls (fval τ k i j :: st) τ) : Gf ad cI cR D scr nc ns p l e R s m args below meth c A Q nL pc ls (vR k i :: st) τ := by
  obtain ⟨hx, hb, hml, hown, hts, hnest, hlk⟩ := CX
  obtain ⟨C, T, N, ty0, hci, hN, hj, hin, hty, hnm, hC, hty1, hlink⟩ := hf
  intro g1 g2 g3 H locs lsA g4 g5 g6
  obtain ⟨q1, g3⟩ := rS_cons.mp g3
  obtain ⟨k0, hk0, he⟩ := wsT_at (ad := ad) (cI := cI) (cR := cR) (τ := τ) q1 (kd_two hk (by decide))
  rw [cE_obj hk] at he
  have hv : ((List.range (clN ci)).map fun j => mv ad (fval τ k i j))[j]? = some (mv ad (fval τ k i j)) := by
    rw [List.getElem?_map, List.getElem?_range (by rw [← hN]; exact hj)]
    rfl
  have hrv : rV vld (fval τ k i j) := by
    unfold fval
    cases hq : rff k i j with
    | none => exact g1 _ _ _
    | some q => exact hr q hq
  have k' := kk g1 g2 (rS_cons.mpr ⟨hrv, g3⟩) H locs lsA g4 g5 g6
  rw [List.map_cons] at k'
  rcases hlink with hl | ⟨host, hl⟩
  · exact va_get hx hb hts hin hown CY.1 g4.1 k0 he hci j hj (hts _ hl) (fun x h => by rw [hC] at h; exact h) hv hd k'
  · exact va_getN hx hb hts hin hown CY.1 g4.1 k0 he hci j hj (va_Nw.use rfl (hnest _ hl)) (fun x h => by rw [hC] at h; exact h) hv hd k'
/-- a field of whole numbers is written -/
theorem gf_put (CX : Cx p s m args meth c cc own nL) (CY : CF ad cI cR D scr num A s) {pc : Nat} {ls : Lc} {st : List Vl} {τ : Mm} {k : Nat} {i a jz : Int} {idx ci j : Nat} {ty : FieldType}
    (hd : decode cc pc = .ok (.putfield idx, 3)) (hf : FLw own idx ci j ty) (hk : kd k = (0, ci)) (hr : rff k i j = none) (hz : (j : Int) = jz) (hn : narrow ty (.int (i3 a)) = .int (i3 a)) (hfit : fits ty (.int (i3 a)) = true)
    (kk : Gf ad cI cR D scr nc ns p l e R s m args below meth c A Q nL (pc + 3) ls st (mu τ k i jz a)) : Gf ad cI cR D scr nc ns p l e R s m args below meth c A Q nL pc ls (vI a :: vR k i :: st) τ := by
  obtain ⟨hx, hb, hml, hown, hts, hnest, hlk⟩ := CX
  obtain ⟨⟨C, T, N, ty0, hci, hN, hj, hin, hty, hnm, hC, hty1, hlink⟩, hfin⟩ := hf
  have hfin := hfin C T N hci
  intro g1 g2 g3 H locs lsA g4 g5 g6
  obtain ⟨q0, g3⟩ := rS_cons.mp g3
  obtain ⟨q1, g3⟩ := rS_cons.mp g3
  obtain ⟨k0, hk0, he⟩ := wsT_at (ad := ad) (cI := cI) (cR := cR) (τ := τ) q1 (kd_two hk (by decide))
  have hset : (wsT ad cI cR τ).set k0 (ad k i, .inr (ci, ((List.range (clN ci)).map fun j => mv ad (fval τ k i j)).set j (mv ad (vI a)))) = wsT ad cI cR (mu τ k i jz a) := by
    refine wsT_set hk0 ?_ (fun c' i' h j' => mu_ne fun h2 => h ⟨h2.1, h2.2.1⟩)
    rw [cE_obj hk]
    refine congrArg (fun z => Sum.inr (ci, z)) (map_set_at (by rw [← hN]; exact hj) ?_ ?_).symm
    · unfold fval
      rw [hr]
      show mv ad (vI (mu τ k i jz a k i j)) = _
      rw [hz, mu_self]
    · intro j2 hj2
      unfold fval
      cases rff k i j2 with
      | some q => rfl
      | none =>
        show mv ad (vI (mu τ k i jz a k i j2)) = mv ad (vI (τ k i j2))
        rw [mu_ne (fun h => hj2 (by have := h.2.2; omega))]
  rw [cE_obj hk] at he
  have hl2 : j < ((List.range (clN ci)).map fun j => mv ad (fval τ k i j)).length := by
    rw [List.length_map, List.length_range, ← hN]
    exact hj
  rcases hlink with hl | ⟨host, hl⟩
  · refine va_put (A := A) hx hb hts hin ty0 hty hnm hown CY.1 g4.1 (CY.2.1 τ) g5 k0 he hci j hj (hts _ hl) (fun x h => by rw [hC] at h; exact h) hfin ((hty j hj).trans (by rw [hty1])) hn hfit hl2 hd (fun H1 locs1 hP1 hD1 hS1 => ?_)
    have hP1 : va_P D vwCl ((wsT ad cI cR τ).set k0 (ad k i, .inr (ci, ((List.range (clN ci)).map fun j => mv ad (fval τ k i j)).set j (mv ad (vI a))))) H1 := hP1
    rw [hset] at hP1
    exact kk (rgF_mu g1 q0) g2 g3 H1 locs1 lsA ⟨hP1, by rw [mu_ne (fun h => by have h1 := kd_two hk (by decide); omega)]; exact g4.2.1, fun z hz2 => by rw [mu_ne (fun h => by have h1 := kd_two hk (by decide); omega)]; exact g4.2.2 z hz2⟩ hS1 g6
  · refine va_putN (A := A) hx hb hts hin ty0 hty hnm hown CY.1 g4.1 (CY.2.1 τ) g5 k0 he hci j hj (va_Nw.use rfl (hnest _ hl)) (fun x h => by rw [hC] at h; exact h) hfin ((hty j hj).trans (by rw [hty1])) hn hfit hl2 hd (fun H1 locs1 hP1 hD1 hS1 => ?_)
    have hP1 : va_P D vwCl ((wsT ad cI cR τ).set k0 (ad k i, .inr (ci, ((List.range (clN ci)).map fun j => mv ad (fval τ k i j)).set j (mv ad (vI a))))) H1 := hP1
    rw [hset] at hP1
    exact kk (rgF_mu g1 q0) g2 g3 H1 locs1 lsA ⟨hP1, by rw [mu_ne (fun h => by have h1 := kd_two hk (by decide); omega)]; exact g4.2.1, fun z hz2 => by rw [mu_ne (fun h => by have h1 := kd_two hk (by decide); omega)]; exact g4.2.2 z hz2⟩ hS1 g6
/-- a row of whole numbers is read -/
theorem gf_iald (CX : Cx p s m args meth c cc own nL) (CY : CF ad cI cR D scr num A s) {pc : Nat} {ls : Lc} {st : List Vl} {τ : Mm} {k : Nat} {i j : Int} {n : Nat}
    (hd : decode cc pc = .ok (.iaload, 1)) (hk : kd k = (1, n)) (h0 : 0 ≤ j) (h1 : j < n)
    (kk : Gf ad cI cR D scr nc ns p l e R s m args below meth c A Q nL (pc + 1) ls (vI (τ k i j) :: st) τ) : Gf ad cI cR D scr nc ns p l e R s m args below meth c A Q nL pc ls (vI j :: vR k i :: st) τ := by
  obtain ⟨hx, hb, hml, hown, hts, hnest, hlk⟩ := CX
  intro g1 g2 g3 H locs lsA g4 g5 g6
  obtain ⟨q0, g3⟩ := rS_cons.mp g3
  obtain ⟨q1, g3⟩ := rS_cons.mp g3
  obtain ⟨k0, hk0, he⟩ := wsT_at (ad := ad) (cI := cI) (cR := cR) (τ := τ) q1 (kd_two hk (by decide))
  rw [cE_int hk] at he
  have k' := kk g1 g2 (rS_cons.mpr ⟨g1 _ _ _, g3⟩) H locs lsA g4 g5 g6
  rw [List.map_cons] at k'
  refine va_iald hx hb CY.1 g4.1 k0 0 he rfl (gf_in h0 h1 q0) hd ?_
  rw [i3_nat q0, Int.toNat_of_nonneg h0]
  exact k'
/-- a row of whole numbers is written -/
theorem gf_iast (CX : Cx p s m args meth c cc own nL) (CY : CF ad cI cR D scr num A s) {pc : Nat} {ls : Lc} {st : List Vl} {τ : Mm} {k : Nat} {i j a : Int} {n : Nat}
    (hd : decode cc pc = .ok (.iastore, 1)) (hk : kd k = (1, n)) (h0 : 0 ≤ j) (h1 : j < n)
    (kk : Gf ad cI cR D scr nc ns p l e R s m args below meth c A Q nL (pc + 1) ls st (mu τ k i j a)) : Gf ad cI cR D scr nc ns p l e R s m args below meth c A Q nL pc ls (vI a :: vI j :: vR k i :: st) τ := by
  obtain ⟨hx, hb, hml, hown, hts, hnest, hlk⟩ := CX
  intro g1 g2 g3 H locs lsA g4 g5 g6
  obtain ⟨qa, g3⟩ := rS_cons.mp g3
  obtain ⟨q0, g3⟩ := rS_cons.mp g3
  obtain ⟨q1, g3⟩ := rS_cons.mp g3
  obtain ⟨k0, hk0, he⟩ := wsT_at (ad := ad) (cI := cI) (cR := cR) (τ := τ) q1 (kd_two hk (by decide))
  have hset : (wsT ad cI cR τ).set k0 (ad k i, .inl (cI, n, .inl (upd (fun z => i3 (τ k i (z : Int))) (i3 j).toNatClampNeg (i3 a)))) = wsT ad cI cR (mu τ k i j a) := by
    refine wsT_set hk0 ?_ (fun c' i' h j' => mu_ne fun h2 => h ⟨h2.1, h2.2.1⟩)
    rw [cE_int hk]
    refine congrArg (fun z => Sum.inl (cI, n, Sum.inl z)) (funext fun z => ?_)
    rw [i3_nat q0]
    unfold upd
    by_cases hz : z = j.toNat
    · rw [if_pos hz, hz, Int.toNat_of_nonneg h0, mu_self]
    · rw [if_neg hz, mu_ne (fun h => hz (by have := h.2.2; omega))]
  rw [cE_int hk] at he
  refine va_iast hx hb CY.1 g4.1 (CY.2.1 τ) g5 k0 0 he rfl (gf_in h0 h1 q0) hd (fun H1 locs1 hP1 hD1 hS1 => ?_)
  rw [hset] at hP1
  exact kk (rgF_mu g1 qa) g2 g3 H1 locs1 lsA ⟨hP1, by rw [mu_ne (fun h => by have h1 := kd_two hk (by decide); omega)]; exact g4.2.1, fun z hz2 => by rw [mu_ne (fun h => by have h1 := kd_two hk (by decide); omega)]; exact g4.2.2 z hz2⟩ hS1 g6
/-- a row of references is read -/
theorem gf_aald (CX : Cx p s m args meth c cc own nL) (CY : CF ad cI cR D scr num A s) {pc : Nat} {ls : Lc} {st : List Vl} {τ : Mm} {k : Nat} {i j : Int} {t n : Nat}
    (hd : decode cc pc = .ok (.aaload, 1)) (hk : kd k = (t + 2, n)) (ht : t < 4) (h0 : 0 ≤ j) (h1 : j < n) (hv : vld (rfa k j))
    (kk : Gf ad cI cR D scr nc ns p l e R s m args below meth c A Q nL (pc + 1) ls (Sum.inr (Sum.inl (some (rfa k j))) :: st) τ) : Gf ad cI cR D scr nc ns p l e R s m args below meth c A Q nL pc ls (vI j :: vR k i :: st) τ := by
  obtain ⟨hx, hb, hml, hown, hts, hnest, hlk⟩ := CX
  intro g1 g2 g3 H locs lsA g4 g5 g6
  obtain ⟨q0, g3⟩ := rS_cons.mp g3
  obtain ⟨q1, g3⟩ := rS_cons.mp g3
  obtain ⟨k0, hk0, he⟩ := wsT_at (ad := ad) (cI := cI) (cR := cR) (τ := τ) q1 (kd_two hk (by omega))
  rw [cE_ref hk] at he
  have k' := kk g1 g2 (rS_cons.mpr ⟨hv, g3⟩) H locs lsA g4 g5 g6
  rw [List.map_cons] at k'
  obtain ⟨ty, htt, hrf⟩ : ∃ ty : FieldType, (tysT cI cR)[t + 1]? = some (cR (t + 2), ty) ∧ ty.isReference = true := by
    rcases (by omega : t = 0 ∨ t = 1 ∨ t = 2 ∨ t = 3) with rfl | rfl | rfl | rfl <;> exact ⟨_, rfl, rfl⟩
  have hin := gf_in h0 h1 q0
  have hlt : (i3 j).toNatClampNeg < n := Nat.not_le.mp fun q => hin (Or.inr q)
  refine W.aald (v := mv ad (Sum.inr (Sum.inl (some (rfa k j))))) (ty := ty) hx hb (g4.1 k0 _ he) ((CY.1.2 (t + 1) _ htt).1 n (fun z => va_rf (some (ad (rfa k z).1 (rfa k z).2)))) hrf (fun q => by cases q) ?_ ?_ rfl rfl hd k'
  · show ¬ (_ ∨ (arrV _ _ _).slots.size ≤ _)
    rw [arrV_size]
    exact hin
  · show (arrV _ _ _).slots[_]? = _
    rw [arrV_read _ _ hlt, i3_nat q0]
    have e : ((j.toNat : Nat) : Int) = j := Int.toNat_of_nonneg h0
    show some (Value.ref (ad (rfa k ((j.toNat : Nat) : Int)).1 (rfa k ((j.toNat : Nat) : Int)).2)) = _
    rw [e]
    rfl
/-- a row's length -/
theorem gf_alen (CX : Cx p s m args meth c cc own nL) (CY : CF ad cI cR D scr num A s) {pc : Nat} {ls : Lc} {st : List Vl} {τ : Mm} {k : Nat} {i nz : Int} {n : Nat}
    (hd : decode cc pc = .ok (.arraylength, 1)) (hk : kd k = (1, n)) (hz : (n : Int) = nz) (hn : n < 2147483648)
    (kk : Gf ad cI cR D scr nc ns p l e R s m args below meth c A Q nL (pc + 1) ls (vI nz :: st) τ) : Gf ad cI cR D scr nc ns p l e R s m args below meth c A Q nL pc ls (vR k i :: st) τ := by
  obtain ⟨hx, hb, hml, hown, hts, hnest, hlk⟩ := CX
  subst hz
  intro g1 g2 g3 H locs lsA g4 g5 g6
  obtain ⟨q1, g3⟩ := rS_cons.mp g3
  obtain ⟨k0, hk0, he⟩ := wsT_at (ad := ad) (cI := cI) (cR := cR) (τ := τ) q1 (kd_two hk (by decide))
  rw [cE_int hk] at he
  have k' := kk g1 g2 (rS_cons.mpr ⟨⟨by omega, by omega⟩, g3⟩) H locs lsA g4 g5 g6
  rw [List.map_cons] at k'
  exact va_alen hx hb CY.1 g4.1 k0 0 he rfl (v := i3 n) rfl hd k'
/-- the script is read -/
theorem gf_sald (CX : Cx p s m args meth c cc own nL) (CY : CF ad cI cR D scr num A s) {pc : Nat} {ls : Lc} {st : List Vl} {τ : Mm} {j : Int}
    (hd : decode cc pc = .ok (.iaload, 1)) (h0 : 0 ≤ j) (h1 : j < τ 0 0 (-1))
    (kk : Gf ad cI cR D scr nc ns p l e R s m args below meth c A Q nL (pc + 1) ls (vI (τ 0 0 j) :: st) τ) : Gf ad cI cR D scr nc ns p l e R s m args below meth c A Q nL pc ls (vI j :: vR 0 0 :: st) τ := by
  obtain ⟨hx, hb, hml, hown, hts, hnest, hlk⟩ := CX
  intro g1 g2 g3 H locs lsA g4 g5 g6
  obtain ⟨q0, g3⟩ := rS_cons.mp g3
  obtain ⟨q1, g3⟩ := rS_cons.mp g3
  have k' := kk g1 g2 (rS_cons.mpr ⟨g1 _ _ _, g3⟩) H locs lsA g4 g5 g6
  rw [List.map_cons] at k'
  obtain ⟨z1, z2, z3, z4⟩ := CY.2.2.1
  have hsz : j < (scr.slots.size : Int) := by rw [g4.2.1]; exact h1
  refine W.iald hx hb (a := ad 0 0) (v := .int (i3 (τ 0 0 j))) (by rw [g5.2.1 _ (Array.getElem?_eq_some_iff.mp z1).1 z2]; exact z1) z3 z4 (gf_in h0 hsz q0) ?_ rfl rfl hd k'
  rw [i3_nat q0, g4.2.2 j.toNat (by omega), Int.toNat_of_nonneg h0]
theorem gf_slen (CX : Cx p s m args meth c cc own nL) (CY : CF ad cI cR D scr num A s) {pc : Nat} {ls : Lc} {st : List Vl} {τ : Mm}
    (hd : decode cc pc = .ok (.arraylength, 1))
    (kk : Gf ad cI cR D scr nc ns p l e R s m args below meth c A Q nL (pc + 1) ls (vI (τ 0 0 (-1)) :: st) τ) : Gf ad cI cR D scr nc ns p l e R s m args below meth c A Q nL pc ls (vR 0 0 :: st) τ := by
  obtain ⟨hx, hb, hml, hown, hts, hnest, hlk⟩ := CX
  intro g1 g2 g3 H locs lsA g4 g5 g6
  obtain ⟨q1, g3⟩ := rS_cons.mp g3
  have k' := kk g1 g2 (rS_cons.mpr ⟨g1 _ _ _, g3⟩) H locs lsA g4 g5 g6
  rw [List.map_cons] at k'
  obtain ⟨z1, z2, z3, z4⟩ := CY.2.2.1
  exact W.alen hx hb (a := ad 0 0) (n := i3 (τ 0 0 (-1))) (by rw [g5.2.1 _ (Array.getElem?_eq_some_iff.mp z1).1 z2]; exact z1) z3 (by rw [← g4.2.1]; rfl) rfl rfl hd k'
/-- the row NUMBERS -/
theorem gf_nums (CX : Cx p s m args meth c cc own nL) (CY : CF ad cI cR D scr num A s) {pc : Nat} {ls : Lc} {st : List Vl} {τ : Mm} {idx : Nat}
    (hd : decode cc pc = .ok (.getstatic idx, 3)) (hl : SLk own idx)
    (kk : Gf ad cI cR D scr nc ns p l e R s m args below meth c A Q nL (pc + 3) ls (vR 1 0 :: st) τ) : Gf ad cI cR D scr nc ns p l e R s m args below meth c A Q nL pc ls st τ := by
  obtain ⟨hx, hb, hml, hown, hts, hnest, hlk⟩ := CX
  intro g1 g2 g3 H locs lsA g4 g5 g6
  have k' := kk g1 g2 (rS_cons.mpr ⟨(show vld (1, 0) from ⟨Int.le_refl 0, by decide⟩), g3⟩) H locs lsA g4 g5 g6
  rw [List.map_cons] at k'
  rcases hl with hl | ⟨host, hl⟩
  · exact va_gets hx hb CY.2.2.2.2 g5 hown (hts _ hl) (fun x h => h) hd k'
  · exact va_getsN hx hb CY.2.2.2.2 g5 hown (va_Nw.use rfl (hnest _ hl)) (fun x h => h) hd k'
theorem gf_nald (CX : Cx p s m args meth c cc own nL) (CY : CF ad cI cR D scr num A s) {pc : Nat} {ls : Lc} {st : List Vl} {τ : Mm} {j : Int}
    (hd : decode cc pc = .ok (.iaload, 1)) (h0 : 0 ≤ j) (h1 : j < 10)
    (kk : Gf ad cI cR D scr nc ns p l e R s m args below meth c A Q nL (pc + 1) ls (vI (numF j) :: st) τ) : Gf ad cI cR D scr nc ns p l e R s m args below meth c A Q nL pc ls (vI j :: vR 1 0 :: st) τ := by
  obtain ⟨hx, hb, hml, hown, hts, hnest, hlk⟩ := CX
  intro g1 g2 g3 H locs lsA g4 g5 g6
  obtain ⟨q0, g3⟩ := rS_cons.mp g3
  obtain ⟨q1, g3⟩ := rS_cons.mp g3
  have hnr : inR (numF j) := by unfold numF; split <;> exact inR_lit rfl
  have k' := kk g1 g2 (rS_cons.mpr ⟨hnr, g3⟩) H locs lsA g4 g5 g6
  rw [List.map_cons] at k'
  obtain ⟨z1, z2, z3, z4, z5, z6⟩ := CY.2.2.2.1
  refine W.iald hx hb (a := ad 1 0) (v := .int (i3 (numF j))) (by rw [g5.2.1 _ (Array.getElem?_eq_some_iff.mp z1).1 z2]; exact z1) z3 z4 (gf_in h0 (by omega) q0) ?_ rfl rfl hd k'
  rw [i3_nat q0, z6 j.toNat (by omega), Int.toNat_of_nonneg h0]
/-- a stretch of a row is copied -/
theorem gf_copy (CX : Cx p s m args meth c cc own nL) (CY : CF ad cI cR D scr num A s) (hR : 1 ≤ R.frames ∧ 40 ≤ R.locals) {pc : Nat} {ls : Lc} {st : List Vl} {τ : Mm} {k0 k1 : Nat} {i0 i1 sp dp n : Int} {n0 n1 idx : Nat}
    (hd : decode cc pc = .ok (.invokestatic idx, 3)) (hl : Cond.methodLink own idx arraycopyName ∈ gT ∧ Cond.native arraycopyName ∈ gT ∧ Cond.static arraycopyName ∈ gT ∧ Cond.initialized "java/lang/System" ∈ gT)
    (hk0 : kd k0 = (1, n0)) (hk1 : kd k1 = (1, n1)) (h1 : 0 ≤ sp) (h2 : 0 ≤ dp) (h3 : 0 ≤ n) (h4 : sp + n ≤ n0) (h5 : dp + n ≤ n1) (hst : csum st ≤ 8)
    (kk : Gf ad cI cR D scr nc ns p l e R s m args below meth c A Q nL (pc + 3) ls st (cpy τ k0 i0 sp k1 i1 dp n)) : Gf ad cI cR D scr nc ns p l e R s m args below meth c A Q nL pc ls (vI n :: vI dp :: vR k1 i1 :: vI sp :: vR k0 i0 :: st) τ := by
  obtain ⟨hx, hb, hml, hown, hts, hnest, hlk⟩ := CX
  intro g1 g2 g3 H locs lsA g4 g5 g6
  obtain ⟨qn, g3⟩ := rS_cons.mp g3
  obtain ⟨qd, g3⟩ := rS_cons.mp g3
  obtain ⟨q1, g3⟩ := rS_cons.mp g3
  obtain ⟨qs, g3⟩ := rS_cons.mp g3
  obtain ⟨q0, g3⟩ := rS_cons.mp g3
  obtain ⟨p0, hp0, he0⟩ := wsT_at (ad := ad) (cI := cI) (cR := cR) (τ := τ) q0 (kd_two hk0 (by decide))
  obtain ⟨p1, hp1, he1⟩ := wsT_at (ad := ad) (cI := cI) (cR := cR) (τ := τ) q1 (kd_two hk1 (by decide))
  have hset : (wsT ad cI cR τ).set p1 (ad k1 i1, .inl (cI, n1, .inl (va_cpy (fun z => i3 (τ k0 i0 (z : Int))) (fun z => i3 (τ k1 i1 (z : Int))) (i3 sp).toNatClampNeg (i3 dp).toNatClampNeg (i3 n).toNatClampNeg))) = wsT ad cI cR (cpy τ k0 i0 sp k1 i1 dp n) := by
    refine wsT_set hp1 ?_ (fun c' i' h j' => if_neg fun h2 => h ⟨h2.1, h2.2.1⟩)
    rw [cE_int hk1]
    refine congrArg (fun z => Sum.inl (cI, n1, Sum.inl z)) (funext fun z => ?_)
    rw [i3_nat qs, i3_nat qd, i3_nat qn]
    unfold va_cpy cpy
    by_cases hz : dp.toNat ≤ z ∧ z < dp.toNat + n.toNat
    · rw [if_pos hz, if_pos ⟨rfl, rfl, by omega, by omega⟩]
      congr 2
      omega
    · rw [if_neg hz, if_neg (fun h => hz (by omega))]
  rw [cE_int hk0] at he0
  rw [cE_int hk1] at he1
  have hnl : ∀ z : Int, inR z → 0 ≤ z → ¬ i3 z < 0 := fun z hz h0 h => by
    have h2 := (i3_lt hz (inR_lit rfl : inR 0)).mp h
    omega
  refine va_copyi hx hb (hml.trans g6.2.1.symm) hown (hts _ hl.1) (hts _ hl.2.1) (hts _ hl.2.2.1) (hts _ hl.2.2.2) CY.1 g4.1 (CY.2.1 τ) g5 p0 p1 0 0 he0 he1 rfl rfl rfl (hnl _ qs h1) (hnl _ qd h2) (hnl _ qn h3) (by rw [i3_nat qs, i3_nat qn]; omega) (by rw [i3_nat qd, i3_nat qn]; omega) (fun _ _ => rfl) hR.1 ?_ hd (fun H1 locs1 hP1 hD1 hS1 => ?_)
  · have hw : nativeFrameWords "java/lang/System" "arraycopy" 5 + 11 ≤ 32 := by decide
    rw [mv_sum]
    omega
  · rw [hset] at hP1
    exact kk (rgF_cpy g1) g2 g3 H1 locs1 lsA ⟨hP1, by rw [show cpy τ k0 i0 sp k1 i1 dp n 0 0 (-1) = τ 0 0 (-1) from if_neg (fun h => by have h1 := kd_two hk1 (by decide); omega)]; exact g4.2.1, fun z hz2 => by rw [show cpy τ k0 i0 sp k1 i1 dp n 0 0 z = τ 0 0 z from if_neg (fun h => by have h1 := kd_two hk1 (by decide); omega)]; exact g4.2.2 z hz2⟩ hS1 g6
end GMF
-- contracts, calls, returns; what a method comes to
theorem nT_moved {s U : State} (h : ∀ w ∈ nT, va_Nw w s) (hW : s.WarmedH U.vm) : ∀ w ∈ nT, va_Nw w U := by
  intro w hw
  have h1 := h w hw
  have h2 := (List.mem_filter.mp hw).2
  cases w <;> first | (simp [isNest] at h2; done) | exact va_Nw.warmF hW h1 | exact va_Nw.warmM hW h1
theorem nT_same {u U : State} (h : ∀ w ∈ nT, va_Nw w u) (hv : u.vm = U.vm) : ∀ w ∈ nT, va_Nw w U := by
  intro w hw
  have h1 := h w hw
  have h2 := (List.mem_filter.mp hw).2
  cases w <;> first | (simp [isNest] at h2; done) | exact va_Nw.same rfl hv h1
theorem gT_good : ∀ w ∈ gT, (w.onTables && w.keeps) = true ∨ ∃ ty, w = .arrayClass ty := fun w hw => good_of_word (List.mem_filter.mp hw).2
theorem wsM_good {M : Nat} (h : MOK M) : GoodIn gT (wsM M) := by
  intro w hw
  rcases List.mem_cons.mp hw with rfl | hw
  · exact ⟨h.1, Or.inl rfl⟩
  · exact ⟨hw, gT_good w hw⟩
def rmd (d : Nat) : Room := { frames := d, cells := 0, slots := 0, locals := 40 * d }
/-- a method's start: its arguments, the world, the tables -/
def Pcm (ad : Nat → Int → Nat) (cI : ClassId) (cR : Nat → ClassId) (D : va_G) (scr num : Cell) (A : Nat → Prop) (as : List Vl) (τ : Mm) : Array Value → State → Prop :=
  va_Pc (as.map (mv ad)) (fun U => rS vld as ∧ Wf ad cI cR D scr τ U.heap ∧ CF ad cI cR D scr num A U ∧ (∀ w ∈ nT, va_Nw w U) ∧ rgF τ)
/-- and its end -/
def Qcm (ad : Nat → Int → Nat) (cI : ClassId) (cR : Nat → ClassId) (D : va_G) (scr : Cell) (A : Nat → Prop) (Post : Option Vl → Mm → Prop) : Array Value → State → Outcome → State → Prop :=
  fun _ st oc t => (∃ (r : Option Vl) (τ : Mm), oc = .returned (r.map (mv ad)) ∧ Post r τ ∧ (∀ v : Vl, r = some v → rV vld v) ∧ rgF τ ∧ Wf ad cI cR D scr τ t.heap) ∧ va_F A st t
theorem Pcm_blind {ad : Nat → Int → Nat} {cI : ClassId} {cR : Nat → ClassId} {D : va_G} {scr num : Cell} {A : Nat → Prop} {as : List Vl} {τ : Mm} : FrameBlind (Pcm ad cI cR D scr num A as τ) := by
  intro a U g mk h
  obtain ⟨h1, h2, h3, h4, h5, h6⟩ := h
  exact ⟨h1, h2, h3, CF.moved (u := U) (U := U.calling g mk a) h4 (Vm.Alike.refl U.vm) (fun _ _ _ => rfl), nT_same h5 rfl, h6⟩
section CALLF
variable {ad : Nat → Int → Nat} {cI : ClassId} {cR : Nat → ClassId} {D : va_G} {scr num : Cell} {nc ns : Nat}
variable {p : Program} {l : Launch} {e : Env} {R : Room} {s : State} {m : MethodId} {args : Array Value} {below : List Frame} {meth : Method} {c : Code} {A : Nat → Prop} {Q : State → Prop} {nL : Nat} {cc : ByteArray} {own : String}
theorem gm_call {H : Heap} {locs : List Loc} {cells slots pc : Nat} {ls : Array Slot} {st0 rest : List Value} {a : Array Value} {Post : Option Vl → Mm → Prop}
    (hr : va_Run p l e R s m args below meth c H locs cells slots 0 0 (F0 m pc ls st0) rest (Qcm ad cI cR D scr A Post a) A) (hS : va_S A s.heap H locs)
    (kk : ∀ (r : Option Vl) (τ : Mm) (H1 : Heap) (locs1 : List Loc), Post r τ → (∀ v : Vl, r = some v → rV vld v) → rgF τ → Wf ad cI cR D scr τ H1 → va_S A s.heap H1 locs1 → W p l e R s m args below meth c H1 locs1 cells slots Q (F0 m (pc + 3) ls ((r.map (mv ad)).toList ++ rest))) :
    W p l e R s m args below meth c H locs cells slots Q (F0 m pc ls st0) := by
  intro T hT X
  obtain ⟨v, st₀, t, T', L, h0, X', hL, e1, e2, ⟨⟨r, τ, hv, hp, hb, hg, hw⟩, hz, hk⟩, st⟩ := hr T hT X
  cases hv
  rw [h0] at hz hk
  obtain ⟨t2, a1, b1⟩ := kk r τ T'.heap (locs ++ L) hp hb hg (by rw [e1]; exact hw)
    ⟨Nat.le_trans hS.1 (by rw [e1]; exact hz), fun q h1 h2 => by rw [e1, hk q (Nat.lt_of_lt_of_le h1 hS.1) h2]; exact hS.2.1 q h1 h2, fun q hq => by
      rcases List.mem_append.mp hq with h | h
      · exact hS.2.2 q h
      · exact hL q h⟩ T' rfl X'
  exact ⟨t2, st t2 a1, b1⟩
theorem pcm_at (CX : Cx p s m args meth c cc own nL) (CY : CF ad cI cR D scr num A s) {as : List Vl} {τ : Mm} {H : Heap} {locs : List Loc} (g1 : rgF τ) (g4 : Wf ad cI cR D scr τ H) (g5 : va_S A s.heap H locs) (hrs : rS vld as) : ∀ U : State, U.heap = H → s.WarmedH U.vm → Pcm ad cI cR D scr num A as τ (as.map (mv ad)).toArray U :=
  fun U hU hW => ⟨rfl, hrs, by rw [hU]; exact g4, CY.moved hW.alike (fun q h1 h2 => by rw [hU]; exact g5.2.1 q h1 h2), nT_moved CX.2.2.2.2.2.1 hW, g1⟩
theorem gf_inv (CX : Cx p s m args meth c cc own nL) (CY : CF ad cI cR D scr num A s) {d : Nat} (hR : d + 1 ≤ R.frames ∧ 40 * (d + 1) ≤ R.locals) (hC0 : nc ≤ R.cells ∧ ns ≤ R.slots) {Cal : Nat → List Vl → Mm → (Option Vl → Mm → Prop) → Prop}
    (hCal : ∀ (M : Nat) (as : List Vl) (τ : Mm) (Post : Option Vl → Mm → Prop), Cal M as τ Post → csum as ≤ ml M → MOK M → Met l (my M) (wsM M) (rmd d) (Pcm ad cI cR D scr num A as τ) (Qcm ad cI cR D scr A Post) 0 0 A)
    {pc : Nat} {ls : Lc} {rest as : List Vl} {τ : Mm} {k idx M ci : Nat} {i : Int}
    (hd : decode cc pc = .ok (.invokevirtual idx, 3)) (hl : VLk own idx M) (hk : kd k = (0, ci)) (hn : (vwCl[ci]?).map (fun q => q.1) = some (my M).cls) (hlen : as.length = mp M) (hcs : csum (vR k i :: as) ≤ ml M) (hst : csum rest ≤ 8)
    (kk : Cal M (vR k i :: as) τ (fun r τ' => Gf ad cI cR D scr nc ns p l e R s m args below meth c A Q nL (pc + 3) ls (r.toList ++ rest) τ')) : Gf ad cI cR D scr nc ns p l e R s m args below meth c A Q nL pc ls (as.reverse ++ vR k i :: rest) τ := by
  intro g1 g2 g3 H locs lsA g4 g5 g6
  have CX' := CX
  obtain ⟨hx, hb, hml, hown, hts, hnest, hlk⟩ := CX
  obtain ⟨hlink, hmok, hinst, hsel⟩ := hl
  obtain ⟨ga, gr⟩ := rS_app.mp g3
  obtain ⟨q1, gr⟩ := rS_cons.mp gr
  have gas : rS vld (vR k i :: as) := rS_cons.mpr ⟨q1, rS_rev.mp ga⟩
  obtain ⟨k0, hk0, he⟩ := wsT_at (ad := ad) (cI := cI) (cR := cR) (τ := τ) q1 (kd_two hk (by decide))
  rw [cE_obj hk] at he
  obtain ⟨q, hq, hqn⟩ := Option.map_eq_some_iff.mp hn
  have hrec := va_recv CY.1 g4.1 hq he
  rw [hqn] at hrec
  have hM := hCal M (vR k i :: as) τ _ kk hcs hmok
  have hgood := wsM_good hmok
  have hR2 : (rmd d).frames + 1 ≤ R.frames ∧ 8 + (ml M + 11) + (rmd d).locals ≤ R.locals := ⟨hR.1, by have h1 := hmok.2.2.2.2.1; show 8 + (ml M + 11) + 40 * d ≤ R.locals; omega⟩
  have hdd : (my M).cls ≠ "java/lang/invoke/MethodHandle" ∧ (my M).cls ≠ "java/lang/invoke/VarHandle" ∧ (parseMethodDescriptor (my M).desc).map (fun d => d.parameters.length) = some (mp M) := ⟨hmok.2.2.1.1, hmok.2.2.1.2, hmok.2.2.2.1⟩
  have hp : PreV s H (my M).cls (ad k i) (Pcm ad cI cR D scr num A (vR k i :: as) τ) (as.map (mv ad)) := ⟨Pcm_blind, hrec, pcm_at CX' CY g1 g4 g5 gas⟩
  have hfin : ∀ hr : va_Run p l e R s m args below meth c H locs nc ns 0 0 (F0 m pc lsA (List.map (mv ad) (as.reverse ++ vR k i :: rest))) (rest.map (mv ad)) (Qcm ad cI cR D scr A (fun r τ' => Gf ad cI cR D scr nc ns p l e R s m args below meth c A Q nL (pc + 3) ls (r.toList ++ rest) τ') (Value.ref (ad k i) :: as.map (mv ad)).toArray) A,
      W p l e R s m args below meth c H locs nc ns Q (F0 m pc lsA (List.map (mv ad) (as.reverse ++ vR k i :: rest))) := fun hr => by
    refine gm_call hr g5 (fun r τ' H1 locs1 hpost hrv hrg hw hS1 => ?_)
    have k' := hpost hrg g2 (rS_app.mpr ⟨fun v hv => hrv v (by
      cases r with
      | none => simp at hv
      | some w => simp at hv; rw [hv]), gr⟩) H1 locs1 lsA hw hS1 g6
    rw [List.map_append] at k'
    cases r <;> exact k'
  have hstack : List.map (mv ad) (as.reverse ++ vR k i :: rest) = (as.map (mv ad)).reverse ++ .ref (ad k i) :: rest.map (mv ad) := by
    rw [List.map_append, List.map_reverse]
    rfl
  rcases hlink with hlnk | ⟨host, hlnk⟩
  · exact hfin (va_runV (mc := 0) (ms := 0) ⟨hx, hb, hml, hown, hts⟩ hM ⟨callB_of (mp M) hts hgood rfl rfl rfl (hts _ hmok.2.1) (hts _ hlnk) hdd hR2, hts _ hinst, hts _ hsel⟩ hp rfl (by rw [List.length_map]; exact hlen) g6.2.1 hstack (lv_room (by rw [mv_sum]; exact hst)) hd hC0)
  · exact hfin (va_runVN (mc := 0) (ms := 0) ⟨hx, hb, hml, hown, hts⟩ hM ⟨va_cnB (mp M) hts hgood rfl rfl rfl (hnest _ hlnk) (hts _ hmok.2.1) hdd hR2, hts _ hinst, hts _ hsel⟩ hp rfl (by rw [List.length_map]; exact hlen) g6.2.1 hstack (lv_room (by rw [mv_sum]; exact hst)) hd hC0)
theorem gf_ins (CX : Cx p s m args meth c cc own nL) (CY : CF ad cI cR D scr num A s) {d : Nat} (hR : d + 1 ≤ R.frames ∧ 40 * (d + 1) ≤ R.locals) (hC0 : nc ≤ R.cells ∧ ns ≤ R.slots) {Cal : Nat → List Vl → Mm → (Option Vl → Mm → Prop) → Prop}
    (hCal : ∀ (M : Nat) (as : List Vl) (τ : Mm) (Post : Option Vl → Mm → Prop), Cal M as τ Post → csum as ≤ ml M → MOK M → Met l (my M) (wsM M) (rmd d) (Pcm ad cI cR D scr num A as τ) (Qcm ad cI cR D scr A Post) 0 0 A)
    {pc : Nat} {ls : Lc} {rest as : List Vl} {τ : Mm} {idx M : Nat}
    (hd : decode cc pc = .ok (.invokestatic idx, 3)) (hl : TLk own idx M) (hlen : as.length = mp M) (hcs : csum as ≤ ml M) (hst : csum rest ≤ 8)
    (kk : Cal M as τ (fun r τ' => Gf ad cI cR D scr nc ns p l e R s m args below meth c A Q nL (pc + 3) ls (r.toList ++ rest) τ')) : Gf ad cI cR D scr nc ns p l e R s m args below meth c A Q nL pc ls (as.reverse ++ rest) τ := by
  intro g1 g2 g3 H locs lsA g4 g5 g6
  have CX' := CX
  obtain ⟨hx, hb, hml, hown, hts, hnest, hlk⟩ := CX
  obtain ⟨hlink, hmok, hstat⟩ := hl
  obtain ⟨ga, gr⟩ := rS_app.mp g3
  have gas : rS vld as := rS_rev.mp ga
  have hM := hCal M as τ _ kk hcs hmok
  have hgood := wsM_good hmok
  have hR2 : (rmd d).frames + 1 ≤ R.frames ∧ 8 + (ml M + 11) + (rmd d).locals ≤ R.locals := ⟨hR.1, by have h1 := hmok.2.2.2.2.1; show 8 + (ml M + 11) + 40 * d ≤ R.locals; omega⟩
  have hdd : (my M).cls ≠ "java/lang/invoke/MethodHandle" ∧ (my M).cls ≠ "java/lang/invoke/VarHandle" ∧ (parseMethodDescriptor (my M).desc).map (fun d => d.parameters.length) = some (mp M) := ⟨hmok.2.2.1.1, hmok.2.2.1.2, hmok.2.2.2.1⟩
  have hp : PreS s H (Pcm ad cI cR D scr num A as τ) (as.map (mv ad)) := ⟨Pcm_blind, pcm_at CX' CY g1 g4 g5 gas⟩
  have hfin : ∀ hr : va_Run p l e R s m args below meth c H locs nc ns 0 0 (F0 m pc lsA (List.map (mv ad) (as.reverse ++ rest))) (rest.map (mv ad)) (Qcm ad cI cR D scr A (fun r τ' => Gf ad cI cR D scr nc ns p l e R s m args below meth c A Q nL (pc + 3) ls (r.toList ++ rest) τ') (as.map (mv ad)).toArray) A,
      W p l e R s m args below meth c H locs nc ns Q (F0 m pc lsA (List.map (mv ad) (as.reverse ++ rest))) := fun hr => by
    refine gm_call hr g5 (fun r τ' H1 locs1 hpost hrv hrg hw hS1 => ?_)
    have k' := hpost hrg g2 (rS_app.mpr ⟨fun v hv => hrv v (by
      cases r with
      | none => simp at hv
      | some w => simp at hv; rw [hv]), gr⟩) H1 locs1 lsA hw hS1 g6
    rw [List.map_append] at k'
    cases r <;> exact k'
  have hstack : List.map (mv ad) (as.reverse ++ rest) = (as.map (mv ad)).reverse ++ rest.map (mv ad) := by
    rw [List.map_append, List.map_reverse]
  rcases hlink with hlnk | ⟨host, hlnk⟩
  · exact hfin (va_runS (mc := 0) (ms := 0) ⟨hx, hb, hml, hown, hts⟩ hM ⟨callB_of (mp M) hts hgood rfl rfl rfl (hts _ hmok.2.1) (hts _ hlnk) hdd hR2, hts _ hstat⟩ hp rfl (by rw [List.length_map]; exact hlen) g6.2.1 hstack (lv_room (by rw [mv_sum]; exact hst)) hd hC0)
  · exact hfin (va_runSN (mc := 0) (ms := 0) ⟨hx, hb, hml, hown, hts⟩ hM ⟨va_cnB (mp M) hts hgood rfl rfl rfl (hnest _ hlnk) (hts _ hmok.2.1) hdd hR2, hts _ hstat, trivial⟩ hp rfl (by rw [List.length_map]; exact hlen) g6.2.1 hstack (lv_room (by rw [mv_sum]; exact hst)) hd hC0)
theorem gf_iret (CX : Cx p s m args meth c cc own nL) {Post : Option Vl → Mm → Prop} {pc : Nat} {ls : Lc} {τ : Mm} {a : Int} (hr : meth.sig.returnType = some .int) (hd : decode cc pc = .ok (.ireturn, 1)) (hp : Post (some (vI a)) τ) :
    Gf ad cI cR D scr 0 0 p l e R s m args below meth c A (MQ below (Qcm ad cI cR D scr A Post) args s 0 0 A) nL pc ls [vI a] τ := by
  intro g1 g2 g3 H locs lsA g4 g5 g6
  obtain ⟨hx, hb, hml, hown, hts, hnest, hlk⟩ := CX
  exact W.iret (v := i3 a) hx hb hr (fun t ht hW => ⟨⟨some (vI a), τ, rfl, hp, fun v hv => by cases hv; exact (rS_cons.mp g3).1, g1, by rw [ht]; exact g4⟩, g5.F ht⟩) g5.2.2 hd (hlocks := hlk)
theorem gf_zret (CX : Cx p s m args meth c cc own nL) {Post : Option Vl → Mm → Prop} {pc : Nat} {ls : Lc} {τ : Mm} {a : Int} (hr : meth.sig.returnType = some .boolean) (hd : decode cc pc = .ok (.ireturn, 1)) (ha : a = 0 ∨ a = 1) (hp : Post (some (vI a)) τ) :
    Gf ad cI cR D scr 0 0 p l e R s m args below meth c A (MQ below (Qcm ad cI cR D scr A Post) args s 0 0 A) nL pc ls [vI a] τ := by
  intro g1 g2 g3 H locs lsA g4 g5 g6
  obtain ⟨hx, hb, hml, hown, hts, hnest, hlk⟩ := CX
  exact W.zret (v := i3 a) hx hb hr (by rcases ha with rfl | rfl <;> rfl) (fun t ht hW => ⟨⟨some (vI a), τ, rfl, hp, fun v hv => by cases hv; exact (rS_cons.mp g3).1, g1, by rw [ht]; exact g4⟩, g5.F ht⟩) g5.2.2 hd (hlocks := hlk)
theorem gf_vret (CX : Cx p s m args meth c cc own nL) {Post : Option Vl → Mm → Prop} {pc : Nat} {ls : Lc} {τ : Mm} (hr : meth.sig.returnType = none) (hd : decode cc pc = .ok (.return_, 1)) (hp : Post none τ) :
    Gf ad cI cR D scr 0 0 p l e R s m args below meth c A (MQ below (Qcm ad cI cR D scr A Post) args s 0 0 A) nL pc ls [] τ := by
  intro g1 g2 g3 H locs lsA g4 g5 g6
  obtain ⟨hx, hb, hml, hown, hts, hnest, hlk⟩ := CX
  exact W.vret hx hb hr (fun t ht hW => ⟨⟨none, τ, rfl, hp, fun v hv => by (cases hv), g1, by rw [ht]; exact g4⟩, g5.F ht⟩) g5.2.2 hd (hlocks := hlk)
theorem gf_aret (CX : Cx p s m args meth c cc own nL) {Post : Option Vl → Mm → Prop} {pc : Nat} {ls : Lc} {τ : Mm} {n : String} {q : Option (Nat × Int)} (hr : meth.sig.returnType = some (.object n)) (hd : decode cc pc = .ok (.areturn, 1)) (hp : Post (some (Sum.inr (Sum.inl q))) τ) :
    Gf ad cI cR D scr 0 0 p l e R s m args below meth c A (MQ below (Qcm ad cI cR D scr A Post) args s 0 0 A) nL pc ls [Sum.inr (Sum.inl q)] τ := by
  intro g1 g2 g3 H locs lsA g4 g5 g6
  obtain ⟨hx, hb, hml, hown, hts, hnest, hlk⟩ := CX
  exact W.aret (v := mv ad (Sum.inr (Sum.inl q))) hx hb hr (Or.inl ⟨n, rfl⟩) (by rcases q with _ | q; exact Or.inl rfl; exact Or.inr ⟨_, rfl⟩) (fun t ht hW => ⟨⟨some (Sum.inr (Sum.inl q)), τ, rfl, hp, fun v hv => by cases hv; exact (rS_cons.mp g3).1, g1, by rw [ht]; exact g4⟩, g5.F ht⟩) g5.2.2 hd (hlocks := hlk)
end CALLF
def M_getI (cc : ByteArray) (own : String) (Cal : Nat → List Vl → Mm → (Option Vl → Mm → Prop) → Prop) (K : Nat → Lc → List Vl → Mm → Prop) : Prop := ∀ {pc : Nat} {ls : Lc} {st : List Vl} {τ : Mm} {k : Nat} {i jz : Int} {idx ci j : Nat} {ty : FieldType}, (decode cc pc = .ok (.getfield idx, 3)) → (FLk own idx ci j ty) → (kd k = (0, ci)) → (rff k i j = none) → ((j : Int) = jz) → (K (pc + 3) ls (vI (τ k i jz) :: st) τ) → K pc ls (vR k i :: st) τ
def M_getR (cc : ByteArray) (own : String) (Cal : Nat → List Vl → Mm → (Option Vl → Mm → Prop) → Prop) (K : Nat → Lc → List Vl → Mm → Prop) : Prop := ∀ {pc : Nat} {ls : Lc} {st : List Vl} {τ : Mm} {k : Nat} {i : Int} {idx ci j : Nat} {ty : FieldType} {q : Nat × Int}, (decode cc pc = .ok (.getfield idx, 3)) → (FLk own idx ci j ty) → (kd k = (0, ci)) → (rff k i j = some q) → (vld q) → (K (pc + 3) ls (Sum.inr (Sum.inl (some q)) :: st) τ) → K pc ls (vR k i :: st) τ
def M_putI (cc : ByteArray) (own : String) (Cal : Nat → List Vl → Mm → (Option Vl → Mm → Prop) → Prop) (K : Nat → Lc → List Vl → Mm → Prop) : Prop := ∀ {pc : Nat} {ls : Lc} {st : List Vl} {τ : Mm} {k : Nat} {i a jz : Int} {idx ci j : Nat}, (decode cc pc = .ok (.putfield idx, 3)) → (FLw own idx ci j .int) → (kd k = (0, ci)) → (rff k i j = none) → ((j : Int) = jz) → (K (pc + 3) ls st (mu τ k i jz a)) → K pc ls (vI a :: vR k i :: st) τ
def M_putZ (cc : ByteArray) (own : String) (Cal : Nat → List Vl → Mm → (Option Vl → Mm → Prop) → Prop) (K : Nat → Lc → List Vl → Mm → Prop) : Prop := ∀ {pc : Nat} {ls : Lc} {st : List Vl} {τ : Mm} {k : Nat} {i a jz : Int} {idx ci j : Nat}, (decode cc pc = .ok (.putfield idx, 3)) → (FLw own idx ci j .boolean) → (kd k = (0, ci)) → (rff k i j = none) → ((j : Int) = jz) → (a = 0 ∨ a = 1) → (K (pc + 3) ls st (mu τ k i jz a)) → K pc ls (vI a :: vR k i :: st) τ
def M_iald (cc : ByteArray) (own : String) (Cal : Nat → List Vl → Mm → (Option Vl → Mm → Prop) → Prop) (K : Nat → Lc → List Vl → Mm → Prop) : Prop := ∀ {pc : Nat} {ls : Lc} {st : List Vl} {τ : Mm} {k : Nat} {i j : Int} {n : Nat}, (decode cc pc = .ok (.iaload, 1)) → (kd k = (1, n)) → (0 ≤ j) → (j < (n : Int)) → (K (pc + 1) ls (vI (τ k i j) :: st) τ) → K pc ls (vI j :: vR k i :: st) τ
def M_iast (cc : ByteArray) (own : String) (Cal : Nat → List Vl → Mm → (Option Vl → Mm → Prop) → Prop) (K : Nat → Lc → List Vl → Mm → Prop) : Prop := ∀ {pc : Nat} {ls : Lc} {st : List Vl} {τ : Mm} {k : Nat} {i j a : Int} {n : Nat}, (decode cc pc = .ok (.iastore, 1)) → (kd k = (1, n)) → (0 ≤ j) → (j < (n : Int)) → (K (pc + 1) ls st (mu τ k i j a)) → K pc ls (vI a :: vI j :: vR k i :: st) τ
def M_aald (cc : ByteArray) (own : String) (Cal : Nat → List Vl → Mm → (Option Vl → Mm → Prop) → Prop) (K : Nat → Lc → List Vl → Mm → Prop) : Prop := ∀ {pc : Nat} {ls : Lc} {st : List Vl} {τ : Mm} {k : Nat} {i j : Int} {t n : Nat}, (decode cc pc = .ok (.aaload, 1)) → (kd k = (t + 2, n)) → (t < 4) → (0 ≤ j) → (j < (n : Int)) → (vld (rfa k j)) → (K (pc + 1) ls (Sum.inr (Sum.inl (some (rfa k j))) :: st) τ) → K pc ls (vI j :: vR k i :: st) τ
def M_alen (cc : ByteArray) (own : String) (Cal : Nat → List Vl → Mm → (Option Vl → Mm → Prop) → Prop) (K : Nat → Lc → List Vl → Mm → Prop) : Prop := ∀ {pc : Nat} {ls : Lc} {st : List Vl} {τ : Mm} {k : Nat} {i nz : Int} {n : Nat}, (decode cc pc = .ok (.arraylength, 1)) → (kd k = (1, n)) → ((n : Int) = nz) → (n < 2147483648) → (K (pc + 1) ls (vI nz :: st) τ) → K pc ls (vR k i :: st) τ
def M_sald (cc : ByteArray) (own : String) (Cal : Nat → List Vl → Mm → (Option Vl → Mm → Prop) → Prop) (K : Nat → Lc → List Vl → Mm → Prop) : Prop := ∀ {pc : Nat} {ls : Lc} {st : List Vl} {τ : Mm} {j : Int}, (decode cc pc = .ok (.iaload, 1)) → (0 ≤ j) → (j < τ 0 0 (-1)) → (K (pc + 1) ls (vI (τ 0 0 j) :: st) τ) → K pc ls (vI j :: vR 0 0 :: st) τ
def M_slen (cc : ByteArray) (own : String) (Cal : Nat → List Vl → Mm → (Option Vl → Mm → Prop) → Prop) (K : Nat → Lc → List Vl → Mm → Prop) : Prop := ∀ {pc : Nat} {ls : Lc} {st : List Vl} {τ : Mm}, (decode cc pc = .ok (.arraylength, 1)) → (K (pc + 1) ls (vI (τ 0 0 (-1)) :: st) τ) → K pc ls (vR 0 0 :: st) τ
def M_nums (cc : ByteArray) (own : String) (Cal : Nat → List Vl → Mm → (Option Vl → Mm → Prop) → Prop) (K : Nat → Lc → List Vl → Mm → Prop) : Prop := ∀ {pc : Nat} {ls : Lc} {st : List Vl} {τ : Mm} {idx : Nat}, (decode cc pc = .ok (.getstatic idx, 3)) → (SLk own idx) → (K (pc + 3) ls (vR 1 0 :: st) τ) → K pc ls st τ
def M_nald (cc : ByteArray) (own : String) (Cal : Nat → List Vl → Mm → (Option Vl → Mm → Prop) → Prop) (K : Nat → Lc → List Vl → Mm → Prop) : Prop := ∀ {pc : Nat} {ls : Lc} {st : List Vl} {τ : Mm} {j : Int}, (decode cc pc = .ok (.iaload, 1)) → (0 ≤ j) → (j < 10) → (K (pc + 1) ls (vI (numF j) :: st) τ) → K pc ls (vI j :: vR 1 0 :: st) τ
def M_copy (cc : ByteArray) (own : String) (Cal : Nat → List Vl → Mm → (Option Vl → Mm → Prop) → Prop) (K : Nat → Lc → List Vl → Mm → Prop) : Prop := ∀ {pc : Nat} {ls : Lc} {st : List Vl} {τ : Mm} {k0 k1 : Nat} {i0 i1 sp dp n : Int} {n0 n1 idx : Nat}, (decode cc pc = .ok (.invokestatic idx, 3)) → (Cond.methodLink own idx arraycopyName ∈ gT ∧ Cond.native arraycopyName ∈ gT ∧ Cond.static arraycopyName ∈ gT ∧ Cond.initialized "java/lang/System" ∈ gT) → (kd k0 = (1, n0)) → (kd k1 = (1, n1)) → (0 ≤ sp) → (0 ≤ dp) → (0 ≤ n) → (sp + n ≤ (n0 : Int)) → (dp + n ≤ (n1 : Int)) → (csum st ≤ 8) → (K (pc + 3) ls st (cpy τ k0 i0 sp k1 i1 dp n)) → K pc ls (vI n :: vI dp :: vR k1 i1 :: vI sp :: vR k0 i0 :: st) τ
def M_inv (cc : ByteArray) (own : String) (Cal : Nat → List Vl → Mm → (Option Vl → Mm → Prop) → Prop) (K : Nat → Lc → List Vl → Mm → Prop) : Prop := ∀ {pc : Nat} {ls : Lc} {rest as : List Vl} {τ : Mm} {k idx M ci : Nat} {i : Int}, (decode cc pc = .ok (.invokevirtual idx, 3)) → (VLk own idx M) → (kd k = (0, ci)) → ((vwCl[ci]?).map (fun q => q.1) = some (my M).cls) → (as.length = mp M) → (csum (vR k i :: as) ≤ ml M) → (csum rest ≤ 8) → (Cal M (vR k i :: as) τ (fun r τ2 => K (pc + 3) ls (r.toList ++ rest) τ2)) → K pc ls (as.reverse ++ vR k i :: rest) τ
def M_ins (cc : ByteArray) (own : String) (Cal : Nat → List Vl → Mm → (Option Vl → Mm → Prop) → Prop) (K : Nat → Lc → List Vl → Mm → Prop) : Prop := ∀ {pc : Nat} {ls : Lc} {rest as : List Vl} {τ : Mm} {idx M : Nat}, (decode cc pc = .ok (.invokestatic idx, 3)) → (TLk own idx M) → (as.length = mp M) → (csum as ≤ ml M) → (csum rest ≤ 8) → (Cal M as τ (fun r τ2 => K (pc + 3) ls (r.toList ++ rest) τ2)) → K pc ls (as.reverse ++ rest) τ
def T_iret (cc : ByteArray) (ret : Option FieldType) (Post : Option Vl → Mm → Prop) (K : Nat → Lc → List Vl → Mm → Prop) : Prop := ∀ {pc : Nat} {ls : Lc} {τ : Mm} {a : Int}, (ret = some .int) → (decode cc pc = .ok (.ireturn, 1)) → (Post (some (vI a)) τ) → K pc ls [vI a] τ
def T_zret (cc : ByteArray) (ret : Option FieldType) (Post : Option Vl → Mm → Prop) (K : Nat → Lc → List Vl → Mm → Prop) : Prop := ∀ {pc : Nat} {ls : Lc} {τ : Mm} {a : Int}, (ret = some .boolean) → (decode cc pc = .ok (.ireturn, 1)) → (a = 0 ∨ a = 1) → (Post (some (vI a)) τ) → K pc ls [vI a] τ
def T_vret (cc : ByteArray) (ret : Option FieldType) (Post : Option Vl → Mm → Prop) (K : Nat → Lc → List Vl → Mm → Prop) : Prop := ∀ {pc : Nat} {ls : Lc} {τ : Mm}, (ret = none) → (decode cc pc = .ok (.return_, 1)) → (Post none τ) → K pc ls [] τ
def T_aret (cc : ByteArray) (ret : Option FieldType) (Post : Option Vl → Mm → Prop) (K : Nat → Lc → List Vl → Mm → Prop) : Prop := ∀ {pc : Nat} {ls : Lc} {τ : Mm} {n : String} {q : Option (Nat × Int)}, (ret = some (.object n)) → (decode cc pc = .ok (.areturn, 1)) → (Post (some (Sum.inr (Sum.inl q))) τ) → K pc ls [Sum.inr (Sum.inl q)] τ
def StpM (cc : ByteArray) (own : String) (Cal : Nat → List Vl → Mm → (Option Vl → Mm → Prop) → Prop) (K : Nat → Lc → List Vl → Mm → Prop) : Prop := StpC (fun _ => vld) rgF cc own K ∧ M_getI cc own Cal K ∧ M_getR cc own Cal K ∧ M_putI cc own Cal K ∧ M_putZ cc own Cal K ∧ M_iald cc own Cal K ∧ M_iast cc own Cal K ∧ M_aald cc own Cal K ∧ M_alen cc own Cal K ∧ M_sald cc own Cal K ∧ M_slen cc own Cal K ∧ M_nums cc own Cal K ∧ M_nald cc own Cal K ∧ M_copy cc own Cal K ∧ M_inv cc own Cal K ∧ M_ins cc own Cal K
def StpF (cc : ByteArray) (own : String) (ret : Option FieldType) (Cal : Nat → List Vl → Mm → (Option Vl → Mm → Prop) → Prop) (Post : Option Vl → Mm → Prop) (K : Nat → Lc → List Vl → Mm → Prop) : Prop := StpM cc own Cal K ∧ T_iret cc ret Post K ∧ T_zret cc ret Post K ∧ T_vret cc ret Post K ∧ T_aret cc ret Post K
section MROWS
variable {cc : ByteArray} {own : String} {ret : Option FieldType} {Cal : Nat → List Vl → Mm → (Option Vl → Mm → Prop) → Prop} {Post : Option Vl → Mm → Prop} {K : Nat → Lc → List Vl → Mm → Prop}
theorem m_getI (hK : StpM cc own Cal K) {pc : Nat} {ls : Lc} {st : List Vl} {τ : Mm} {k : Nat} {i jz : Int} {idx ci j : Nat} {ty : FieldType} (hd : decode cc pc = .ok (.getfield idx, 3)) (hf : FLk own idx ci j ty) (hk : kd k = (0, ci)) (hr : rff k i j = none) (hz : (j : Int) = jz) (k_ : K (pc + 3) ls (vI (τ k i jz) :: st) τ) : K pc ls (vR k i :: st) τ := hK.2.1 hd hf hk hr hz k_
theorem m_getR (hK : StpM cc own Cal K) {pc : Nat} {ls : Lc} {st : List Vl} {τ : Mm} {k : Nat} {i : Int} {idx ci j : Nat} {ty : FieldType} {q : Nat × Int} (hd : decode cc pc = .ok (.getfield idx, 3)) (hf : FLk own idx ci j ty) (hk : kd k = (0, ci)) (hr : rff k i j = some q) (hv : vld q) (k_ : K (pc + 3) ls (Sum.inr (Sum.inl (some q)) :: st) τ) : K pc ls (vR k i :: st) τ := hK.2.2.1 hd hf hk hr hv k_
theorem m_putI (hK : StpM cc own Cal K) {pc : Nat} {ls : Lc} {st : List Vl} {τ : Mm} {k : Nat} {i a jz : Int} {idx ci j : Nat} (hd : decode cc pc = .ok (.putfield idx, 3)) (hf : FLw own idx ci j .int) (hk : kd k = (0, ci)) (hr : rff k i j = none) (hz : (j : Int) = jz) (k_ : K (pc + 3) ls st (mu τ k i jz a)) : K pc ls (vI a :: vR k i :: st) τ := hK.2.2.2.1 hd hf hk hr hz k_
theorem m_putZ (hK : StpM cc own Cal K) {pc : Nat} {ls : Lc} {st : List Vl} {τ : Mm} {k : Nat} {i a jz : Int} {idx ci j : Nat} (hd : decode cc pc = .ok (.putfield idx, 3)) (hf : FLw own idx ci j .boolean) (hk : kd k = (0, ci)) (hr : rff k i j = none) (hz : (j : Int) = jz) (ha : a = 0 ∨ a = 1) (k_ : K (pc + 3) ls st (mu τ k i jz a)) : K pc ls (vI a :: vR k i :: st) τ := hK.2.2.2.2.1 hd hf hk hr hz ha k_
theorem m_iald (hK : StpM cc own Cal K) {pc : Nat} {ls : Lc} {st : List Vl} {τ : Mm} {k : Nat} {i j : Int} {n : Nat} (hd : decode cc pc = .ok (.iaload, 1)) (hk : kd k = (1, n)) (h0 : 0 ≤ j) (h1 : j < (n : Int)) (k_ : K (pc + 1) ls (vI (τ k i j) :: st) τ) : K pc ls (vI j :: vR k i :: st) τ := hK.2.2.2.2.2.1 hd hk h0 h1 k_
theorem m_iast (hK : StpM cc own Cal K) {pc : Nat} {ls : Lc} {st : List Vl} {τ : Mm} {k : Nat} {i j a : Int} {n : Nat} (hd : decode cc pc = .ok (.iastore, 1)) (hk : kd k = (1, n)) (h0 : 0 ≤ j) (h1 : j < (n : Int)) (k_ : K (pc + 1) ls st (mu τ k i j a)) : K pc ls (vI a :: vI j :: vR k i :: st) τ := hK.2.2.2.2.2.2.1 hd hk h0 h1 k_
theorem m_aald (hK : StpM cc own Cal K) {pc : Nat} {ls : Lc} {st : List Vl} {τ : Mm} {k : Nat} {i j : Int} {t n : Nat} (hd : decode cc pc = .ok (.aaload, 1)) (hk : kd k = (t + 2, n)) (ht : t < 4) (h0 : 0 ≤ j) (h1 : j < (n : Int)) (hv : vld (rfa k j)) (k_ : K (pc + 1) ls (Sum.inr (Sum.inl (some (rfa k j))) :: st) τ) : K pc ls (vI j :: vR k i :: st) τ := hK.2.2.2.2.2.2.2.1 hd hk ht h0 h1 hv k_
theorem m_alen (hK : StpM cc own Cal K) {pc : Nat} {ls : Lc} {st : List Vl} {τ : Mm} {k : Nat} {i nz : Int} {n : Nat} (hd : decode cc pc = .ok (.arraylength, 1)) (hk : kd k = (1, n)) (hz : (n : Int) = nz) (hn : n < 2147483648) (k_ : K (pc + 1) ls (vI nz :: st) τ) : K pc ls (vR k i :: st) τ := hK.2.2.2.2.2.2.2.2.1 hd hk hz hn k_
theorem m_sald (hK : StpM cc own Cal K) {pc : Nat} {ls : Lc} {st : List Vl} {τ : Mm} {j : Int} (hd : decode cc pc = .ok (.iaload, 1)) (h0 : 0 ≤ j) (h1 : j < τ 0 0 (-1)) (k_ : K (pc + 1) ls (vI (τ 0 0 j) :: st) τ) : K pc ls (vI j :: vR 0 0 :: st) τ := hK.2.2.2.2.2.2.2.2.2.1 hd h0 h1 k_
theorem m_slen (hK : StpM cc own Cal K) {pc : Nat} {ls : Lc} {st : List Vl} {τ : Mm} (hd : decode cc pc = .ok (.arraylength, 1)) (k_ : K (pc + 1) ls (vI (τ 0 0 (-1)) :: st) τ) : K pc ls (vR 0 0 :: st) τ := hK.2.2.2.2.2.2.2.2.2.2.1 hd k_
theorem m_nums (hK : StpM cc own Cal K) {pc : Nat} {ls : Lc} {st : List Vl} {τ : Mm} {idx : Nat} (hd : decode cc pc = .ok (.getstatic idx, 3)) (hl : SLk own idx) (k_ : K (pc + 3) ls (vR 1 0 :: st) τ) : K pc ls st τ := hK.2.2.2.2.2.2.2.2.2.2.2.1 hd hl k_
theorem m_nald (hK : StpM cc own Cal K) {pc : Nat} {ls : Lc} {st : List Vl} {τ : Mm} {j : Int} (hd : decode cc pc = .ok (.iaload, 1)) (h0 : 0 ≤ j) (h1 : j < 10) (k_ : K (pc + 1) ls (vI (numF j) :: st) τ) : K pc ls (vI j :: vR 1 0 :: st) τ := hK.2.2.2.2.2.2.2.2.2.2.2.2.1 hd h0 h1 k_
theorem m_copy (hK : StpM cc own Cal K) {pc : Nat} {ls : Lc} {st : List Vl} {τ : Mm} {k0 k1 : Nat} {i0 i1 sp dp n : Int} {n0 n1 idx : Nat} (hd : decode cc pc = .ok (.invokestatic idx, 3)) (hl : Cond.methodLink own idx arraycopyName ∈ gT ∧ Cond.native arraycopyName ∈ gT ∧ Cond.static arraycopyName ∈ gT ∧ Cond.initialized "java/lang/System" ∈ gT) (hk0 : kd k0 = (1, n0)) (hk1 : kd k1 = (1, n1)) (h1 : 0 ≤ sp) (h2 : 0 ≤ dp) (h3 : 0 ≤ n) (h4 : sp + n ≤ (n0 : Int)) (h5 : dp + n ≤ (n1 : Int)) (hst : csum st ≤ 8) (k_ : K (pc + 3) ls st (cpy τ k0 i0 sp k1 i1 dp n)) : K pc ls (vI n :: vI dp :: vR k1 i1 :: vI sp :: vR k0 i0 :: st) τ := hK.2.2.2.2.2.2.2.2.2.2.2.2.2.1 hd hl hk0 hk1 h1 h2 h3 h4 h5 hst k_
theorem m_inv (hK : StpM cc own Cal K) {pc : Nat} {ls : Lc} {rest as : List Vl} {τ : Mm} {k idx M ci : Nat} {i : Int} (hd : decode cc pc = .ok (.invokevirtual idx, 3)) (hl : VLk own idx M) (hk : kd k = (0, ci)) (hn : (vwCl[ci]?).map (fun q => q.1) = some (my M).cls) (hlen : as.length = mp M) (hcs : csum (vR k i :: as) ≤ ml M) (hst : csum rest ≤ 8) (k_ : Cal M (vR k i :: as) τ (fun r τ2 => K (pc + 3) ls (r.toList ++ rest) τ2)) : K pc ls (as.reverse ++ vR k i :: rest) τ := hK.2.2.2.2.2.2.2.2.2.2.2.2.2.2.1 hd hl hk hn hlen hcs hst k_
theorem m_ins (hK : StpM cc own Cal K) {pc : Nat} {ls : Lc} {rest as : List Vl} {τ : Mm} {idx M : Nat} (hd : decode cc pc = .ok (.invokestatic idx, 3)) (hl : TLk own idx M) (hlen : as.length = mp M) (hcs : csum as ≤ ml M) (hst : csum rest ≤ 8) (k_ : Cal M as τ (fun r τ2 => K (pc + 3) ls (r.toList ++ rest) τ2)) : K pc ls (as.reverse ++ rest) τ := hK.2.2.2.2.2.2.2.2.2.2.2.2.2.2.2 hd hl hlen hcs hst k_
theorem t_iret (hK : StpF cc own ret Cal Post K) {pc : Nat} {ls : Lc} {τ : Mm} {a : Int} (hr : ret = some .int) (hd : decode cc pc = .ok (.ireturn, 1)) (hp : Post (some (vI a)) τ) : K pc ls [vI a] τ := hK.2.1 hr hd hp
theorem t_zret (hK : StpF cc own ret Cal Post K) {pc : Nat} {ls : Lc} {τ : Mm} {a : Int} (hr : ret = some .boolean) (hd : decode cc pc = .ok (.ireturn, 1)) (ha : a = 0 ∨ a = 1) (hp : Post (some (vI a)) τ) : K pc ls [vI a] τ := hK.2.2.1 hr hd ha hp
theorem t_vret (hK : StpF cc own ret Cal Post K) {pc : Nat} {ls : Lc} {τ : Mm} (hr : ret = none) (hd : decode cc pc = .ok (.return_, 1)) (hp : Post none τ) : K pc ls [] τ := hK.2.2.2.1 hr hd hp
theorem t_aret (hK : StpF cc own ret Cal Post K) {pc : Nat} {ls : Lc} {τ : Mm} {n : String} {q : Option (Nat × Int)} (hr : ret = some (.object n)) (hd : decode cc pc = .ok (.areturn, 1)) (hp : Post (some (Sum.inr (Sum.inl q))) τ) : K pc ls [Sum.inr (Sum.inl q)] τ := hK.2.2.2.2 hr hd hp
theorem m_inv0 (hK : StpM cc own Cal K) {pc : Nat} {ls : Lc} {rest : List Vl} {τ : Mm} {k idx M ci : Nat} {i : Int} (hd : decode cc pc = .ok (.invokevirtual idx, 3)) (hl : VLk own idx M) (hk : kd k = (0, ci)) (hn : (vwCl[ci]?).map (fun q => q.1) = some (my M).cls) (hlen : (0 : Nat) = mp M) (hcs : csum (vR k i :: []) ≤ ml M) (hst : csum rest ≤ 8) (k_ : Cal M (vR k i :: []) τ (fun r τ2 => K (pc + 3) ls (r.toList ++ rest) τ2)) : K pc ls (vR k i :: rest) τ := m_inv hK (as := []) hd hl hk hn hlen hcs hst k_
theorem m_inv1 (hK : StpM cc own Cal K) {pc : Nat} {ls : Lc} {rest : List Vl} {τ : Mm} {k idx M ci : Nat} {i : Int} {a1 : Vl} (hd : decode cc pc = .ok (.invokevirtual idx, 3)) (hl : VLk own idx M) (hk : kd k = (0, ci)) (hn : (vwCl[ci]?).map (fun q => q.1) = some (my M).cls) (hlen : (1 : Nat) = mp M) (hcs : csum (vR k i :: [a1]) ≤ ml M) (hst : csum rest ≤ 8) (k_ : Cal M (vR k i :: [a1]) τ (fun r τ2 => K (pc + 3) ls (r.toList ++ rest) τ2)) : K pc ls (a1 :: vR k i :: rest) τ := m_inv hK (as := [a1]) hd hl hk hn hlen hcs hst k_
theorem m_ins1 (hK : StpM cc own Cal K) {pc : Nat} {ls : Lc} {rest : List Vl} {τ : Mm} {idx M : Nat} {a1 : Vl} (hd : decode cc pc = .ok (.invokestatic idx, 3)) (hl : TLk own idx M) (hlen : (1 : Nat) = mp M) (hcs : csum [a1] ≤ ml M) (hst : csum rest ≤ 8) (k_ : Cal M [a1] τ (fun r τ2 => K (pc + 3) ls (r.toList ++ rest) τ2)) : K pc ls (a1 :: rest) τ := m_ins hK (as := [a1]) hd hl hlen hcs hst k_
theorem m_inv2 (hK : StpM cc own Cal K) {pc : Nat} {ls : Lc} {rest : List Vl} {τ : Mm} {k idx M ci : Nat} {i : Int} {a1 a2 : Vl} (hd : decode cc pc = .ok (.invokevirtual idx, 3)) (hl : VLk own idx M) (hk : kd k = (0, ci)) (hn : (vwCl[ci]?).map (fun q => q.1) = some (my M).cls) (hlen : (2 : Nat) = mp M) (hcs : csum (vR k i :: [a1, a2]) ≤ ml M) (hst : csum rest ≤ 8) (k_ : Cal M (vR k i :: [a1, a2]) τ (fun r τ2 => K (pc + 3) ls (r.toList ++ rest) τ2)) : K pc ls (a2 :: a1 :: vR k i :: rest) τ := m_inv hK (as := [a1, a2]) hd hl hk hn hlen hcs hst k_
theorem m_ins2 (hK : StpM cc own Cal K) {pc : Nat} {ls : Lc} {rest : List Vl} {τ : Mm} {idx M : Nat} {a1 a2 : Vl} (hd : decode cc pc = .ok (.invokestatic idx, 3)) (hl : TLk own idx M) (hlen : (2 : Nat) = mp M) (hcs : csum [a1, a2] ≤ ml M) (hst : csum rest ≤ 8) (k_ : Cal M [a1, a2] τ (fun r τ2 => K (pc + 3) ls (r.toList ++ rest) τ2)) : K pc ls (a2 :: a1 :: rest) τ := m_ins hK (as := [a1, a2]) hd hl hlen hcs hst k_
theorem m_inv3 (hK : StpM cc own Cal K) {pc : Nat} {ls : Lc} {rest : List Vl} {τ : Mm} {k idx M ci : Nat} {i : Int} {a1 a2 a3 : Vl} (hd : decode cc pc = .ok (.invokevirtual idx, 3)) (hl : VLk own idx M) (hk : kd k = (0, ci)) (hn : (vwCl[ci]?).map (fun q => q.1) = some (my M).cls) (hlen : (3 : Nat) = mp M) (hcs : csum (vR k i :: [a1, a2, a3]) ≤ ml M) (hst : csum rest ≤ 8) (k_ : Cal M (vR k i :: [a1, a2, a3]) τ (fun r τ2 => K (pc + 3) ls (r.toList ++ rest) τ2)) : K pc ls (a3 :: a2 :: a1 :: vR k i :: rest) τ := m_inv hK (as := [a1, a2, a3]) hd hl hk hn hlen hcs hst k_
theorem m_ins3 (hK : StpM cc own Cal K) {pc : Nat} {ls : Lc} {rest : List Vl} {τ : Mm} {idx M : Nat} {a1 a2 a3 : Vl} (hd : decode cc pc = .ok (.invokestatic idx, 3)) (hl : TLk own idx M) (hlen : (3 : Nat) = mp M) (hcs : csum [a1, a2, a3] ≤ ml M) (hst : csum rest ≤ 8) (k_ : Cal M [a1, a2, a3] τ (fun r τ2 => K (pc + 3) ls (r.toList ++ rest) τ2)) : K pc ls (a3 :: a2 :: a1 :: rest) τ := m_ins hK (as := [a1, a2, a3]) hd hl hlen hcs hst k_
theorem m_inv4 (hK : StpM cc own Cal K) {pc : Nat} {ls : Lc} {rest : List Vl} {τ : Mm} {k idx M ci : Nat} {i : Int} {a1 a2 a3 a4 : Vl} (hd : decode cc pc = .ok (.invokevirtual idx, 3)) (hl : VLk own idx M) (hk : kd k = (0, ci)) (hn : (vwCl[ci]?).map (fun q => q.1) = some (my M).cls) (hlen : (4 : Nat) = mp M) (hcs : csum (vR k i :: [a1, a2, a3, a4]) ≤ ml M) (hst : csum rest ≤ 8) (k_ : Cal M (vR k i :: [a1, a2, a3, a4]) τ (fun r τ2 => K (pc + 3) ls (r.toList ++ rest) τ2)) : K pc ls (a4 :: a3 :: a2 :: a1 :: vR k i :: rest) τ := m_inv hK (as := [a1, a2, a3, a4]) hd hl hk hn hlen hcs hst k_
theorem m_ins4 (hK : StpM cc own Cal K) {pc : Nat} {ls : Lc} {rest : List Vl} {τ : Mm} {idx M : Nat} {a1 a2 a3 a4 : Vl} (hd : decode cc pc = .ok (.invokestatic idx, 3)) (hl : TLk own idx M) (hlen : (4 : Nat) = mp M) (hcs : csum [a1, a2, a3, a4] ≤ ml M) (hst : csum rest ≤ 8) (k_ : Cal M [a1, a2, a3, a4] τ (fun r τ2 => K (pc + 3) ls (r.toList ++ rest) τ2)) : K pc ls (a4 :: a3 :: a2 :: a1 :: rest) τ := m_ins hK (as := [a1, a2, a3, a4]) hd hl hlen hcs hst k_
theorem m_inv5 (hK : StpM cc own Cal K) {pc : Nat} {ls : Lc} {rest : List Vl} {τ : Mm} {k idx M ci : Nat} {i : Int} {a1 a2 a3 a4 a5 : Vl} (hd : decode cc pc = .ok (.invokevirtual idx, 3)) (hl : VLk own idx M) (hk : kd k = (0, ci)) (hn : (vwCl[ci]?).map (fun q => q.1) = some (my M).cls) (hlen : (5 : Nat) = mp M) (hcs : csum (vR k i :: [a1, a2, a3, a4, a5]) ≤ ml M) (hst : csum rest ≤ 8) (k_ : Cal M (vR k i :: [a1, a2, a3, a4, a5]) τ (fun r τ2 => K (pc + 3) ls (r.toList ++ rest) τ2)) : K pc ls (a5 :: a4 :: a3 :: a2 :: a1 :: vR k i :: rest) τ := m_inv hK (as := [a1, a2, a3, a4, a5]) hd hl hk hn hlen hcs hst k_
theorem m_ins5 (hK : StpM cc own Cal K) {pc : Nat} {ls : Lc} {rest : List Vl} {τ : Mm} {idx M : Nat} {a1 a2 a3 a4 a5 : Vl} (hd : decode cc pc = .ok (.invokestatic idx, 3)) (hl : TLk own idx M) (hlen : (5 : Nat) = mp M) (hcs : csum [a1, a2, a3, a4, a5] ≤ ml M) (hst : csum rest ≤ 8) (k_ : Cal M [a1, a2, a3, a4, a5] τ (fun r τ2 => K (pc + 3) ls (r.toList ++ rest) τ2)) : K pc ls (a5 :: a4 :: a3 :: a2 :: a1 :: rest) τ := m_ins hK (as := [a1, a2, a3, a4, a5]) hd hl hlen hcs hst k_
end MROWS
section MSND
variable {ad : Nat → Int → Nat} {cI : ClassId} {cR : Nat → ClassId} {D : va_G} {scr num : Cell} {nc ns : Nat}
variable {p : Program} {l : Launch} {e : Env} {R : Room} {s : State} {m : MethodId} {args : Array Value} {below : List Frame} {meth : Method} {c : Code} {A : Nat → Prop} {Q : State → Prop} {nL : Nat} {cc : ByteArray} {own : String}
theorem stpM_Gf (CX : Cx p s m args meth c cc own nL) (CY : CF ad cI cR D scr num A s) {d : Nat} (hR : d + 1 ≤ R.frames ∧ 40 * (d + 1) ≤ R.locals) (hC0 : nc ≤ R.cells ∧ ns ≤ R.slots) {Cal : Nat → List Vl → Mm → (Option Vl → Mm → Prop) → Prop}
    (hCal : ∀ (M : Nat) (as : List Vl) (τ : Mm) (Post : Option Vl → Mm → Prop), Cal M as τ Post → csum as ≤ ml M → MOK M → Met l (my M) (wsM M) (rmd d) (Pcm ad cI cR D scr num A as τ) (Qcm ad cI cR D scr A Post) 0 0 A) :
    StpM cc own Cal (Gf ad cI cR D scr nc ns p l e R s m args below meth c A Q nL) := by
  have hR1 : 1 ≤ R.frames ∧ 40 ≤ R.locals := ⟨by omega, by omega⟩
  refine ⟨stpC_Gm CX, ?_, ?_, ?_, ?_, ?_, ?_, ?_, ?_, ?_, ?_, ?_, ?_, ?_, ?_, ?_⟩
  · intro pc ls st τ k i jz idx ci j ty hd hf hk hr hz k_
    exact by subst hz; exact gf_get CX CY hd hf hk (fun q h => by rw [hr] at h; cases h) (by unfold fval; rw [hr]; exact k_)
  · intro pc ls st τ k i idx ci j ty q hd hf hk hr hv k_
    exact gf_get CX CY hd hf hk (fun q2 h => by rw [hr] at h; cases h; exact hv) (by unfold fval; rw [hr]; exact k_)
  · intro pc ls st τ k i a jz idx ci j hd hf hk hr hz k_
    exact gf_put CX CY hd hf hk hr hz rfl rfl k_
  · intro pc ls st τ k i a jz idx ci j hd hf hk hr hz ha k_
    exact gf_put CX CY hd hf hk hr hz (by rcases ha with rfl | rfl <;> rfl) (by rcases ha with rfl | rfl <;> rfl) k_
  · intro pc ls st τ k i j n hd hk h0 h1 k_
    exact gf_iald CX CY hd hk h0 h1 k_
  · intro pc ls st τ k i j a n hd hk h0 h1 k_
    exact gf_iast CX CY hd hk h0 h1 k_
  · intro pc ls st τ k i j t n hd hk ht h0 h1 hv k_
    exact gf_aald CX CY hd hk ht h0 h1 hv k_
  · intro pc ls st τ k i nz n hd hk hz hn k_
    exact gf_alen CX CY hd hk hz hn k_
  · intro pc ls st τ j hd h0 h1 k_
    exact gf_sald CX CY hd h0 h1 k_
  · intro pc ls st τ hd k_
    exact gf_slen CX CY hd k_
  · intro pc ls st τ idx hd hl k_
    exact gf_nums CX CY hd hl k_
  · intro pc ls st τ j hd h0 h1 k_
    exact gf_nald CX CY hd h0 h1 k_
  · intro pc ls st τ k0 k1 i0 i1 sp dp n n0 n1 idx hd hl hk0 hk1 h1 h2 h3 h4 h5 hst k_
    exact gf_copy CX CY hR1 hd hl hk0 hk1 h1 h2 h3 h4 h5 hst k_
  · intro pc ls rest as τ k idx M ci i hd hl hk hn hlen hcs hst k_
    exact gf_inv CX CY hR hC0 hCal hd hl hk hn hlen hcs hst k_
  · intro pc ls rest as τ idx M hd hl hlen hcs hst k_
    exact gf_ins CX CY hR hC0 hCal hd hl hlen hcs hst k_
theorem stpF_Gf (CX : Cx p s m args meth c cc own nL) (CY : CF ad cI cR D scr num A s) {d : Nat} (hR : d + 1 ≤ R.frames ∧ 40 * (d + 1) ≤ R.locals) {Cal : Nat → List Vl → Mm → (Option Vl → Mm → Prop) → Prop}
    (hCal : ∀ (M : Nat) (as : List Vl) (τ : Mm) (Post : Option Vl → Mm → Prop), Cal M as τ Post → csum as ≤ ml M → MOK M → Met l (my M) (wsM M) (rmd d) (Pcm ad cI cR D scr num A as τ) (Qcm ad cI cR D scr A Post) 0 0 A) {ret : Option FieldType} (hret : meth.sig.returnType = ret) {Post : Option Vl → Mm → Prop} :
    StpF cc own ret Cal Post (Gf ad cI cR D scr 0 0 p l e R s m args below meth c A (MQ below (Qcm ad cI cR D scr A Post) args s 0 0 A) nL) := by
  refine ⟨stpM_Gf CX CY hR ⟨Nat.zero_le _, Nat.zero_le _⟩ hCal, ?_, ?_, ?_, ?_⟩
  · intro pc ls τ a hr hd hp
    exact gf_iret CX (hret.trans hr) hd hp
  · intro pc ls τ a hr hd ha hp
    exact gf_zret CX (hret.trans hr) hd ha hp
  · intro pc ls τ hr hd hp
    exact gf_vret CX (hret.trans hr) hd hp
  · intro pc ls τ n q hr hd hp
    exact gf_aret CX (hret.trans hr) hd hp
end MSND
/-- what method M comes to, called with 'as' in memory τ, calls at most d deep -/
def WP : Nat → Nat → List Vl → Mm → (Option Vl → Mm → Prop) → Prop
  | 0, _, _, _, _ => False
  | d + 1, M, as, τ, Post => ∀ K : Nat → Lc → List Vl → Mm → Prop, StpF (mb M) (my M).cls (mr M) (WP d) Post K → K 0 (ent (ml M) as) [] τ
theorem Met.ofWF {l : Launch} {y : MethodName} {ws ws' : List Cond} {rm : Room} {Pc : Array Value → State → Prop} {Qc : Array Value → State → Outcome → State → Prop} {mc ms : Nat} {free : Addr → Prop} {cc : ByteArray} {maxL : Nat} {ret : Option FieldType}
    (hy : plainFor y = true) (hw : ws = Cond.code y cc maxL ret :: ws')
    (body : ∀ p e s m args below meth c s₁, BodyLoose p l y (headSpec ws rm) cc maxL ret e s m args below meth c s₁ → c.maxLocals = maxL → Pc args s →
      W p l e (headSpec ws rm).room s m args below meth c s.heap [] 0 0 (MQ below Qc args s mc ms free) (entryFrame m args maxL)) : Met l y ws rm Pc Qc mc ms free := by
  refine MetFree.of_bodySF (code := cc) (maxLocals := maxL) (ret := ret) hy ?_ ?_
  · intro args s m h hn
    obtain ⟨meth, c, h1, h2, h3, h4, h5, h6, -, -⟩ := Cond.code_spec hn (atoms_spec (ws := ws) h _ (by rw [hw]; exact List.mem_cons_self))
    exact ⟨meth, c, h1, h2, h3, h4, h5, h6⟩
  · intro p e s m args below meth c s₁ B hml hP _
    have hh0 : s₁.heap = s.heap := by rw [B.state]; rfl
    obtain ⟨t, a1, o, b1, b2, b3⟩ := body p e s m args below meth c s₁ B hml hP s₁ hh0 (Stand.of_body B)
    exact ⟨t, o, a1, b1, b2, ⟨b3.1, b3.2⟩⟩
theorem WP_met {ad : Nat → Int → Nat} {cI : ClassId} {cR : Nat → ClassId} {D : va_G} {scr num : Cell} {l : Launch} {A : Nat → Prop} : ∀ (d M : Nat) (as : List Vl) (τ : Mm) (Post : Option Vl → Mm → Prop), WP d M as τ Post → csum as ≤ ml M → MOK M → Met l (my M) (wsM M) (rmd d) (Pcm ad cI cR D scr num A as τ) (Qcm ad cI cR D scr A Post) 0 0 A
  | 0, _, _, _, _, h, _, _ => h.elim
  | d + 1, M, as, τ, Post, h, hcs, hmok => by
    refine Met.ofWF (cc := mb M) (maxL := ml M) (ret := mr M) hmok.2.2.2.2.2 rfl ?_
    intro p e s m args below meth c s₁ B hml hv
    obtain ⟨rfl, hrs, hWf, hCF, hN, hrg⟩ := hv
    have CX : Cx p s m (as.map (mv ad)).toArray meth c (mb M) (my M).cls (ml M) := ⟨B.exec, B.bytes, hml, findClass_of_methodNamed B.named, fun w hw => atoms_spec (ws := wsM M) B.pre w (List.mem_cons_of_mem _ hw), hN, B.notSynchronized⟩
    rw [lg_entry_eq]
    exact h (Gf ad cI cR D scr 0 0 p l e (headSpec (wsM M) (rmd (d + 1))).room s m (as.map (mv ad)).toArray below meth c A (MQ below (Qcm ad cI cR D scr A Post) (as.map (mv ad)).toArray s 0 0 A) (ml M)) (stpF_Gf CX hCF (d := d) ⟨Nat.le_refl _, Nat.le_refl _⟩ (fun M as τ Post h h1 h2 => WP_met d M as τ Post h h1 h2) B.returns) hrg (fun v hv => ent_rng hrs v hv) rS_nil s.heap [] _ hWf va_S.rf (ent_ok ad as hcs)
-- rows with the arithmetic's range told
section PR
variable {α : Type} {vd : α → Nat × Int → Prop} {rg : α → Prop} {cc : ByteArray} {own : String} {K : Nat → Lc → List Vl → α → Prop}
theorem r_iaddS (hK : StpC vd rg cc own K) {pc : Nat} {ls : Lc} {st : List Vl} {μ : α} {a b : Int} (hd : decode cc pc = .ok (.iadd, 1)) (h : inR (a + b)) (k : K (pc + 1) ls (vI (a + b) :: st) μ) : K pc ls (vI b :: vI a :: st) μ := r_iadd hK hd (by rw [wr_id h]; exact k)
theorem r_isubS (hK : StpC vd rg cc own K) {pc : Nat} {ls : Lc} {st : List Vl} {μ : α} {a b : Int} (hd : decode cc pc = .ok (.isub, 1)) (h : inR (a - b)) (k : K (pc + 1) ls (vI (a - b) :: st) μ) : K pc ls (vI b :: vI a :: st) μ := r_isub hK hd (by rw [wr_id h]; exact k)
theorem r_imulS (hK : StpC vd rg cc own K) {pc : Nat} {ls : Lc} {st : List Vl} {μ : α} {a b : Int} (hd : decode cc pc = .ok (.imul, 1)) (h : inR (a * b)) (k : K (pc + 1) ls (vI (a * b) :: st) μ) : K pc ls (vI b :: vI a :: st) μ := r_imul hK hd (by rw [wr_id h]; exact k)
theorem r_inegS (hK : StpC vd rg cc own K) {pc : Nat} {ls : Lc} {st : List Vl} {μ : α} {a : Int} (hd : decode cc pc = .ok (.ineg, 1)) (h : inR (-a)) (k : K (pc + 1) ls (vI (-a) :: st) μ) : K pc ls (vI a :: st) μ := r_ineg hK hd (by rw [wr_id h]; exact k)
theorem r_iincS (hK : StpC vd rg cc own K) {pc : Nat} {ls : Lc} {st : List Vl} {μ : α} {x : Nat} {n a : Int} (hd : decode cc pc = .ok (.iinc x n, 3)) (hl : ls[x]? = some (some (vI a))) (hi : lfree ls x = true) (h : inR (a + n)) (k : K (pc + 3) (ls.set x (some (vI (a + n)))) st μ) : K pc ls st μ := r_iinc hK hd hl hi (by rw [wr_id h]; exact k)
theorem r_iincE (hK : StpC vd rg cc own K) {pc : Nat} {ls : Lc} {st : List Vl} {μ : α} {x : Nat} {n a : Int} (v : Int) (hd : decode cc pc = .ok (.iinc x n, 3)) (hl : ls[x]? = some (some (vI a))) (hi : lfree ls x = true) (hv : a + n = v) (h : inR v) (k : K (pc + 3) (ls.set x (some (vI v))) st μ) : K pc ls st μ := by
  subst hv
  exact r_iincS hK hd hl hi h k
theorem r_iaddE (hK : StpC vd rg cc own K) {pc : Nat} {ls : Lc} {st : List Vl} {μ : α} {a b : Int} (v : Int) (hd : decode cc pc = .ok (.iadd, 1)) (hv : a + b = v) (h : inR v) (k : K (pc + 1) ls (vI v :: st) μ) : K pc ls (vI b :: vI a :: st) μ := by
  subst hv
  exact r_iaddS hK hd h k
theorem r_isubE (hK : StpC vd rg cc own K) {pc : Nat} {ls : Lc} {st : List Vl} {μ : α} {a b : Int} (v : Int) (hd : decode cc pc = .ok (.isub, 1)) (hv : a - b = v) (h : inR v) (k : K (pc + 1) ls (vI v :: st) μ) : K pc ls (vI b :: vI a :: st) μ := by
  subst hv
  exact r_isubS hK hd h k
theorem r_imulE (hK : StpC vd rg cc own K) {pc : Nat} {ls : Lc} {st : List Vl} {μ : α} {a b : Int} (v : Int) (hd : decode cc pc = .ok (.imul, 1)) (hv : a * b = v) (h : inR v) (k : K (pc + 1) ls (vI v :: st) μ) : K pc ls (vI b :: vI a :: st) μ := by
  subst hv
  exact r_imulS hK hd h k
theorem r_idivE (hK : StpC vd rg cc own K) {pc : Nat} {ls : Lc} {st : List Vl} {μ : α} {a b : Int} (v : Int) (hd : decode cc pc = .ok (.idiv, 1)) (hp : 0 < b) (hv : a.tdiv b = v) (k : K (pc + 1) ls (vI v :: st) μ) : K pc ls (vI b :: vI a :: st) μ := by
  subst hv
  exact r_idiv hK hd hp k
theorem r_iremE (hK : StpC vd rg cc own K) {pc : Nat} {ls : Lc} {st : List Vl} {μ : α} {a b : Int} (v : Int) (hd : decode cc pc = .ok (.irem, 1)) (hp : 0 < b) (hv : a.tmod b = v) (k : K (pc + 1) ls (vI v :: st) μ) : K pc ls (vI b :: vI a :: st) μ := by
  subst hv
  exact r_irem hK hd hp k
end PR
theorem post_of {P : Option Vl → Mm → Prop} {a b : Int} {τ : Mm} (h : a = b) (k : P (some (vI b)) τ) : P (some (vI a)) τ := h ▸ k
/-- nothing of the reference's has changed -/
def Sm30 (τ τ2 : Mm) : Prop := ∀ (c : Nat) (i j : Int), 30 ≤ c → τ2 c i j = τ c i j
theorem Sm30.rf {τ : Mm} : Sm30 τ τ := fun _ _ _ _ => rfl
theorem Sm30.mu {τ τ2 : Mm} {c : Nat} {i j v : Int} (h : Sm30 τ τ2) (hc : c < 30) : Sm30 τ (mu τ2 c i j v) := fun c' i' j' hc' => (mu_ne (fun q => by omega)).trans (h c' i' j' hc')
theorem vld_of {c : Nat} {i : Int} {n : Nat} (h : cnt c = n) (h0 : 0 ≤ i) (h1 : i < (n : Int)) : vld (c, i) := ⟨h0, by show i < (cnt c : Int); rw [h]; exact h1⟩
-- the memory while the objects are made: cells in the order of their making
abbrev Ce : Type := Nat × Nat × (Nat → Vl)
abbrev Al : Type := List Ce
/-- kind 77: an address as it is -/
def adA (b0 : Nat) : Nat → Int → Nat := fun c i => match c with
  | 77 => i.toNat
  | _ => b0 + i.toNat
def toI : Vl → Int
  | .inl a => a
  | _ => 0
def toR (b0 : Nat) : Vl → Option Nat
  | .inr (.inl (some q)) => some (b0 + q.2.toNat)
  | _ => none
def updC (f : Nat → Vl) (k : Nat) (v : Vl) : Nat → Vl := fun j => if j = k then v else f j
def cA (b0 : Nat) (cI : ClassId) (cR : Nat → ClassId) (x : Ce) : va_E := match x.1 with
  | 0 => .inr (x.2.1, (List.range (clN x.2.1)).map fun k => mv (adA b0) (x.2.2 k))
  | 1 => .inl (cI, x.2.1, .inl (fun j => i3 (toI (x.2.2 j))))
  | t => .inl (cR t, x.2.1, .inr (.inr (.inr (.inr (fun j => toR b0 (x.2.2 j))))))
def wsA (b0 : Nat) (cI : ClassId) (cR : Nat → ClassId) (μ : Al) : va_W := μ.zipIdx.map (fun q => (b0 + q.2, cA b0 cI cR q.1))
theorem wsA_get {b0 : Nat} {cI : ClassId} {cR : Nat → ClassId} {μ : Al} {k : Nat} : (wsA b0 cI cR μ)[k]? = (μ[k]?).map fun x => (b0 + k, cA b0 cI cR x) := by
  unfold wsA
  rw [List.getElem?_map, List.getElem?_zipIdx]
  cases μ[k]? with
  | none => rfl
  | some x => simp
theorem wsA_at {b0 : Nat} {cI : ClassId} {cR : Nat → ClassId} {μ : Al} {k : Nat} {x : Ce} (h : μ[k]? = some x) : (wsA b0 cI cR μ)[k]? = some (b0 + k, cA b0 cI cR x) := by
  rw [wsA_get, h]
  rfl
theorem wsA_set {b0 : Nat} {cI : ClassId} {cR : Nat → ClassId} {μ : Al} {k : Nat} {x y : Ce} (h : μ[k]? = some x) : (wsA b0 cI cR μ).set k (b0 + k, cA b0 cI cR y) = wsA b0 cI cR (μ.set k y) := by
  have hlt := (List.getElem?_eq_some_iff.mp h).1
  have hl2 : k < (wsA b0 cI cR μ).length := (List.getElem?_eq_some_iff.mp (wsA_at h)).1
  apply List.ext_getElem?
  intro n
  by_cases hn : k = n
  · subst hn
    rw [List.getElem?_set_self hl2, wsA_get, List.getElem?_set_self hlt]
    rfl
  · rw [List.getElem?_set_ne hn, wsA_get, wsA_get, List.getElem?_set_ne hn]
theorem wsA_app {b0 : Nat} {cI : ClassId} {cR : Nat → ClassId} {μ : Al} {x : Ce} : wsA b0 cI cR (μ ++ [x]) = wsA b0 cI cR μ ++ [(b0 + μ.length, cA b0 cI cR x)] := by
  unfold wsA
  rw [List.zipIdx_append, List.map_append]
  simp
theorem wsA_D {b0 : Nat} {cI : ClassId} {cR : Nat → ClassId} {μ : Al} {A : Nat → Prop} (hA : ∀ q, b0 ≤ q → A q) : va_D A (wsA b0 cI cR μ) := by
  have key : ∀ (k : Nat) (q : Nat × va_E), (wsA b0 cI cR μ)[k]? = some q → q.1 = b0 + k := fun k q h => by
    rw [wsA_get] at h
    cases hx : μ[k]? with
    | none => rw [hx] at h; cases h
    | some x => rw [hx] at h; cases h; rfl
  refine ⟨fun i j p q hi hj he => ?_, fun k q h => hA _ (by have := key k q h; omega)⟩
  have h1 := key i p hi
  have h2 := key j q hj
  omega
def szC (x : Ce) : Nat := if x.1 = 0 then clN x.2.1 else x.2.1
def szs (μ : Al) : Nat := (μ.map szC).sum
theorem szs_app {a b : Al} : szs (a ++ b) = szs a + szs b := by simp [szs]
theorem szs_set {μ : Al} {k : Nat} {x y : Ce} (h : μ[k]? = some x) (hs : szC y = szC x) : szs (μ.set k y) = szs μ := by
  unfold szs
  rw [List.map_set]
  congr 1
  have hlt := (List.getElem?_eq_some_iff.mp h).1
  apply List.ext_getElem?
  intro n
  by_cases hn : k = n
  · subst hn
    rw [List.getElem?_set_self (by simpa using hlt), List.getElem?_map, h, hs]
    rfl
  · rw [List.getElem?_set_ne hn]
def vdA (pre l : Al) : Nat × Int → Prop := fun q => q.1 = 77 ∨ (0 ≤ q.2 ∧ q.2 < ((pre.length + l.length : Nat) : Int))
def WA (b0 : Nat) (cI : ClassId) (cR : Nat → ClassId) (D : va_G) (pre l : Al) (H : Heap) : Prop := va_P D vwCl (wsA b0 cI cR (pre ++ l)) H ∧ H.size = b0 + (pre.length + l.length)
/-- what holds of the tables throughout -/
def CAt (cI : ClassId) (cR : Nat → ClassId) (D : va_G) (U : State) : Prop := va_K D vwCl (tysT cI cR) U ∧ va_AO RX2 U ∧ va_AO RX4 U ∧ va_AO RX3 U ∧ (Cond.arrayOver (.array .int)).before #[] U = true ∧ (∀ w ∈ nT, va_Nw w U)
/-- the default of a field -/
def dfl (ci k : Nat) : Vl := match ci, k with
  | 0, _ => vI 0
  | 1, 0 => vN | 1, 1 => vN | 1, 2 => vN | 1, 3 => vN
  | 1, _ => vI 0
  | 2, 7 => vN | 2, 8 => vN | 2, 9 => vN | 2, 16 => vN
  | 2, _ => vI 0
  | 3, _ => vI 0
  | 4, _ => vI 0
  | 5, _ => vN
  | 6, 8 => vI 0
  | _, _ => vN
theorem aoA_moved {u U : State} (hvm : u.vm.Alike U.vm) (h : (Cond.arrayOver (.array .int)).before #[] u = true) : (Cond.arrayOver (.array .int)).before #[] U = true := by
  have h1 : (Cond.arrayOver (.array .int)).before #[] (u.setVm U.vm) = true := (Cond.arrayOver_setVmC hvm (.array .int)).trans h
  exact h1
theorem CAt.moved {cI : ClassId} {cR : Nat → ClassId} {D : va_G} {u U : State} (h : CAt cI cR D u) (hW : u.WarmedH U.vm) : CAt cI cR D U :=
  ⟨h.1.moved hW.alike, h.2.1.moved hW.alike, h.2.2.1.moved hW.alike, h.2.2.2.1.moved hW.alike, aoA_moved hW.alike h.2.2.2.2.1, nT_moved h.2.2.2.2.2 hW⟩
-- the rules of making
theorem pre_get {pre l : Al} {k : Nat} : (pre ++ l)[pre.length + k]? = l[k]? := by
  rw [List.getElem?_append_right (Nat.le_add_right _ _), Nat.add_sub_cancel_left]
theorem pre_set {pre l : Al} {k : Nat} {y : Ce} : (pre ++ l).set (pre.length + k) y = pre ++ l.set k y := by
  rw [List.set_append_right _ _ (Nat.le_add_right _ _), Nat.add_sub_cancel_left]
theorem vdA_app {pre l l2 : Al} {q : Nat × Int} (h : vdA pre l q) : vdA pre (l ++ l2) q := h.imp id fun h => ⟨h.1, by have := h.2; simp only [List.length_append] at *; omega⟩
theorem vdA_set {pre l : Al} {k : Nat} {y : Ce} {q : Nat × Int} (h : vdA pre l q) : vdA pre (l.set k y) q := h.imp id fun h => ⟨h.1, by rw [List.length_set]; exact h.2⟩
theorem rV_mono {P P' : Nat × Int → Prop} (h : ∀ q, P q → P' q) {v : Vl} (hv : rV P v) : rV P' v := by
  rcases v with a | (_ | q) | a
  · exact hv
  · trivial
  · exact h q hv
  · exact hv
theorem rS_mono {P P' : Nat × Int → Prop} (h : ∀ q, P q → P' q) {st : List Vl} (hv : rS P st) : rS P' st := fun v hv2 => rV_mono h (hv v hv2)
def NLk (own : String) (idx ci : Nat) : Prop := ∃ (C : String) (T : u_T) (N : Nat) (ty : Nat → FieldType), vwCl[ci]? = some (C, T, N) ∧ N = clN ci ∧ Cond.classLink own idx C ∈ gT ∧ Cond.instantiable C N ∈ gT ∧ Cond.initialized C ∈ gT ∧ (∀ w ∈ u_ws C T N, w ∈ gT) ∧ (∀ k, k < N → parseFieldDescriptor (T k).2.2.1 = some (ty k)) ∧ ∀ j, j < N → ∀ ad : Nat → Int → Nat, defaultValue (ty j) = mv ad (dfl ci j)
def rmA (d mc ms : Nat) : Room := { frames := d, cells := mc, slots := ms, locals := 40 * d }
abbrev Af (b0 : Nat) : Nat → Prop := fun q => b0 ≤ q
def PcA (b0 : Nat) (cI : ClassId) (cR : Nat → ClassId) (D : va_G) (as : List Vl) (pre l : Al) : Array Value → State → Prop :=
  va_Pc (as.map (mv (adA b0))) (fun U => rS (vdA pre l) as ∧ WA b0 cI cR D pre l U.heap ∧ CAt cI cR D U)
def QcA (b0 : Nat) (cI : ClassId) (cR : Nat → ClassId) (D : va_G) (pre l : Al) (mc ms : Nat) (Post : Al → Prop) : Array Value → State → Outcome → State → Prop :=
  fun _ st oc t => (∃ l2 : Al, oc = .returned none ∧ Post l2 ∧ l2.length = l.length + mc ∧ szs l2 = szs l + ms ∧ WA b0 cI cR D pre l2 t.heap) ∧ va_F (Af b0) st t
theorem PcA_blind {b0 : Nat} {cI : ClassId} {cR : Nat → ClassId} {D : va_G} {as : List Vl} {pre l : Al} : FrameBlind (PcA b0 cI cR D as pre l) := by
  intro a U g mk h
  obtain ⟨h1, h2, h3, h4, h5, h6, h7, h8, h9⟩ := h
  have hr := Vm.Alike.refl U.vm
  exact ⟨h1, h2, h3, va_K.moved (u := U) (U := U.calling g mk a) hr h4, va_AO.moved (u := U) (U := U.calling g mk a) hr h5, va_AO.moved (u := U) (U := U.calling g mk a) hr h6, va_AO.moved (u := U) (U := U.calling g mk a) hr h7, aoA_moved (u := U) (U := U.calling g mk a) hr h8, nT_same h9 rfl⟩
section GAL
variable {b0 n0 z0 : Nat} {cI : ClassId} {cR : Nat → ClassId} {D : va_G} {pre : Al}
variable {p : Program} {l : Launch} {e : Env} {R : Room} {s : State} {m : MethodId} {args : Array Value} {below : List Frame} {meth : Method} {c : Code} {Q : State → Prop} {nL : Nat} {cc : ByteArray} {own : String}
abbrev Ga (b0 n0 z0 : Nat) (cI : ClassId) (cR : Nat → ClassId) (D : va_G) (pre : Al) (p : Program) (l : Launch) (e : Env) (R : Room) (s : State) (m : MethodId) (args : Array Value) (below : List Frame) (meth : Method) (c : Code) (Q : State → Prop) (nL : Nat) : Nat → Lc → List Vl → Al → Prop :=
  Gm (adA b0) (vdA pre) (WA b0 cI cR D pre) (fun μ => μ.length - n0) (fun μ => szs μ - z0) (fun μ => n0 ≤ μ.length ∧ z0 ≤ szs μ) p l e R s m args below meth c (Af b0) Q nL
/-- one cell more -/
theorem ga_push {H H1 : Heap} {locs : List Loc} {μ : Al} {x : Ce} {pc : Nat} {ls : Lc} {lsA : Array Slot} {st : List Vl} {q : Int} {cs ss : Nat}
    (g1 : n0 ≤ μ.length ∧ z0 ≤ szs μ) (g2 : ∀ v : Vl, some v ∈ ls → rV (vdA pre μ) v) (g3 : rS (vdA pre μ) st) (g4 : WA b0 cI cR D pre μ H) (g5 : va_S (Af b0) s.heap H locs) (g6 : lOK (adA b0) nL ls lsA)
    (hq : ((pre.length + μ.length : Nat) : Int) = q) (z1 : H1.size = H.size + 1) (o1 : ∀ a : Nat, a < H.size → H1[a]? = H[a]?) (hx : va_at D vwCl (H.size, cA b0 cI cR x) H1) (hc : cs = μ.length - n0 + 1) (hs : ss = szs μ - z0 + szC x)
    (kk : Ga b0 n0 z0 cI cR D pre p l e R s m args below meth c Q nL pc ls (vR 0 q :: st) (μ ++ [x])) : W p l e R s m args below meth c H1 locs cs ss Q (F0 m pc lsA (.ref H.size :: st.map (mv (adA b0)))) := by
  have hl : (μ ++ [x]).length = μ.length + 1 := by simp
  have hz : szs (μ ++ [x]) = szs μ + szC x := by simp [szs]
  have hHs := g4.2
  have k' := kk ⟨by omega, by omega⟩ (fun v hv => rV_mono (fun q h => vdA_app h) (g2 v hv)) (rS_cons.mpr ⟨(show vdA pre (μ ++ [x]) (0, q) from Or.inr ⟨by show 0 ≤ q; omega, by show q < _; rw [hl]; omega⟩), rS_mono (fun q h => vdA_app h) g3⟩) H1 locs lsA ⟨by
      rw [← List.append_assoc, wsA_app]
      refine va_P.app (g4.1.kept fun k y hy => o1 _ (g4.1 k y hy).lt) (fun k y hy => ?_)
      have hk : k < 1 := (List.getElem?_eq_some_iff.mp hy).1
      rw [show k = 0 by omega] at hy
      cases hy
      rw [List.length_append, ← g4.2]
      exact hx, by rw [z1, g4.2, hl]; omega⟩ ⟨Nat.le_trans g5.1 (by omega), fun a h1 h2 => (o1 a (Nat.lt_of_lt_of_le h1 g5.1)).trans (g5.2.1 a h1 h2), g5.2.2⟩ g6
  have e1 : (μ ++ [x]).length - n0 = cs := by rw [hl, hc]; omega
  have e2 : szs (μ ++ [x]) - z0 = ss := by rw [hz, hs]; omega
  have e3 : List.map (mv (adA b0)) (vR 0 q :: st) = Value.ref H.size :: st.map (mv (adA b0)) := by
    rw [List.map_cons]
    exact congrArg (fun z : Value => z :: st.map (mv (adA b0))) (congrArg Value.ref (by omega : b0 + q.toNat = H.size))
  rw [e3] at k'
  rw [← e1, ← e2]
  exact k'
theorem ga_new (CX : Cx p s m args meth c cc own nL) (CT : CAt cI cR D s) {pc : Nat} {ls : Lc} {st : List Vl} {μ : Al} {idx ci : Nat} {q : Int}
    (hd : decode cc pc = .ok (.new idx, 3)) (hl : NLk own idx ci) (hc : μ.length + 1 ≤ n0 + R.cells) (hs : szs μ + clN ci ≤ z0 + R.slots) (hq : ((pre.length + μ.length : Nat) : Int) = q)
    (kk : Ga b0 n0 z0 cI cR D pre p l e R s m args below meth c Q nL (pc + 3) ls (vR 0 q :: st) (μ ++ [(0, ci, dfl ci)])) : Ga b0 n0 z0 cI cR D pre p l e R s m args below meth c Q nL pc ls st μ := by
  obtain ⟨hx, hb, hml, hown, hts, hnest, hlk⟩ := CX
  obtain ⟨C, T, N, ty, hci, hN, hcl, hinst, hini, hin, hty, hdf⟩ := hl
  intro g1 g2 g3 H locs lsA g4 g5 g6
  have hKn := CT.1.1 ci _ hci
  refine W.newcK hx hb hown (hts _ hcl) (hts _ hinst) (hts _ hini) rfl hd (by show μ.length - n0 + 1 ≤ _; omega) (by show szs μ - z0 + N ≤ _; omega) hKn.2.1 rfl fun H1 kC hkC e1 z1 o1 => ?_
  refine ga_push g1 g2 g3 g4 g5 g6 hq z1 o1 ?_ rfl (by rw [hN]; rfl) kk
  exact ⟨_, hci, (u_born ty hts hin hKn hkC e1 hty).to fun j hj => by
    rw [hdf j hj (adA b0)]
    show _ = ((List.range (clN ci)).map fun k => mv (adA b0) (dfl ci k)).getD j .null
    rw [List.getD_eq_getElem?_getD, List.getElem?_map, List.getElem?_range (by rw [← hN]; exact hj)]
    rfl⟩
theorem ga_newa (CX : Cx p s m args meth c cc own nL) (CT : CAt cI cR D s) {pc : Nat} {ls : Lc} {st : List Vl} {μ : Al} {n q : Int} {nn : Nat}
    (hd : decode cc pc = .ok (.newarray .int, 2)) (hw : Cond.arrayClass .int ∈ gT) (hn : (nn : Int) = n) (hn2 : nn * 4 ≤ 536870912) (hc : μ.length + 1 ≤ n0 + R.cells) (hs : szs μ + nn ≤ z0 + R.slots) (hq : ((pre.length + μ.length : Nat) : Int) = q)
    (kk : Ga b0 n0 z0 cI cR D pre p l e R s m args below meth c Q nL (pc + 2) ls (vR 0 q :: st) (μ ++ [(1, nn, fun _ => vI 0)])) : Ga b0 n0 z0 cI cR D pre p l e R s m args below meth c Q nL pc ls (vI n :: st) μ := by
  obtain ⟨hx, hb, hml, hown, hts, hnest, hlk⟩ := CX
  subst hn
  intro g1 g2 g3 H locs lsA g4 g5 g6
  obtain ⟨q1, g3⟩ := rS_cons.mp g3
  have hnn : (i3 (nn : Int)).toNatClampNeg = nn := by rw [i3_nat q1]; omega
  refine va_newaK (atype := .int) hx hb (hts _ hw) rfl hd rfl (fun h => by have h2 := (i3_lt q1 (inR_lit rfl : inR 0)).mp h; omega) hnn hn2 (by show μ.length - n0 + 1 ≤ _; omega) (by show szs μ - z0 + nn ≤ _; omega) rfl fun H1 cA1 e1 z1 o1 hAr hNm => ?_
  have hcI : cA1 = cI := Option.some.inj (hNm.symm.trans (CT.1.2 0 _ rfl).2)
  subst hcI
  exact ga_push (x := (1, nn, fun _ => vI 0)) g1 g2 g3 g4 g5 g6 hq z1 o1 (show va_at D vwCl (H.size, cA b0 cA1 cR (1, nn, fun _ => vI 0)) H1 from e1) rfl rfl kk
theorem ga_anew (CX : Cx p s m args meth c cc own nL) (CT : CAt cI cR D s) {pc : Nat} {ls : Lc} {st : List Vl} {μ : Al} {n q : Int} {nn idx t : Nat} {C : String}
    (hd : decode cc pc = .ok (.anewarray idx, 3)) (hw : Cond.classLink own idx C ∈ gT) (hao : va_AO C s) (ht : (tysT cI cR)[t + 1]? = some (cR (t + 2), .object C)) (hn : (nn : Int) = n) (hn2 : nn * 4 ≤ 536870912) (hc : μ.length + 1 ≤ n0 + R.cells) (hs : szs μ + nn ≤ z0 + R.slots) (hq : ((pre.length + μ.length : Nat) : Int) = q)
    (kk : Ga b0 n0 z0 cI cR D pre p l e R s m args below meth c Q nL (pc + 3) ls (vR 0 q :: st) (μ ++ [(t + 2, nn, fun _ => vN)])) : Ga b0 n0 z0 cI cR D pre p l e R s m args below meth c Q nL pc ls (vI n :: st) μ := by
  obtain ⟨hx, hb, hml, hown, hts, hnest, hlk⟩ := CX
  subst hn
  intro g1 g2 g3 H locs lsA g4 g5 g6
  obtain ⟨q1, g3⟩ := rS_cons.mp g3
  have hnn : (i3 (nn : Int)).toNatClampNeg = nn := by rw [i3_nat q1]; omega
  refine W.anew hx hb hown (hts _ hw) (va_AO.use hao) rfl hd rfl (fun h => by have h2 := (i3_lt q1 (inR_lit rfl : inR 0)).mp h; omega) (by rw [hnn]; exact hn2) (by show μ.length - n0 + 1 ≤ _; omega) (by rw [hnn]; show szs μ - z0 + nn ≤ _; omega) fun cA1 kA comp f1 f2 f3 f4 => ?_
  obtain ⟨kA2, comp2, r1, r2, r3, r4⟩ := (CT.1.2 (t + 1) _ ht).2
  have hcR : cA1 = cR (t + 2) := Option.some.inj (f1.symm.trans r4)
  subst hcR
  rw [hnn]
  refine ga_push g1 g2 g3 g4 g5 g6 hq (by simp) (fun a ha => by rw [Array.getElem?_push, if_neg (Nat.ne_of_lt ha)]) ?_ rfl rfl kk
  show (H.push _)[H.size]? = some (vp_cell (cR (t + 2)) (nn, _))
  rw [vp_cell_q, Array.getElem?_push_size]
  exact congrArg some (arrV_new _ _ _)
theorem ga_getf (CX : Cx p s m args meth c cc own nL) (CT : CAt cI cR D s) {pc : Nat} {ls : Lc} {st : List Vl} {μ : Al} {idx ci j k : Nat} {ty : FieldType} {q : Int} {f : Nat → Vl} {v : Vl}
    (hd : decode cc pc = .ok (.getfield idx, 3)) (hf : FLk own idx ci j ty) (hk : μ[k]? = some (0, ci, f)) (hq : ((pre.length + k : Nat) : Int) = q) (hv : f j = v) (hr : rV (vdA pre μ) v)
    (kk : Ga b0 n0 z0 cI cR D pre p l e R s m args below meth c Q nL (pc + 3) ls (v :: st) μ) : Ga b0 n0 z0 cI cR D pre p l e R s m args below meth c Q nL pc ls (vR 0 q :: st) μ := by
  subst hq; subst hv
  obtain ⟨hx, hb, hml, hown, hts, hnest, hlk⟩ := CX
  obtain ⟨C, T, N, ty0, hci, hN, hj, hin, hty, hnm, hC, hty1, hlink⟩ := hf
  intro g1 g2 g3 H locs lsA g4 g5 g6
  obtain ⟨q1, g3⟩ := rS_cons.mp g3
  have he := wsA_at (b0 := b0) (cI := cI) (cR := cR) ((pre_get (pre := pre)).trans hk)
  have hv : ((List.range (clN ci)).map fun i => mv (adA b0) (f i))[j]? = some (mv (adA b0) (f j)) := by
    rw [List.getElem?_map, List.getElem?_range (by rw [← hN]; exact hj)]
    rfl
  have k' := kk g1 g2 (rS_cons.mpr ⟨hr, g3⟩) H locs lsA g4 g5 g6
  rw [List.map_cons] at k'
  have hst : List.map (mv (adA b0)) (vR 0 ((pre.length + k : Nat) : Int) :: st) = Value.ref (b0 + (pre.length + k)) :: st.map (mv (adA b0)) := rfl
  rw [hst]
  rcases hlink with hl | ⟨host, hl⟩
  · exact va_get hx hb hts hin hown CT.1 g4.1 (pre.length + k) he hci j hj (hts _ hl) (fun x h => by rw [hC] at h; exact h) hv hd k'
  · exact va_getN hx hb hts hin hown CT.1 g4.1 (pre.length + k) he hci j hj (va_Nw.use rfl (hnest _ hl)) (fun x h => by rw [hC] at h; exact h) hv hd k'
theorem cA_upd {ci j : Nat} {f : Nat → Vl} {v : Vl} (hj : j < clN ci) : (Sum.inr (ci, ((List.range (clN ci)).map fun i => mv (adA b0) (f i)).set j (mv (adA b0) v)) : va_E) = cA b0 cI cR (0, ci, updC f j v) := by
  show _ = (Sum.inr (ci, (List.range (clN ci)).map fun i => mv (adA b0) (updC f j v i)) : va_E)
  rw [map_set_at (f' := fun i => mv (adA b0) (updC f j v i)) hj (by simp [updC]) (fun i hi => by simp [updC, hi])]
theorem ga_store {H1 : Heap} {locs1 : List Loc} {μ : Al} {k : Nat} {x y : Ce} {pc : Nat} {ls : Lc} {lsA : Array Slot} {st : List Vl} {H : Heap}
    (g1 : n0 ≤ μ.length ∧ z0 ≤ szs μ) (g2 : ∀ v : Vl, some v ∈ ls → rV (vdA pre μ) v) (g3 : rS (vdA pre μ) st) (g4 : WA b0 cI cR D pre μ H) (g6 : lOK (adA b0) nL ls lsA) (hk : μ[k]? = some x) (hsz : szC y = szC x)
    (hP1 : va_P D vwCl ((wsA b0 cI cR (pre ++ μ)).set (pre.length + k) (b0 + (pre.length + k), cA b0 cI cR y)) H1) (hz : H1.size = H.size) (hS1 : va_S (Af b0) s.heap H1 locs1)
    (kk : Ga b0 n0 z0 cI cR D pre p l e R s m args below meth c Q nL pc ls st (μ.set k y)) : W p l e R s m args below meth c H1 locs1 (μ.length - n0) (szs μ - z0) Q (F0 m pc lsA (st.map (mv (adA b0)))) := by
  have hl : (μ.set k y).length = μ.length := List.length_set
  have hz2 := szs_set hk hsz
  have k' := kk ⟨by rw [hl]; exact g1.1, by rw [hz2]; exact g1.2⟩ (fun v hv => rV_mono (fun q h => vdA_set h) (g2 v hv)) (rS_mono (fun q h => vdA_set h) g3) H1 locs1 lsA ⟨by
      rw [wsA_set ((pre_get (pre := pre)).trans hk), pre_set] at hP1
      exact hP1, by rw [hz, g4.2, hl]⟩ hS1 g6
  rw [← hl, ← hz2]
  exact k'
end GAL
-- the rules of making, continued
def FLf (own : String) (idx ci k : Nat) (ty : FieldType) : Prop := FLk own idx ci k ty ∧ ∀ (C : String) (T : u_T) (N : Nat), vwCl[ci]? = some (C, T, N) → (T k).2.2.2 = true ∧ (T k).1 = own
section GA2
variable {b0 n0 z0 : Nat} {cI : ClassId} {cR : Nat → ClassId} {D : va_G} {pre : Al}
variable {p : Program} {l : Launch} {e : Env} {R : Room} {s : State} {m : MethodId} {args : Array Value} {below : List Frame} {meth : Method} {c : Code} {Q : State → Prop} {nL : Nat} {cc : ByteArray} {own : String}
theorem ga_put (CX : Cx p s m args meth c cc own nL) (CT : CAt cI cR D s) {pc : Nat} {ls : Lc} {st : List Vl} {μ : Al} {idx ci j k : Nat} {ty : FieldType} {q : Int} {f : Nat → Vl} {v : Vl}
    (hd : decode cc pc = .ok (.putfield idx, 3)) (hf : FLk own idx ci j ty) (hfin : (∀ (C : String) (T : u_T) (N : Nat), vwCl[ci]? = some (C, T, N) → (T j).2.2.2 = false) ∨ (meth.name = "<init>" ∧ ∀ (C : String) (T : u_T) (N : Nat), vwCl[ci]? = some (C, T, N) → (T j).2.2.2 = true ∧ (T j).1 = own))
    (hk : μ[k]? = some (0, ci, f)) (hq : ((pre.length + k : Nat) : Int) = q) (hn : narrow ty (mv (adA b0) v) = mv (adA b0) v) (hfit : fits ty (mv (adA b0) v) = true) (hlk2 : ∀ (C : String) (T : u_T) (N : Nat), vwCl[ci]? = some (C, T, N) → Cond.fieldLink own idx C (T j).2.1 (T j).2.2.1 ∈ gT)
    (kk : Ga b0 n0 z0 cI cR D pre p l e R s m args below meth c Q nL (pc + 3) ls st (μ.set k (0, ci, updC f j v))) : Ga b0 n0 z0 cI cR D pre p l e R s m args below meth c Q nL pc ls (v :: vR 0 q :: st) μ := by
  subst hq
  obtain ⟨hx, hb, hml, hown, hts, hnest, hlk⟩ := CX
  obtain ⟨C, T, N, ty0, hci, hN, hj, hin, hty, hnm, hC, hty1, -⟩ := hf
  have hlink := hts _ (hlk2 C T N hci)
  intro g1 g2 g3 H locs lsA g4 g5 g6
  obtain ⟨q0, g3⟩ := rS_cons.mp g3
  obtain ⟨q1, g3⟩ := rS_cons.mp g3
  have he := wsA_at (b0 := b0) (cI := cI) (cR := cR) ((pre_get (pre := pre)).trans hk)
  have hD := wsA_D (b0 := b0) (cI := cI) (cR := cR) (μ := pre ++ μ) (A := Af b0) (fun q h => h)
  have hjc : j < clN ci := by rw [← hN]; exact hj
  have hl : j < ((List.range (clN ci)).map fun i => mv (adA b0) (f i)).length := by rw [List.length_map, List.length_range]; exact hjc
  have hap := va_apart (own := own) hts hin ty0 hty hnm CT.1 hci
  obtain ⟨r, h1, cell, w1, w2, w3, w4⟩ := g4.1 _ _ he
  have hr : r = (C, T, N) := Option.some.inj (h1.symm.trans hci)
  subst hr
  obtain ⟨hS, hfc, kC, hkC, hkind⟩ := CT.1.1 ci _ hci
  obtain ⟨cf, kf, fi, fl, hi, hsl⟩ := hS j hj
  have hst := (u_facts hfc hkC (u_lays hts hin hj) hi).1
  have hd1 : parseFieldDescriptor (T j).2.2.1 = some ty := (hty j hj).trans (by rw [hty1])
  have hstk : List.map (mv (adA b0)) (v :: vR 0 ((pre.length + k : Nat) : Int) :: st) = mv (adA b0) v :: Value.ref (b0 + (pre.length + k)) :: st.map (mv (adA b0)) := rfl
  rw [hstk]
  have fin : ∀ (H1 : Heap), H1[b0 + (pre.length + k)]? = some (cell.setSlot fl.slot (mv (adA b0) v)) → H1.size = H.size → (∀ q : Nat, q ≠ b0 + (pre.length + k) → H1[q]? = H[q]?) → W p l e R s m args below meth c H1 (locs ++ [⟨b0 + (pre.length + k), fl.slot⟩]) (μ.length - n0) (szs μ - z0) Q (F0 m (pc + 3) lsA (st.map (mv (adA b0)))) := by
    intro H1 e1 e2 e3
    rw [hsl] at e1 ⊢
    have hP1 := g4.1.set hD he (H1 := H1) (e := .inr (ci, ((List.range (clN ci)).map fun i => mv (adA b0) (f i)).set j (mv (adA b0) v))) ⟨_, hci, t_OB.to (V := updV (vp_V ((List.range (clN ci)).map fun i => mv (adA b0) (f i))) j (mv (adA b0) v)) ⟨_, e1, w2, w3, t_set w4 hap hj (mv (adA b0) v)⟩ (fun i _ => vp_updV_set hl (mv (adA b0) v) i)⟩ e3
    rw [cA_upd (cI := cI) (cR := cR) hjc] at hP1
    exact ga_store (y := (0, ci, updC f j v)) g1 g2 g3 g4 g6 hk rfl hP1 e2 (g5.put e2 e3 (Nat.le_add_right _ _)) kk
  have hlay := hts _ (hin _ (u_in_lay hj))
  rcases hfin with hfin | ⟨hin2, hfin⟩
  · have hfin := hfin C T N hci
    unfold u_lay at hlay
    rw [if_neg (by rw [hfin]; decide)] at hlay
    have h6 := u_store hfc hkC hkind hlay hi hd1 hn hfit
    exact W.putK hx hb (f := fl) ⟨hown, hlink, ⟨_, _, _, by rw [hC] at hi; exact hi⟩, hst⟩ (by rw [w2]; exact h6) w1 w3 (by rw [hsl]; exact k2_hasslot (w4 j hj)) rfl rfl hd fin
  · obtain ⟨hfin, hdecl⟩ := hfin C T N hci
    unfold u_lay at hlay
    rw [if_pos hfin] at hlay
    have hcf : m.cls = cf := by
      obtain ⟨_, _, c', _, _, _, -, -, hf', -, -, -, hown2, -⟩ := Cond.laysFinal_spec hlay
      have e1 : c' = cf := by have := hi.symm.trans hf'; simp at this; exact this.1.symm
      rw [hdecl] at hown2
      rw [← e1]; exact Option.some.inj (hown.symm.trans hown2)
    have h6 := u_fits hfc hkC hkind (Or.inr hlay) hi hd1 hn hfit
    exact W.putFinK hx hb hown hlink (by rw [hC] at hi; exact hi) hst hcf hin2 (by rw [w2]; exact h6) w1 w3 (by rw [hsl]; exact k2_hasslot (w4 j hj)) rfl rfl hd fin
theorem ga_iast (CX : Cx p s m args meth c cc own nL) (CT : CAt cI cR D s) {pc : Nat} {ls : Lc} {st : List Vl} {μ : Al} {k n : Nat} {q i a : Int} {f : Nat → Vl}
    (hd : decode cc pc = .ok (.iastore, 1)) (hk : μ[k]? = some (1, n, f)) (hq : ((pre.length + k : Nat) : Int) = q) (h0 : 0 ≤ i) (h1 : i < (n : Int))
    (kk : Ga b0 n0 z0 cI cR D pre p l e R s m args below meth c Q nL (pc + 1) ls st (μ.set k (1, n, updC f i.toNat (vI a)))) : Ga b0 n0 z0 cI cR D pre p l e R s m args below meth c Q nL pc ls (vI a :: vI i :: vR 0 q :: st) μ := by
  subst hq
  obtain ⟨hx, hb, hml, hown, hts, hnest, hlk⟩ := CX
  intro g1 g2 g3 H locs lsA g4 g5 g6
  obtain ⟨qa, g3⟩ := rS_cons.mp g3
  obtain ⟨qi, g3⟩ := rS_cons.mp g3
  obtain ⟨q1, g3⟩ := rS_cons.mp g3
  have he := wsA_at (b0 := b0) (cI := cI) (cR := cR) ((pre_get (pre := pre)).trans hk)
  have hD := wsA_D (b0 := b0) (cI := cI) (cR := cR) (μ := pre ++ μ) (A := Af b0) (fun q h => h)
  have hin := gf_in h0 h1 qi
  have hstk : List.map (mv (adA b0)) (vI a :: vI i :: vR 0 ((pre.length + k : Nat) : Int) :: st) = Value.int (i3 a) :: Value.int (i3 i) :: Value.ref (b0 + (pre.length + k)) :: st.map (mv (adA b0)) := rfl
  rw [hstk]
  refine W.iast hx hb (g4.1 _ _ he) ((CT.1.2 0 _ rfl).1 n (fun j => .int (i3 (toI (f j))))) (fun q => by cases q) (by show ¬ (_ ∨ (arrV _ _ _).slots.size ≤ _); rw [arrV_size]; exact hin) rfl rfl hd fun H1 e1 z oq => ?_
  refine ga_store (y := (1, n, updC f i.toNat (vI a))) g1 g2 g3 g4 g6 hk rfl (g4.1.set hD he ?_ oq) z (g5.put z oq (Nat.le_add_right _ _)) kk
  show H1[b0 + (pre.length + k)]? = some (vp_cell cI (n, .inl (fun j => i3 (toI (updC f i.toNat (vI a) j)))))
  rw [e1]
  show some ((vp_cell cI (n, .inl (fun j => i3 (toI (f j))))).setSlot _ _) = _
  rw [vp_cell_i, vp_cell_i, arrV_store]
  congr 2
  funext j
  rw [i3_nat qi]
  by_cases hj : j = i.toNat
  · subst hj
    simp [updV, updC, toI]
  · simp [updV, updC, hj]
theorem ga_alen (CX : Cx p s m args meth c cc own nL) (CT : CAt cI cR D s) {pc : Nat} {ls : Lc} {st : List Vl} {μ : Al} {k n : Nat} {q nz : Int} {f : Nat → Vl}
    (hd : decode cc pc = .ok (.arraylength, 1)) (hk : μ[k]? = some (1, n, f)) (hq : ((pre.length + k : Nat) : Int) = q) (hz : (n : Int) = nz) (hn : n < 2147483648)
    (kk : Ga b0 n0 z0 cI cR D pre p l e R s m args below meth c Q nL (pc + 1) ls (vI nz :: st) μ) : Ga b0 n0 z0 cI cR D pre p l e R s m args below meth c Q nL pc ls (vR 0 q :: st) μ := by
  subst hq; subst hz
  obtain ⟨hx, hb, hml, hown, hts, hnest, hlk⟩ := CX
  intro g1 g2 g3 H locs lsA g4 g5 g6
  obtain ⟨q1, g3⟩ := rS_cons.mp g3
  have he := wsA_at (b0 := b0) (cI := cI) (cR := cR) ((pre_get (pre := pre)).trans hk)
  have k' := kk g1 g2 (rS_cons.mpr ⟨⟨by omega, by omega⟩, g3⟩) H locs lsA g4 g5 g6
  rw [List.map_cons] at k'
  have hstk : List.map (mv (adA b0)) (vR 0 ((pre.length + k : Nat) : Int) :: st) = Value.ref (b0 + (pre.length + k)) :: st.map (mv (adA b0)) := rfl
  rw [hstk]
  exact va_alen hx hb CT.1 g4.1 (pre.length + k) 0 he rfl (v := i3 n) rfl hd k'
theorem ga_aast (CX : Cx p s m args meth c cc own nL) (CT : CAt cI cR D s) {pc : Nat} {ls : Lc} {st : List Vl} {μ : Al} {k n t kv ci : Nat} {q i qv : Int} {f fv : Nat → Vl} {r : vw_C}
    (hd : decode cc pc = .ok (.aastore, 1)) (hk : μ[k]? = some (t + 2, n, f)) (hq : ((pre.length + k : Nat) : Int) = q) (h0 : 0 ≤ i) (h1 : i < (n : Int)) (hkv : μ[kv]? = some (0, ci, fv)) (hqv : ((pre.length + kv : Nat) : Int) = qv) (ht : (tysT cI cR)[t + 1]? = some (cR (t + 2), .object r.1)) (hci : vwCl[ci]? = some r)
    (kk : Ga b0 n0 z0 cI cR D pre p l e R s m args below meth c Q nL (pc + 1) ls st (μ.set k (t + 2, n, updC f i.toNat (vR 0 qv)))) : Ga b0 n0 z0 cI cR D pre p l e R s m args below meth c Q nL pc ls (vR 0 qv :: vI i :: vR 0 q :: st) μ := by
  subst hq; subst hqv
  obtain ⟨hx, hb, hml, hown, hts, hnest, hlk⟩ := CX
  intro g1 g2 g3 H locs lsA g4 g5 g6
  obtain ⟨qa, g3⟩ := rS_cons.mp g3
  obtain ⟨qi, g3⟩ := rS_cons.mp g3
  obtain ⟨q1, g3⟩ := rS_cons.mp g3
  have he := wsA_at (b0 := b0) (cI := cI) (cR := cR) ((pre_get (pre := pre)).trans hk)
  have hev := wsA_at (b0 := b0) (cI := cI) (cR := cR) ((pre_get (pre := pre)).trans hkv)
  have hD := wsA_D (b0 := b0) (cI := cI) (cR := cR) (μ := pre ++ μ) (A := Af b0) (fun q h => h)
  have hin := gf_in h0 h1 qi
  have hlt : (i3 i).toNatClampNeg < n := Nat.not_le.mp fun q => hin (Or.inr q)
  have hstk : List.map (mv (adA b0)) (vR 0 ((pre.length + kv : Nat) : Int) :: vI i :: vR 0 ((pre.length + k : Nat) : Int) :: st) = Value.ref (b0 + (pre.length + kv)) :: Value.int (i3 i) :: Value.ref (b0 + (pre.length + k)) :: st.map (mv (adA b0)) := rfl
  rw [hstk]
  obtain ⟨r', hr', cellV, w1, w2, w3, -⟩ := g4.1 _ _ hev
  have hcls := (CT.1.1 ci r hci).2
  obtain ⟨kA, comp, k1, k2, k3, -⟩ := (CT.1.2 (t + 1) _ ht).2
  have hcomp : comp = D.1 ci := Option.some.inj (k3.symm.trans hcls.1)
  subst hcomp
  obtain ⟨kC, hkC, -⟩ := hcls.2
  refine W.aast hx hb (g4.1 _ _ he) (fun q h => by cases h) (fun h => by cases h) k1 k2 rfl hkC ⟨fun q => hin (Or.inl q), by show _ < (arrV _ _ _).slots.size; rw [arrV_size]; exact hlt⟩ w1 (fun q h => by rw [w3] at h; cases h) (by rw [w2]; exact hkC) (by rw [w2]; exact va_assign hcls) rfl rfl hd fun H1 e1 z oq => ?_
  refine ga_store (y := (t + 2, n, updC f i.toNat (vR 0 ((pre.length + kv : Nat) : Int)))) g1 g2 g3 g4 g6 hk rfl (g4.1.set hD he ?_ oq) z (g5.put z oq (Nat.le_add_right _ _)) kk
  show H1[b0 + (pre.length + k)]? = some (vp_cell (cR (t + 2)) (n, .inr (.inr (.inr (.inr (fun j => toR b0 (updC f i.toNat (vR 0 ((pre.length + kv : Nat) : Int)) j)))))))
  rw [e1]
  show some ((vp_cell (cR (t + 2)) (n, .inr (.inr (.inr (.inr (fun j => toR b0 (f j))))))).setSlot _ _) = _
  rw [vp_cell_q, vp_cell_q, arrV_store]
  congr 2
  funext j
  rw [i3_nat qi]
  by_cases hj : j = i.toNat
  · subst hj
    simp [updV, updC, toR, va_rf]
    omega
  · simp [updV, updC, hj]
theorem ga_obj (CX : Cx p s m args meth c cc own nL) {pc : Nat} {ls : Lc} {st : List Vl} {μ : Al} {idx : Nat} {q : Int} (hR : 1 ≤ R.frames ∧ 40 ≤ R.locals)
    (hd : decode cc pc = .ok (.invokespecial idx, 3)) (hl : Cond.methodLink own idx Lib.objectInit ∈ gT ∧ Cond.instanceMethod Lib.objectInit ∈ gT ∧ Cond.code Lib.objectInit ⟨#[0xb1]⟩ 1 none ∈ gT) (hst : csum st ≤ 8)
    (kk : Ga b0 n0 z0 cI cR D pre p l e R s m args below meth c Q nL (pc + 3) ls st μ) : Ga b0 n0 z0 cI cR D pre p l e R s m args below meth c Q nL pc ls (vR 0 q :: st) μ := by
  obtain ⟨hx, hb, hml, hown, hts, hnest, hlk⟩ := CX
  intro g1 g2 g3 H locs lsA g4 g5 g6
  obtain ⟨q1, g3⟩ := rS_cons.mp g3
  have hms := mv_sum (adA b0) st
  exact W.objInit hx hb hown (hts _ hl.1) (hts _ hl.2.1) (hts _ hl.2.2) rfl (g6.2.1.trans hml.symm) rfl hd hR.1 (by show 2 * 0 + _ + 12 ≤ _; rw [hms]; omega) (kk g1 g2 g3 H locs lsA g4 g5 g6)
end GA2
-- calls while the objects are made; what a constructor comes to
theorem vr_outer (c : ClassId) (N h0 : Nat) : ∀ i : Nat, Jvm.Free.Multi.outerC c N h0 i = arrV c N (fun j => va_rf (if j < i then some (h0 + 1 + j) else none))
  | 0 => by
    show ({ cls := c, slots := Array.replicate N .null, vm := .none } : Cell) = _
    rw [arrV_new]
    refine congrArg (arrV c N) (funext fun j => ?_)
    simp [va_rf]
  | i + 1 => by
    show (Jvm.Free.Multi.outerC c N h0 i).setSlot i (.ref (h0 + 1 + i)) = _
    rw [vr_outer c N h0 i, arrV_store]
    refine congrArg (arrV c N) (funext fun j => ?_)
    by_cases e : j = i
    · subst e
      simp [updV, va_rf]
    · by_cases h : j < i
      · simp [updV, e, h, Nat.lt_succ_of_lt h]
      · have h2 : ¬ j < i + 1 := by omega
        simp [updV, e, h, h2, va_rf]

theorem wsA_appL {b0 : Nat} {cI : ClassId} {cR : Nat → ClassId} {μ ν : Al} {k : Nat} {y : Nat × va_E} (h : (wsA b0 cI cR (μ ++ ν))[μ.length + k]? = some y) : ∃ x, ν[k]? = some x ∧ y = (b0 + (μ.length + k), cA b0 cI cR x) := by
  rw [wsA_get, List.getElem?_append_right (Nat.le_add_right _ _), Nat.add_sub_cancel_left] at h
  cases hx : ν[k]? with
  | none => rw [hx] at h; cases h
  | some x => rw [hx] at h; cases h; exact ⟨x, rfl, rfl⟩
theorem wsA_pre {b0 : Nat} {cI : ClassId} {cR : Nat → ClassId} {μ ν : Al} {k : Nat} (h : k < μ.length) : (wsA b0 cI cR (μ ++ ν))[k]? = (wsA b0 cI cR μ)[k]? := by
  rw [wsA_get, wsA_get, List.getElem?_append_left h]
section GA3
variable {b0 n0 z0 : Nat} {cI : ClassId} {cR : Nat → ClassId} {D : va_G} {pre : Al}
variable {p : Program} {l : Launch} {e : Env} {R : Room} {s : State} {m : MethodId} {args : Array Value} {below : List Frame} {meth : Method} {c : Code} {Q : State → Prop} {nL : Nat} {cc : ByteArray} {own : String}
theorem szs_rep (N : Nat) (x : Ce) : szs (List.replicate N x) = N * szC x := by
  unfold szs
  rw [List.map_replicate, List.sum_replicate_nat]
theorem ga_mna (CX : Cx p s m args meth c cc own nL) (CT : CAt cI cR D s) {pc : Nat} {ls : Lc} {st : List Vl} {μ : Al} {n k q : Int} {N M idx : Nat}
    (hd : decode cc pc = .ok (.multianewarray idx 2, 4)) (hw : Cond.classLink own idx "[[I" ∈ gT ∧ Cond.arrayClass .int ∈ gT) (hn : (N : Int) = n) (hk : (M : Int) = k) (hb1 : N * 4 ≤ 536870912) (hb2 : M * 4 ≤ 536870912) (hc : μ.length + (1 + N) ≤ n0 + R.cells) (hs : szs μ + (N + N * M) ≤ z0 + R.slots) (hq : ((pre.length + μ.length : Nat) : Int) = q)
    (kk : Ga b0 n0 z0 cI cR D pre p l e R s m args below meth c Q nL (pc + 4) ls (vR 0 q :: st) (μ ++ ((5, N, fun j => if j < N then vR 0 (q + 1 + (j : Int)) else vN) :: List.replicate N (1, M, fun _ => vI 0)))) : Ga b0 n0 z0 cI cR D pre p l e R s m args below meth c Q nL pc ls (vI k :: vI n :: st) μ := by
  obtain ⟨hx, hb, hml, hown, hts, hnest, hlk⟩ := CX
  subst hn; subst hk
  intro g1 g2 g3 H locs lsA g4 g5 g6
  obtain ⟨qk, g3⟩ := rS_cons.mp g3
  obtain ⟨qn, g3⟩ := rS_cons.mp g3
  have hN : (i3 (N : Int)).toNatClampNeg = N := by rw [i3_nat qn]; omega
  have hM : (i3 (M : Int)).toNatClampNeg = M := by rw [i3_nat qk]; omega
  have hHs := g4.2
  intro T hT Xs
  obtain ⟨vm₁, cA1, comp, -, fA, fC, hO, -, X', step⟩ := Jvm.Stand.multianewarray2F Xs hx hown (ty := .int) (hts _ hw.1) (show (Cond.arrayOver (.array .int)).before args s = true from CT.2.2.2.2.1) (hts _ hw.2) (g := F0 m pc lsA (Value.int (i3 (M : Int)) :: Value.int (i3 (N : Int)) :: st.map (mv (adA b0)))) rfl (by rw [hb]; exact hd) rfl
    (fun h => by have h2 := (i3_lt qn (inR_lit rfl : inR 0)).mp h; omega) (fun h => by have h2 := (i3_lt qk (inR_lit rfl : inR 0)).mp h; omega) (by rw [hN]; exact hb1) (by rw [hM]; exact hb2) (by rw [hM]; omega) rfl rfl (by rw [hN]; show μ.length - n0 + (1 + N) ≤ _; omega) (by rw [hN, hM]; show szs μ - z0 + (N + N * M) ≤ _; omega)
  have ec : comp = cI := Option.some.inj (fC.symm.trans (CT.1.2 0 _ rfl).2)
  subst ec
  have ecR : cA1 = cR 5 := Option.some.inj (fA.symm.trans (CT.1.2 4 _ rfl).2)
  subst ecR
  rw [hN, hM] at X' step
  generalize hF : Jvm.Free.Multi.fill (T.setVm vm₁) (cR 5) comp N M (defaultValue .int) N = F at X' step
  have hTh : (T.setVm vm₁).heap = H := hT
  obtain ⟨f1, f2, -, -⟩ := Jvm.Free.Multi.fill_facts (T.setVm vm₁) (cR 5) comp N M (defaultValue .int) N
  rw [hF, hTh] at f1 f2
  have hold : ∀ x : Nat, x < H.size → F.heap[x]? = H[x]? := fun x hx => by
    have := Jvm.Free.Multi.fill_old (T.setVm vm₁) (cR 5) comp N M (defaultValue .int) (a := x) (by rw [hTh]; exact hx) N
    rw [hF, hTh] at this
    exact this
  have hrow : ∀ j : Nat, j < N → F.heap[H.size + 1 + j]? = some (vp_cell comp (M, .inl (fun _ => 0))) := fun j hj => by
    have := Jvm.Free.Multi.fill_inner (T.setVm vm₁) (cR 5) comp N M (defaultValue .int) N j hj
    rw [hF, hTh] at this
    rw [this, vp_cell_i]
    exact congrArg some (arrV_new _ _ _)
  rw [vr_outer] at f2
  have hlen : (μ ++ ((5, N, fun j => if j < N then vR 0 (q + 1 + (j : Int)) else vN) :: List.replicate N (1, M, fun _ => vI 0)) : Al).length = μ.length + (1 + N) := by
    simp only [List.length_append, List.length_cons, List.length_replicate]
    omega
  have hsz : szs (μ ++ ((5, N, fun j => if j < N then vR 0 (q + 1 + (j : Int)) else vN) :: List.replicate N (1, M, fun _ => vI 0)) : Al) = szs μ + (N + N * M) := by
    rw [szs_app]
    have e1 : szs (((5, N, fun j => if j < N then vR 0 (q + 1 + (j : Int)) else vN) : Ce) :: List.replicate N (1, M, fun _ => vI 0)) = N + szs (List.replicate N ((1, M, fun _ => vI 0) : Ce)) := by
      unfold szs
      rw [List.map_cons, List.sum_cons]
      rfl
    rw [e1, szs_rep]
    rfl
  have hP1 : va_P D vwCl (wsA b0 comp cR (pre ++ (μ ++ ((5, N, fun j => if j < N then vR 0 (q + 1 + (j : Int)) else vN) :: List.replicate N (1, M, fun _ => vI 0))))) F.heap := by
    rw [← List.append_assoc]
    intro k0 y hy
    by_cases hk0 : k0 < (pre ++ μ).length
    · rw [wsA_pre hk0] at hy
      exact (g4.1 k0 y hy).kept (hold _ (g4.1 k0 y hy).lt)
    · obtain ⟨k1, rfl⟩ : ∃ k1, k0 = (pre ++ μ).length + k1 := ⟨k0 - (pre ++ μ).length, by omega⟩
      obtain ⟨x, hx1, rfl⟩ := wsA_appL hy
      have hpl : (pre ++ μ).length = pre.length + μ.length := List.length_append
      cases k1 with
      | zero =>
        simp only [List.getElem?_cons_zero, Option.some.injEq] at hx1
        subst hx1
        show F.heap[b0 + ((pre ++ μ).length + 0)]? = some (vp_cell (cR 5) (N, .inr (.inr (.inr (.inr (fun j => toR b0 (if j < N then vR 0 (q + 1 + (j : Int)) else vN)))))))
        rw [show b0 + ((pre ++ μ).length + 0) = H.size by rw [hpl, hHs]; omega, vp_cell_q]
        refine f2.trans (congrArg some (congrArg (arrV (cR 5) N) (funext fun j => ?_)))
        by_cases hj : j < N
        · rw [if_pos hj, if_pos hj]
          show va_rf _ = va_rf (some (b0 + (q + 1 + (j : Int)).toNat))
          congr 2
          rw [hHs]
          omega
        · rw [if_neg hj, if_neg hj]
          rfl
      | succ j =>
        simp only [List.getElem?_cons_succ] at hx1
        have hj : j < N := by
          have := (List.getElem?_eq_some_iff.mp hx1).1
          simpa using this
        rw [List.getElem?_replicate, if_pos hj] at hx1
        cases hx1
        show F.heap[b0 + ((pre ++ μ).length + (j + 1))]? = some (vp_cell comp (M, .inl (fun _ => i3 (toI (vI 0)))))
        rw [show b0 + ((pre ++ μ).length + (j + 1)) = H.size + 1 + j by rw [hpl, hHs]; omega]
        exact hrow j hj
  have k' := kk ⟨by rw [hlen]; omega, by rw [hsz]; omega⟩ (fun v hv => rV_mono (fun q h => vdA_app h) (g2 v hv)) (rS_cons.mpr ⟨(show vdA pre _ (0, q) from Or.inr ⟨by show 0 ≤ q; omega, by show q < _; rw [hlen]; omega⟩), rS_mono (fun q h => vdA_app h) g3⟩) F.heap locs lsA ⟨hP1, by rw [f1, hlen, hHs]; omega⟩
    ⟨by rw [f1]; have := g5.1; omega, fun x h1 h2 => (hold x (Nat.lt_of_lt_of_le h1 g5.1)).trans (g5.2.1 x h1 h2), g5.2.2⟩ g6
  have e3 : List.map (mv (adA b0)) (vR 0 q :: st) = Value.ref H.size :: st.map (mv (adA b0)) := by
    rw [List.map_cons]
    exact congrArg (fun z : Value => z :: st.map (mv (adA b0))) (congrArg Value.ref (by omega : b0 + q.toNat = H.size))
  rw [e3] at k'
  obtain ⟨t, a1, b1⟩ := k' F rfl (by
    show Stand _ _ _ _ _ _ _ _ _ _ _ _ (List.length _ - n0) (szs _ - z0)
    rw [hlen, hsz, show μ.length + (1 + N) - n0 = μ.length - n0 + 1 + N by omega, show szs μ + (N + N * M) - z0 = szs μ - z0 + N + N * M by omega]
    exact X')
  refine ⟨t, step t ?_, b1⟩
  have e : T.heap.size = H.size := by rw [hT]
  rw [e]
  exact a1
theorem gm_callA {H : Heap} {locs : List Loc} {cells slots pc mc ms : Nat} {ls : Array Slot} {st0 rest : List Value} {a : Array Value} {pre2 l0 : Al} {Post : Al → Prop}
    (hr : va_Run p l e R s m args below meth c H locs cells slots mc ms (F0 m pc ls st0) rest (QcA b0 cI cR D pre2 l0 mc ms Post a) (Af b0)) (hS : va_S (Af b0) s.heap H locs)
    (kk : ∀ (l2 : Al) (H1 : Heap) (locs1 : List Loc), Post l2 → l2.length = l0.length + mc → szs l2 = szs l0 + ms → WA b0 cI cR D pre2 l2 H1 → va_S (Af b0) s.heap H1 locs1 → W p l e R s m args below meth c H1 locs1 (cells + mc) (slots + ms) Q (F0 m (pc + 3) ls rest)) :
    W p l e R s m args below meth c H locs cells slots Q (F0 m pc ls st0) := by
  intro T hT X
  obtain ⟨v, st₀, t, T', L, h0, X', hL, e1, e2, ⟨⟨l2, hv, hp, hb, hg, hw⟩, hz, hk⟩, st⟩ := hr T hT X
  cases hv
  rw [h0] at hz hk
  obtain ⟨t2, a1, b1⟩ := kk l2 T'.heap (locs ++ L) hp hb hg (by rw [e1]; exact hw)
    ⟨Nat.le_trans hS.1 (by rw [e1]; exact hz), fun q h1 h2 => by rw [e1, hk q (Nat.lt_of_lt_of_le h1 hS.1) h2]; exact hS.2.1 q h1 h2, fun q hq => by
      rcases List.mem_append.mp hq with h | h
      · exact hS.2.2 q h
      · exact hL q h⟩ T' rfl X'
  exact ⟨t2, st t2 a1, b1⟩
theorem ga_call (CX : Cx p s m args meth c cc own nL) (CT : CAt cI cR D s) {d mc ms : Nat} (hR : d + 1 ≤ R.frames ∧ 40 * (d + 1) ≤ R.locals) {Cal : Nat → List Vl → Al → Al → Nat → Nat → (Al → Prop) → Prop}
    (hCal : ∀ (M : Nat) (as : List Vl) (pre l0 : Al) (mc ms : Nat) (Post : Al → Prop), Cal M as pre l0 mc ms Post → csum as ≤ ml M → MOK M → mr M = none → Met l (my M) (wsM M) (rmA d mc ms) (PcA b0 cI cR D as pre l0) (QcA b0 cI cR D pre l0 mc ms Post) mc ms (Af b0))
    {pc : Nat} {ls : Lc} {rest as : List Vl} {l1 l0 : Al} {idx M : Nat} {q : Int}
    (hd : decode cc pc = .ok (.invokespecial idx, 3)) (hl : ILk own idx M) (hlen : as.length = mp M) (hcs : csum (vR 0 q :: as) ≤ ml M) (hst : csum rest ≤ 8) (hc : (l1 ++ l0).length + mc ≤ n0 + R.cells) (hs : szs (l1 ++ l0) + ms ≤ z0 + R.slots)
    (kk : Cal M (vR 0 q :: as) (pre ++ l1) l0 mc ms (fun l2 => Ga b0 n0 z0 cI cR D pre p l e R s m args below meth c Q nL (pc + 3) ls rest (l1 ++ l2))) : Ga b0 n0 z0 cI cR D pre p l e R s m args below meth c Q nL pc ls (as.reverse ++ vR 0 q :: rest) (l1 ++ l0) := by
  intro g1 g2 g3 H locs lsA g4 g5 g6
  obtain ⟨hx, hb, hml, hown, hts, hnest, hlk⟩ := CX
  obtain ⟨hlink, hmok, hinst, hnm, hret⟩ := hl
  obtain ⟨ga, gr⟩ := rS_app.mp g3
  obtain ⟨q1, gr⟩ := rS_cons.mp gr
  have hvd : ∀ z, vdA pre (l1 ++ l0) z → vdA (pre ++ l1) l0 z := fun z h => h.imp id fun h => ⟨h.1, by have := h.2; simp only [List.length_append] at *; omega⟩
  have gas : rS (vdA (pre ++ l1) l0) (vR 0 q :: as) := rS_mono hvd (rS_cons.mpr ⟨q1, rS_rev.mp ga⟩)
  have hWA : WA b0 cI cR D (pre ++ l1) l0 H := ⟨by rw [List.append_assoc]; exact g4.1, by rw [g4.2]; simp only [List.length_append]; omega⟩
  have hM := hCal M (vR 0 q :: as) (pre ++ l1) l0 mc ms _ kk hcs hmok hret
  have hgood := wsM_good hmok
  have hR2 : (rmA d mc ms).frames + 1 ≤ R.frames ∧ 8 + (ml M + 11) + (rmA d mc ms).locals ≤ R.locals := ⟨hR.1, by have h1 := hmok.2.2.2.2.1; show 8 + (ml M + 11) + 40 * d ≤ R.locals; omega⟩
  have hdd : (my M).cls ≠ "java/lang/invoke/MethodHandle" ∧ (my M).cls ≠ "java/lang/invoke/VarHandle" ∧ (parseMethodDescriptor (my M).desc).map (fun d => d.parameters.length) = some (mp M) := ⟨hmok.2.2.1.1, hmok.2.2.1.2, hmok.2.2.2.1⟩
  have hp : PreS s H (PcA b0 cI cR D (vR 0 q :: as) (pre ++ l1) l0) (.ref (adA b0 0 q) :: as.map (mv (adA b0))) := ⟨PcA_blind, fun U hU hW => ⟨rfl, gas, by rw [hU]; exact hWA, CT.moved hW⟩⟩
  have hfin : ∀ hr : va_Run p l e R s m args below meth c H locs ((l1 ++ l0).length - n0) (szs (l1 ++ l0) - z0) mc ms (F0 m pc lsA (List.map (mv (adA b0)) (as.reverse ++ vR 0 q :: rest))) (rest.map (mv (adA b0))) (QcA b0 cI cR D (pre ++ l1) l0 mc ms (fun l2 => Ga b0 n0 z0 cI cR D pre p l e R s m args below meth c Q nL (pc + 3) ls rest (l1 ++ l2)) (Value.ref (adA b0 0 q) :: as.map (mv (adA b0))).toArray) (Af b0),
      W p l e R s m args below meth c H locs ((l1 ++ l0).length - n0) (szs (l1 ++ l0) - z0) Q (F0 m pc lsA (List.map (mv (adA b0)) (as.reverse ++ vR 0 q :: rest))) := fun hr => by
    refine gm_callA hr g5 (fun l2 H1 locs1 hpost h1 h2 hw hS1 => ?_)
    have e1 : (l1 ++ l2).length - n0 = (l1 ++ l0).length - n0 + mc := by
      have := g1.1
      simp only [List.length_append] at *
      omega
    have e2 : szs (l1 ++ l2) - z0 = szs (l1 ++ l0) - z0 + ms := by
      have := g1.2
      rw [szs_app] at *
      rw [szs_app]
      omega
    have hvd2 : ∀ z, vdA pre (l1 ++ l0) z → vdA pre (l1 ++ l2) z := fun z h => h.imp id fun h => ⟨h.1, by have := h.2; simp only [List.length_append] at *; omega⟩
    have k' := hpost ⟨by have := g1.1; simp only [List.length_append] at *; omega, by have := g1.2; rw [szs_app] at *; omega⟩ (fun v hv => rV_mono hvd2 (g2 v hv)) (rS_mono hvd2 gr) H1 locs1 lsA ⟨by rw [← List.append_assoc]; exact hw.1, by rw [hw.2]; simp only [List.length_append]; omega⟩ hS1 g6
    rw [← e1, ← e2]
    exact k'
  have hstack : List.map (mv (adA b0)) (as.reverse ++ vR 0 q :: rest) = (as.map (mv (adA b0))).reverse ++ .ref (adA b0 0 q) :: rest.map (mv (adA b0)) := by
    rw [List.map_append, List.map_reverse]
    rfl
  rcases hlink with hlnk | ⟨host, hlnk⟩
  · exact hfin (va_runI ⟨hx, hb, hml, hown, hts⟩ hM ⟨callB_of (mp M) hts hgood (by show Cond.code _ _ _ _ :: gT = _; rw [hret]) rfl rfl (hts _ hmok.2.1) (hts _ hlnk) hdd hR2, hnm, hts _ hinst⟩ hp rfl (by rw [List.length_map]; exact hlen) g6.2.1 hstack (lv_room (by rw [mv_sum]; exact hst)) hd ⟨by show (l1 ++ l0).length - n0 + mc ≤ _; have := g1.1; omega, by show szs (l1 ++ l0) - z0 + ms ≤ _; have := g1.2; omega⟩)
  · exact hfin (va_runIN ⟨hx, hb, hml, hown, hts⟩ hM ⟨va_cnB (mp M) hts hgood (by show Cond.code _ _ _ _ :: gT = _; rw [hret]) rfl rfl (hnest _ hlnk) (hts _ hmok.2.1) hdd hR2, hnm, hts _ hinst⟩ hp rfl (by rw [List.length_map]; exact hlen) g6.2.1 hstack (lv_room (by rw [mv_sum]; exact hst)) hd ⟨by show (l1 ++ l0).length - n0 + mc ≤ _; have := g1.1; omega, by show szs (l1 ++ l0) - z0 + ms ≤ _; have := g1.2; omega⟩)
theorem ga_fill (CX : Cx p s m args meth c cc own nL) (CT : CAt cI cR D s) {d : Nat} (hR : d + 1 ≤ R.frames ∧ 40 * (d + 1) ≤ R.locals) {Cal : Nat → List Vl → Al → Al → Nat → Nat → (Al → Prop) → Prop}
    (hCal : ∀ (M : Nat) (as : List Vl) (pre l0 : Al) (mc ms : Nat) (Post : Al → Prop), Cal M as pre l0 mc ms Post → csum as ≤ ml M → MOK M → mr M = none → Met l (my M) (wsM M) (rmA d mc ms) (PcA b0 cI cR D as pre l0) (QcA b0 cI cR D pre l0 mc ms Post) mc ms (Af b0))
    {pc : Nat} {ls : Lc} {rest as : List Vl} {l0 : Al} {idx M : Nat}
    (hd : decode cc pc = .ok (.invokestatic idx, 3)) (hl : TLk own idx M) (hret : mr M = none) (hlen : as.length = mp M) (hcs : csum as ≤ ml M) (hst : csum rest ≤ 8) (hc : l0.length ≤ n0 + R.cells) (hs : szs l0 ≤ z0 + R.slots)
    (kk : Cal M as pre l0 0 0 (fun l2 => Ga b0 n0 z0 cI cR D pre p l e R s m args below meth c Q nL (pc + 3) ls rest l2)) : Ga b0 n0 z0 cI cR D pre p l e R s m args below meth c Q nL pc ls (as.reverse ++ rest) l0 := by
  intro g1 g2 g3 H locs lsA g4 g5 g6
  obtain ⟨hx, hb, hml, hown, hts, hnest, hlk⟩ := CX
  obtain ⟨hlink, hmok, hstat⟩ := hl
  obtain ⟨ga, gr⟩ := rS_app.mp g3
  have gas : rS (vdA pre l0) as := rS_rev.mp ga
  have hM := hCal M as pre l0 0 0 _ kk hcs hmok hret
  have hgood := wsM_good hmok
  have hR2 : (rmA d 0 0).frames + 1 ≤ R.frames ∧ 8 + (ml M + 11) + (rmA d 0 0).locals ≤ R.locals := ⟨hR.1, by have h1 := hmok.2.2.2.2.1; show 8 + (ml M + 11) + 40 * d ≤ R.locals; omega⟩
  have hdd : (my M).cls ≠ "java/lang/invoke/MethodHandle" ∧ (my M).cls ≠ "java/lang/invoke/VarHandle" ∧ (parseMethodDescriptor (my M).desc).map (fun d => d.parameters.length) = some (mp M) := ⟨hmok.2.2.1.1, hmok.2.2.1.2, hmok.2.2.2.1⟩
  have hp : PreS s H (PcA b0 cI cR D as pre l0) (as.map (mv (adA b0))) := ⟨PcA_blind, fun U hU hW => ⟨rfl, gas, by rw [hU]; exact g4, CT.moved hW⟩⟩
  have hfin : ∀ hr : va_Run p l e R s m args below meth c H locs (l0.length - n0) (szs l0 - z0) 0 0 (F0 m pc lsA (List.map (mv (adA b0)) (as.reverse ++ rest))) (rest.map (mv (adA b0))) (QcA b0 cI cR D pre l0 0 0 (fun l2 => Ga b0 n0 z0 cI cR D pre p l e R s m args below meth c Q nL (pc + 3) ls rest l2) (as.map (mv (adA b0))).toArray) (Af b0),
      W p l e R s m args below meth c H locs (l0.length - n0) (szs l0 - z0) Q (F0 m pc lsA (List.map (mv (adA b0)) (as.reverse ++ rest))) := fun hr => by
    refine gm_callA hr g5 (fun l2 H1 locs1 hpost h1 h2 hw hS1 => ?_)
    have hvd2 : ∀ z, vdA pre l0 z → vdA pre l2 z := fun z h => h.imp id fun h => ⟨h.1, by rw [h1]; exact h.2⟩
    have k' := hpost ⟨by rw [h1]; exact g1.1, by rw [h2]; exact g1.2⟩ (fun v hv => rV_mono hvd2 (g2 v hv)) (rS_mono hvd2 gr) H1 locs1 lsA hw hS1 g6
    simp only [h1, h2, Nat.add_zero] at k' ⊢
    exact k'
  have hstack : List.map (mv (adA b0)) (as.reverse ++ rest) = (as.map (mv (adA b0))).reverse ++ rest.map (mv (adA b0)) := by
    rw [List.map_append, List.map_reverse]
  rcases hlink with hlnk | ⟨host, hlnk⟩
  · exact hfin (va_runS ⟨hx, hb, hml, hown, hts⟩ hM ⟨callB_of (mp M) hts hgood rfl rfl rfl (hts _ hmok.2.1) (hts _ hlnk) hdd hR2, hts _ hstat⟩ hp rfl (by rw [List.length_map]; exact hlen) g6.2.1 hstack (lv_room (by rw [mv_sum]; exact hst)) hd ⟨by show l0.length - n0 + 0 ≤ _; omega, by show szs l0 - z0 + 0 ≤ _; omega⟩)
  · exact hfin (va_runSN ⟨hx, hb, hml, hown, hts⟩ hM ⟨va_cnB (mp M) hts hgood rfl rfl rfl (hnest _ hlnk) (hts _ hmok.2.1) hdd hR2, hts _ hstat, trivial⟩ hp rfl (by rw [List.length_map]; exact hlen) g6.2.1 hstack (lv_room (by rw [mv_sum]; exact hst)) hd ⟨by show l0.length - n0 + 0 ≤ _; omega, by show szs l0 - z0 + 0 ≤ _; omega⟩)
theorem ga_ret (CX : Cx p s m args meth c cc own nL) {l0 : Al} {mc ms : Nat} {Post : Al → Prop} {pc : Nat} {ls : Lc} {μ : Al} (hr : meth.sig.returnType = none) (hd : decode cc pc = .ok (.return_, 1)) (hp : Post μ) (h1 : μ.length = l0.length + mc) (h2 : szs μ = szs l0 + ms) :
    Ga b0 l0.length (szs l0) cI cR D pre p l e R s m args below meth c (MQ below (QcA b0 cI cR D pre l0 mc ms Post) args s mc ms (Af b0)) nL pc ls [] μ := by
  intro g1 g2 g3 H locs lsA g4 g5 g6
  obtain ⟨hx, hb, hml, hown, hts, hnest, hlk⟩ := CX
  have e1 : μ.length - l0.length = mc := by omega
  have e2 : szs μ - szs l0 = ms := by omega
  show W p l e R s m args below meth c H locs (μ.length - l0.length) (szs μ - szs l0) _ _
  rw [e1, e2]
  exact W.vret hx hb hr (fun t ht hW => ⟨⟨μ, rfl, hp, h1, h2, by rw [ht]; exact g4⟩, g5.F ht⟩) g5.2.2 hd (hlocks := hlk)
end GA3

def A_new (cc : ByteArray) (own nm : String) (pre : Al) (n0 z0 bc bs : Nat) (Cal : Nat → List Vl → Al → Al → Nat → Nat → (Al → Prop) → Prop) (K : Nat → Lc → List Vl → Al → Prop) : Prop := ∀ {pc : Nat} {ls : Lc} {st : List Vl} {μ : Al} {idx ci : Nat} {q : Int}, (decode cc pc = .ok (.new idx, 3)) → (NLk own idx ci) → (μ.length + 1 ≤ n0 + bc) → (szs μ + clN ci ≤ z0 + bs) → (((pre.length + μ.length : Nat) : Int) = q) → (K (pc + 3) ls (vR 0 q :: st) (μ ++ [(0, ci, dfl ci)])) → K pc ls st μ
def A_newa (cc : ByteArray) (own nm : String) (pre : Al) (n0 z0 bc bs : Nat) (Cal : Nat → List Vl → Al → Al → Nat → Nat → (Al → Prop) → Prop) (K : Nat → Lc → List Vl → Al → Prop) : Prop := ∀ {pc : Nat} {ls : Lc} {st : List Vl} {μ : Al} {n q : Int} {nn : Nat}, (decode cc pc = .ok (.newarray .int, 2)) → (Cond.arrayClass .int ∈ gT) → ((nn : Int) = n) → (nn * 4 ≤ 536870912) → (μ.length + 1 ≤ n0 + bc) → (szs μ + nn ≤ z0 + bs) → (((pre.length + μ.length : Nat) : Int) = q) → (K (pc + 2) ls (vR 0 q :: st) (μ ++ [(1, nn, fun _ => vI 0)])) → K pc ls (vI n :: st) μ
def A_anew2 (cc : ByteArray) (own nm : String) (pre : Al) (n0 z0 bc bs : Nat) (Cal : Nat → List Vl → Al → Al → Nat → Nat → (Al → Prop) → Prop) (K : Nat → Lc → List Vl → Al → Prop) : Prop := ∀ {pc : Nat} {ls : Lc} {st : List Vl} {μ : Al} {n q : Int} {nn idx : Nat}, (decode cc pc = .ok (.anewarray idx, 3)) → (Cond.classLink own idx RX2 ∈ gT) → ((nn : Int) = n) → (nn * 4 ≤ 536870912) → (μ.length + 1 ≤ n0 + bc) → (szs μ + nn ≤ z0 + bs) → (((pre.length + μ.length : Nat) : Int) = q) → (K (pc + 3) ls (vR 0 q :: st) (μ ++ [(2, nn, fun _ => vN)])) → K pc ls (vI n :: st) μ
def A_anew3 (cc : ByteArray) (own nm : String) (pre : Al) (n0 z0 bc bs : Nat) (Cal : Nat → List Vl → Al → Al → Nat → Nat → (Al → Prop) → Prop) (K : Nat → Lc → List Vl → Al → Prop) : Prop := ∀ {pc : Nat} {ls : Lc} {st : List Vl} {μ : Al} {n q : Int} {nn idx : Nat}, (decode cc pc = .ok (.anewarray idx, 3)) → (Cond.classLink own idx RX4 ∈ gT) → ((nn : Int) = n) → (nn * 4 ≤ 536870912) → (μ.length + 1 ≤ n0 + bc) → (szs μ + nn ≤ z0 + bs) → (((pre.length + μ.length : Nat) : Int) = q) → (K (pc + 3) ls (vR 0 q :: st) (μ ++ [(3, nn, fun _ => vN)])) → K pc ls (vI n :: st) μ
def A_anew4 (cc : ByteArray) (own nm : String) (pre : Al) (n0 z0 bc bs : Nat) (Cal : Nat → List Vl → Al → Al → Nat → Nat → (Al → Prop) → Prop) (K : Nat → Lc → List Vl → Al → Prop) : Prop := ∀ {pc : Nat} {ls : Lc} {st : List Vl} {μ : Al} {n q : Int} {nn idx : Nat}, (decode cc pc = .ok (.anewarray idx, 3)) → (Cond.classLink own idx RX3 ∈ gT) → ((nn : Int) = n) → (nn * 4 ≤ 536870912) → (μ.length + 1 ≤ n0 + bc) → (szs μ + nn ≤ z0 + bs) → (((pre.length + μ.length : Nat) : Int) = q) → (K (pc + 3) ls (vR 0 q :: st) (μ ++ [(4, nn, fun _ => vN)])) → K pc ls (vI n :: st) μ
def A_mna (cc : ByteArray) (own nm : String) (pre : Al) (n0 z0 bc bs : Nat) (Cal : Nat → List Vl → Al → Al → Nat → Nat → (Al → Prop) → Prop) (K : Nat → Lc → List Vl → Al → Prop) : Prop := ∀ {pc : Nat} {ls : Lc} {st : List Vl} {μ : Al} {n k q : Int} {N M idx : Nat}, (decode cc pc = .ok (.multianewarray idx 2, 4)) → (Cond.classLink own idx "[[I" ∈ gT ∧ Cond.arrayClass .int ∈ gT) → ((N : Int) = n) → ((M : Int) = k) → (N * 4 ≤ 536870912) → (M * 4 ≤ 536870912) → (μ.length + (1 + N) ≤ n0 + bc) → (szs μ + (N + N * M) ≤ z0 + bs) → (((pre.length + μ.length : Nat) : Int) = q) → (K (pc + 4) ls (vR 0 q :: st) (μ ++ ((5, N, fun j => if j < N then vR 0 (q + 1 + (j : Int)) else vN) :: List.replicate N (1, M, fun _ => vI 0)))) → K pc ls (vI k :: vI n :: st) μ
def A_getf (cc : ByteArray) (own nm : String) (pre : Al) (n0 z0 bc bs : Nat) (Cal : Nat → List Vl → Al → Al → Nat → Nat → (Al → Prop) → Prop) (K : Nat → Lc → List Vl → Al → Prop) : Prop := ∀ {pc : Nat} {ls : Lc} {st : List Vl} {μ : Al} {idx ci j k : Nat} {ty : FieldType} {q : Int} {f : Nat → Vl} {v : Vl}, (decode cc pc = .ok (.getfield idx, 3)) → (FLk own idx ci j ty) → (μ[k]? = some (0, ci, f)) → (((pre.length + k : Nat) : Int) = q) → (f j = v) → (rV (vdA pre μ) v) → (K (pc + 3) ls (v :: st) μ) → K pc ls (vR 0 q :: st) μ
def A_putI (cc : ByteArray) (own nm : String) (pre : Al) (n0 z0 bc bs : Nat) (Cal : Nat → List Vl → Al → Al → Nat → Nat → (Al → Prop) → Prop) (K : Nat → Lc → List Vl → Al → Prop) : Prop := ∀ {pc : Nat} {ls : Lc} {st : List Vl} {μ : Al} {idx ci j k : Nat} {q a : Int} {f : Nat → Vl}, (decode cc pc = .ok (.putfield idx, 3)) → (FLw own idx ci j .int) → (∀ (C : String) (T : u_T) (N : Nat), vwCl[ci]? = some (C, T, N) → Cond.fieldLink own idx C (T j).2.1 (T j).2.2.1 ∈ gT) → (μ[k]? = some (0, ci, f)) → (((pre.length + k : Nat) : Int) = q) → (K (pc + 3) ls st (μ.set k (0, ci, updC f j (vI a)))) → K pc ls (vI a :: vR 0 q :: st) μ
def A_putR (cc : ByteArray) (own nm : String) (pre : Al) (n0 z0 bc bs : Nat) (Cal : Nat → List Vl → Al → Al → Nat → Nat → (Al → Prop) → Prop) (K : Nat → Lc → List Vl → Al → Prop) : Prop := ∀ {pc : Nat} {ls : Lc} {st : List Vl} {μ : Al} {idx ci j k : Nat} {ty : FieldType} {q a : Int} {f : Nat → Vl}, (decode cc pc = .ok (.putfield idx, 3)) → (FLf own idx ci j ty) → (nm = "<init>") → (∀ (C : String) (T : u_T) (N : Nat), vwCl[ci]? = some (C, T, N) → Cond.fieldLink own idx C (T j).2.1 (T j).2.2.1 ∈ gT) → (μ[k]? = some (0, ci, f)) → (((pre.length + k : Nat) : Int) = q) → (∀ x : Nat, narrow ty (.ref x) = .ref x ∧ fits ty (.ref x) = true) → (K (pc + 3) ls st (μ.set k (0, ci, updC f j (vR 0 a)))) → K pc ls (vR 0 a :: vR 0 q :: st) μ
def A_iast (cc : ByteArray) (own nm : String) (pre : Al) (n0 z0 bc bs : Nat) (Cal : Nat → List Vl → Al → Al → Nat → Nat → (Al → Prop) → Prop) (K : Nat → Lc → List Vl → Al → Prop) : Prop := ∀ {pc : Nat} {ls : Lc} {st : List Vl} {μ : Al} {k n : Nat} {q i a : Int} {f : Nat → Vl}, (decode cc pc = .ok (.iastore, 1)) → (μ[k]? = some (1, n, f)) → (((pre.length + k : Nat) : Int) = q) → (0 ≤ i) → (i < (n : Int)) → (K (pc + 1) ls st (μ.set k (1, n, updC f i.toNat (vI a)))) → K pc ls (vI a :: vI i :: vR 0 q :: st) μ
def A_alen (cc : ByteArray) (own nm : String) (pre : Al) (n0 z0 bc bs : Nat) (Cal : Nat → List Vl → Al → Al → Nat → Nat → (Al → Prop) → Prop) (K : Nat → Lc → List Vl → Al → Prop) : Prop := ∀ {pc : Nat} {ls : Lc} {st : List Vl} {μ : Al} {k n : Nat} {q nz : Int} {f : Nat → Vl}, (decode cc pc = .ok (.arraylength, 1)) → (μ[k]? = some (1, n, f)) → (((pre.length + k : Nat) : Int) = q) → ((n : Int) = nz) → (n < 2147483648) → (K (pc + 1) ls (vI nz :: st) μ) → K pc ls (vR 0 q :: st) μ
def A_aast2 (cc : ByteArray) (own nm : String) (pre : Al) (n0 z0 bc bs : Nat) (Cal : Nat → List Vl → Al → Al → Nat → Nat → (Al → Prop) → Prop) (K : Nat → Lc → List Vl → Al → Prop) : Prop := ∀ {pc : Nat} {ls : Lc} {st : List Vl} {μ : Al} {k n kv : Nat} {q i qv : Int} {f fv : Nat → Vl}, (decode cc pc = .ok (.aastore, 1)) → (μ[k]? = some (2, n, f)) → (((pre.length + k : Nat) : Int) = q) → (0 ≤ i) → (i < (n : Int)) → (μ[kv]? = some (0, 2, fv)) → (((pre.length + kv : Nat) : Int) = qv) → (K (pc + 1) ls st (μ.set k (2, n, updC f i.toNat (vR 0 qv)))) → K pc ls (vR 0 qv :: vI i :: vR 0 q :: st) μ
def A_aast3 (cc : ByteArray) (own nm : String) (pre : Al) (n0 z0 bc bs : Nat) (Cal : Nat → List Vl → Al → Al → Nat → Nat → (Al → Prop) → Prop) (K : Nat → Lc → List Vl → Al → Prop) : Prop := ∀ {pc : Nat} {ls : Lc} {st : List Vl} {μ : Al} {k n kv : Nat} {q i qv : Int} {f fv : Nat → Vl}, (decode cc pc = .ok (.aastore, 1)) → (μ[k]? = some (3, n, f)) → (((pre.length + k : Nat) : Int) = q) → (0 ≤ i) → (i < (n : Int)) → (μ[kv]? = some (0, 4, fv)) → (((pre.length + kv : Nat) : Int) = qv) → (K (pc + 1) ls st (μ.set k (3, n, updC f i.toNat (vR 0 qv)))) → K pc ls (vR 0 qv :: vI i :: vR 0 q :: st) μ
def A_aast4 (cc : ByteArray) (own nm : String) (pre : Al) (n0 z0 bc bs : Nat) (Cal : Nat → List Vl → Al → Al → Nat → Nat → (Al → Prop) → Prop) (K : Nat → Lc → List Vl → Al → Prop) : Prop := ∀ {pc : Nat} {ls : Lc} {st : List Vl} {μ : Al} {k n kv : Nat} {q i qv : Int} {f fv : Nat → Vl}, (decode cc pc = .ok (.aastore, 1)) → (μ[k]? = some (4, n, f)) → (((pre.length + k : Nat) : Int) = q) → (0 ≤ i) → (i < (n : Int)) → (μ[kv]? = some (0, 3, fv)) → (((pre.length + kv : Nat) : Int) = qv) → (K (pc + 1) ls st (μ.set k (4, n, updC f i.toNat (vR 0 qv)))) → K pc ls (vR 0 qv :: vI i :: vR 0 q :: st) μ
def A_obj (cc : ByteArray) (own nm : String) (pre : Al) (n0 z0 bc bs : Nat) (Cal : Nat → List Vl → Al → Al → Nat → Nat → (Al → Prop) → Prop) (K : Nat → Lc → List Vl → Al → Prop) : Prop := ∀ {pc : Nat} {ls : Lc} {st : List Vl} {μ : Al} {idx : Nat} {q : Int}, (decode cc pc = .ok (.invokespecial idx, 3)) → (Cond.methodLink own idx Lib.objectInit ∈ gT ∧ Cond.instanceMethod Lib.objectInit ∈ gT ∧ Cond.code Lib.objectInit ⟨#[0xb1]⟩ 1 none ∈ gT) → (csum st ≤ 8) → (K (pc + 3) ls st μ) → K pc ls (vR 0 q :: st) μ
def A_call (cc : ByteArray) (own nm : String) (pre : Al) (n0 z0 bc bs : Nat) (Cal : Nat → List Vl → Al → Al → Nat → Nat → (Al → Prop) → Prop) (K : Nat → Lc → List Vl → Al → Prop) : Prop := ∀ {pc : Nat} {ls : Lc} {rest as : List Vl} {l1 l0 : Al} {idx M : Nat} {q : Int} {mc ms : Nat}, (decode cc pc = .ok (.invokespecial idx, 3)) → (ILk own idx M) → (as.length = mp M) → (csum (vR 0 q :: as) ≤ ml M) → (csum rest ≤ 8) → ((l1 ++ l0).length + mc ≤ n0 + bc) → (szs (l1 ++ l0) + ms ≤ z0 + bs) → (Cal M (vR 0 q :: as) (pre ++ l1) l0 mc ms (fun l2 => K (pc + 3) ls rest (l1 ++ l2))) → K pc ls (as.reverse ++ vR 0 q :: rest) (l1 ++ l0)
def A_fill (cc : ByteArray) (own nm : String) (pre : Al) (n0 z0 bc bs : Nat) (Cal : Nat → List Vl → Al → Al → Nat → Nat → (Al → Prop) → Prop) (K : Nat → Lc → List Vl → Al → Prop) : Prop := ∀ {pc : Nat} {ls : Lc} {rest as : List Vl} {l0 : Al} {idx M : Nat}, (decode cc pc = .ok (.invokestatic idx, 3)) → (TLk own idx M) → (mr M = none) → (as.length = mp M) → (csum as ≤ ml M) → (csum rest ≤ 8) → (l0.length ≤ n0 + bc) → (szs l0 ≤ z0 + bs) → (Cal M as pre l0 0 0 (fun l2 => K (pc + 3) ls rest l2)) → K pc ls (as.reverse ++ rest) l0
def StpN (cc : ByteArray) (own nm : String) (pre : Al) (n0 z0 bc bs : Nat) (Cal : Nat → List Vl → Al → Al → Nat → Nat → (Al → Prop) → Prop) (K : Nat → Lc → List Vl → Al → Prop) : Prop := StpC (vdA pre) (fun μ : Al => n0 ≤ μ.length ∧ z0 ≤ szs μ) cc own K ∧ A_new cc own nm pre n0 z0 bc bs Cal K ∧ A_newa cc own nm pre n0 z0 bc bs Cal K ∧ A_anew2 cc own nm pre n0 z0 bc bs Cal K ∧ A_anew3 cc own nm pre n0 z0 bc bs Cal K ∧ A_anew4 cc own nm pre n0 z0 bc bs Cal K ∧ A_mna cc own nm pre n0 z0 bc bs Cal K ∧ A_getf cc own nm pre n0 z0 bc bs Cal K ∧ A_putI cc own nm pre n0 z0 bc bs Cal K ∧ A_putR cc own nm pre n0 z0 bc bs Cal K ∧ A_iast cc own nm pre n0 z0 bc bs Cal K ∧ A_alen cc own nm pre n0 z0 bc bs Cal K ∧ A_aast2 cc own nm pre n0 z0 bc bs Cal K ∧ A_aast3 cc own nm pre n0 z0 bc bs Cal K ∧ A_aast4 cc own nm pre n0 z0 bc bs Cal K ∧ A_obj cc own nm pre n0 z0 bc bs Cal K ∧ A_call cc own nm pre n0 z0 bc bs Cal K ∧ A_fill cc own nm pre n0 z0 bc bs Cal K
def StpA (cc : ByteArray) (own nm : String) (pre l0 : Al) (mc ms : Nat) (Cal : Nat → List Vl → Al → Al → Nat → Nat → (Al → Prop) → Prop) (Post : Al → Prop) (K : Nat → Lc → List Vl → Al → Prop) : Prop := StpN cc own nm pre l0.length (szs l0) mc ms Cal K ∧ ∀ {pc : Nat} {ls : Lc} {μ : Al}, decode cc pc = .ok (.return_, 1) → Post μ → μ.length = l0.length + mc → szs μ = szs l0 + ms → K pc ls [] μ
section AROWS
variable {cc : ByteArray} {own nm : String} {pre : Al} {n0 z0 bc bs : Nat} {Cal : Nat → List Vl → Al → Al → Nat → Nat → (Al → Prop) → Prop} {K : Nat → Lc → List Vl → Al → Prop}
theorem n_new (hN : StpN cc own nm pre n0 z0 bc bs Cal K) {pc : Nat} {ls : Lc} {st : List Vl} {μ : Al} {idx ci : Nat} {q : Int} (hd : decode cc pc = .ok (.new idx, 3)) (hl : NLk own idx ci) (hc : μ.length + 1 ≤ n0 + bc) (hs : szs μ + clN ci ≤ z0 + bs) (hq : ((pre.length + μ.length : Nat) : Int) = q) (k_ : K (pc + 3) ls (vR 0 q :: st) (μ ++ [(0, ci, dfl ci)])) : K pc ls st μ := hN.2.1 hd hl hc hs hq k_
theorem n_newa (hN : StpN cc own nm pre n0 z0 bc bs Cal K) {pc : Nat} {ls : Lc} {st : List Vl} {μ : Al} {n q : Int} {nn : Nat} (hd : decode cc pc = .ok (.newarray .int, 2)) (hw : Cond.arrayClass .int ∈ gT) (hn : (nn : Int) = n) (hn2 : nn * 4 ≤ 536870912) (hc : μ.length + 1 ≤ n0 + bc) (hs : szs μ + nn ≤ z0 + bs) (hq : ((pre.length + μ.length : Nat) : Int) = q) (k_ : K (pc + 2) ls (vR 0 q :: st) (μ ++ [(1, nn, fun _ => vI 0)])) : K pc ls (vI n :: st) μ := hN.2.2.1 hd hw hn hn2 hc hs hq k_
theorem n_anew2 (hN : StpN cc own nm pre n0 z0 bc bs Cal K) {pc : Nat} {ls : Lc} {st : List Vl} {μ : Al} {n q : Int} {nn idx : Nat} (hd : decode cc pc = .ok (.anewarray idx, 3)) (hw : Cond.classLink own idx RX2 ∈ gT) (hn : (nn : Int) = n) (hn2 : nn * 4 ≤ 536870912) (hc : μ.length + 1 ≤ n0 + bc) (hs : szs μ + nn ≤ z0 + bs) (hq : ((pre.length + μ.length : Nat) : Int) = q) (k_ : K (pc + 3) ls (vR 0 q :: st) (μ ++ [(2, nn, fun _ => vN)])) : K pc ls (vI n :: st) μ := hN.2.2.2.1 hd hw hn hn2 hc hs hq k_
theorem n_anew3 (hN : StpN cc own nm pre n0 z0 bc bs Cal K) {pc : Nat} {ls : Lc} {st : List Vl} {μ : Al} {n q : Int} {nn idx : Nat} (hd : decode cc pc = .ok (.anewarray idx, 3)) (hw : Cond.classLink own idx RX4 ∈ gT) (hn : (nn : Int) = n) (hn2 : nn * 4 ≤ 536870912) (hc : μ.length + 1 ≤ n0 + bc) (hs : szs μ + nn ≤ z0 + bs) (hq : ((pre.length + μ.length : Nat) : Int) = q) (k_ : K (pc + 3) ls (vR 0 q :: st) (μ ++ [(3, nn, fun _ => vN)])) : K pc ls (vI n :: st) μ := hN.2.2.2.2.1 hd hw hn hn2 hc hs hq k_
theorem n_anew4 (hN : StpN cc own nm pre n0 z0 bc bs Cal K) {pc : Nat} {ls : Lc} {st : List Vl} {μ : Al} {n q : Int} {nn idx : Nat} (hd : decode cc pc = .ok (.anewarray idx, 3)) (hw : Cond.classLink own idx RX3 ∈ gT) (hn : (nn : Int) = n) (hn2 : nn * 4 ≤ 536870912) (hc : μ.length + 1 ≤ n0 + bc) (hs : szs μ + nn ≤ z0 + bs) (hq : ((pre.length + μ.length : Nat) : Int) = q) (k_ : K (pc + 3) ls (vR 0 q :: st) (μ ++ [(4, nn, fun _ => vN)])) : K pc ls (vI n :: st) μ := hN.2.2.2.2.2.1 hd hw hn hn2 hc hs hq k_
theorem n_mna (hN : StpN cc own nm pre n0 z0 bc bs Cal K) {pc : Nat} {ls : Lc} {st : List Vl} {μ : Al} {n k q : Int} {N M idx : Nat} (hd : decode cc pc = .ok (.multianewarray idx 2, 4)) (hw : Cond.classLink own idx "[[I" ∈ gT ∧ Cond.arrayClass .int ∈ gT) (hn : (N : Int) = n) (hk : (M : Int) = k) (hb1 : N * 4 ≤ 536870912) (hb2 : M * 4 ≤ 536870912) (hc : μ.length + (1 + N) ≤ n0 + bc) (hs : szs μ + (N + N * M) ≤ z0 + bs) (hq : ((pre.length + μ.length : Nat) : Int) = q) (k_ : K (pc + 4) ls (vR 0 q :: st) (μ ++ ((5, N, fun j => if j < N then vR 0 (q + 1 + (j : Int)) else vN) :: List.replicate N (1, M, fun _ => vI 0)))) : K pc ls (vI k :: vI n :: st) μ := hN.2.2.2.2.2.2.1 hd hw hn hk hb1 hb2 hc hs hq k_
theorem n_getf (hN : StpN cc own nm pre n0 z0 bc bs Cal K) {pc : Nat} {ls : Lc} {st : List Vl} {μ : Al} {idx ci j k : Nat} {ty : FieldType} {q : Int} {f : Nat → Vl} {v : Vl} (hd : decode cc pc = .ok (.getfield idx, 3)) (hf : FLk own idx ci j ty) (hk : μ[k]? = some (0, ci, f)) (hq : ((pre.length + k : Nat) : Int) = q) (hv : f j = v) (hr : rV (vdA pre μ) v) (k_ : K (pc + 3) ls (v :: st) μ) : K pc ls (vR 0 q :: st) μ := hN.2.2.2.2.2.2.2.1 hd hf hk hq hv hr k_
theorem n_putI (hN : StpN cc own nm pre n0 z0 bc bs Cal K) {pc : Nat} {ls : Lc} {st : List Vl} {μ : Al} {idx ci j k : Nat} {q a : Int} {f : Nat → Vl} (hd : decode cc pc = .ok (.putfield idx, 3)) (hf : FLw own idx ci j .int) (hg : ∀ (C : String) (T : u_T) (N : Nat), vwCl[ci]? = some (C, T, N) → Cond.fieldLink own idx C (T j).2.1 (T j).2.2.1 ∈ gT) (hk : μ[k]? = some (0, ci, f)) (hq : ((pre.length + k : Nat) : Int) = q) (k_ : K (pc + 3) ls st (μ.set k (0, ci, updC f j (vI a)))) : K pc ls (vI a :: vR 0 q :: st) μ := hN.2.2.2.2.2.2.2.2.1 hd hf hg hk hq k_
theorem n_putR (hN : StpN cc own nm pre n0 z0 bc bs Cal K) {pc : Nat} {ls : Lc} {st : List Vl} {μ : Al} {idx ci j k : Nat} {ty : FieldType} {q a : Int} {f : Nat → Vl} (hd : decode cc pc = .ok (.putfield idx, 3)) (hf : FLf own idx ci j ty) (hm : nm = "<init>") (hg : ∀ (C : String) (T : u_T) (N : Nat), vwCl[ci]? = some (C, T, N) → Cond.fieldLink own idx C (T j).2.1 (T j).2.2.1 ∈ gT) (hk : μ[k]? = some (0, ci, f)) (hq : ((pre.length + k : Nat) : Int) = q) (hn : ∀ x : Nat, narrow ty (.ref x) = .ref x ∧ fits ty (.ref x) = true) (k_ : K (pc + 3) ls st (μ.set k (0, ci, updC f j (vR 0 a)))) : K pc ls (vR 0 a :: vR 0 q :: st) μ := hN.2.2.2.2.2.2.2.2.2.1 hd hf hm hg hk hq hn k_
theorem n_iast (hN : StpN cc own nm pre n0 z0 bc bs Cal K) {pc : Nat} {ls : Lc} {st : List Vl} {μ : Al} {k n : Nat} {q i a : Int} {f : Nat → Vl} (hd : decode cc pc = .ok (.iastore, 1)) (hk : μ[k]? = some (1, n, f)) (hq : ((pre.length + k : Nat) : Int) = q) (h0 : 0 ≤ i) (h1 : i < (n : Int)) (k_ : K (pc + 1) ls st (μ.set k (1, n, updC f i.toNat (vI a)))) : K pc ls (vI a :: vI i :: vR 0 q :: st) μ := hN.2.2.2.2.2.2.2.2.2.2.1 hd hk hq h0 h1 k_
theorem n_alen (hN : StpN cc own nm pre n0 z0 bc bs Cal K) {pc : Nat} {ls : Lc} {st : List Vl} {μ : Al} {k n : Nat} {q nz : Int} {f : Nat → Vl} (hd : decode cc pc = .ok (.arraylength, 1)) (hk : μ[k]? = some (1, n, f)) (hq : ((pre.length + k : Nat) : Int) = q) (hz : (n : Int) = nz) (hn : n < 2147483648) (k_ : K (pc + 1) ls (vI nz :: st) μ) : K pc ls (vR 0 q :: st) μ := hN.2.2.2.2.2.2.2.2.2.2.2.1 hd hk hq hz hn k_
theorem n_aast2 (hN : StpN cc own nm pre n0 z0 bc bs Cal K) {pc : Nat} {ls : Lc} {st : List Vl} {μ : Al} {k n kv : Nat} {q i qv : Int} {f fv : Nat → Vl} (hd : decode cc pc = .ok (.aastore, 1)) (hk : μ[k]? = some (2, n, f)) (hq : ((pre.length + k : Nat) : Int) = q) (h0 : 0 ≤ i) (h1 : i < (n : Int)) (hkv : μ[kv]? = some (0, 2, fv)) (hqv : ((pre.length + kv : Nat) : Int) = qv) (k_ : K (pc + 1) ls st (μ.set k (2, n, updC f i.toNat (vR 0 qv)))) : K pc ls (vR 0 qv :: vI i :: vR 0 q :: st) μ := hN.2.2.2.2.2.2.2.2.2.2.2.2.1 hd hk hq h0 h1 hkv hqv k_
theorem n_aast3 (hN : StpN cc own nm pre n0 z0 bc bs Cal K) {pc : Nat} {ls : Lc} {st : List Vl} {μ : Al} {k n kv : Nat} {q i qv : Int} {f fv : Nat → Vl} (hd : decode cc pc = .ok (.aastore, 1)) (hk : μ[k]? = some (3, n, f)) (hq : ((pre.length + k : Nat) : Int) = q) (h0 : 0 ≤ i) (h1 : i < (n : Int)) (hkv : μ[kv]? = some (0, 4, fv)) (hqv : ((pre.length + kv : Nat) : Int) = qv) (k_ : K (pc + 1) ls st (μ.set k (3, n, updC f i.toNat (vR 0 qv)))) : K pc ls (vR 0 qv :: vI i :: vR 0 q :: st) μ := hN.2.2.2.2.2.2.2.2.2.2.2.2.2.1 hd hk hq h0 h1 hkv hqv k_
theorem n_aast4 (hN : StpN cc own nm pre n0 z0 bc bs Cal K) {pc : Nat} {ls : Lc} {st : List Vl} {μ : Al} {k n kv : Nat} {q i qv : Int} {f fv : Nat → Vl} (hd : decode cc pc = .ok (.aastore, 1)) (hk : μ[k]? = some (4, n, f)) (hq : ((pre.length + k : Nat) : Int) = q) (h0 : 0 ≤ i) (h1 : i < (n : Int)) (hkv : μ[kv]? = some (0, 3, fv)) (hqv : ((pre.length + kv : Nat) : Int) = qv) (k_ : K (pc + 1) ls st (μ.set k (4, n, updC f i.toNat (vR 0 qv)))) : K pc ls (vR 0 qv :: vI i :: vR 0 q :: st) μ := hN.2.2.2.2.2.2.2.2.2.2.2.2.2.2.1 hd hk hq h0 h1 hkv hqv k_
theorem n_obj (hN : StpN cc own nm pre n0 z0 bc bs Cal K) {pc : Nat} {ls : Lc} {st : List Vl} {μ : Al} {idx : Nat} {q : Int} (hd : decode cc pc = .ok (.invokespecial idx, 3)) (hl : Cond.methodLink own idx Lib.objectInit ∈ gT ∧ Cond.instanceMethod Lib.objectInit ∈ gT ∧ Cond.code Lib.objectInit ⟨#[0xb1]⟩ 1 none ∈ gT) (hst : csum st ≤ 8) (k_ : K (pc + 3) ls st μ) : K pc ls (vR 0 q :: st) μ := hN.2.2.2.2.2.2.2.2.2.2.2.2.2.2.2.1 hd hl hst k_
theorem n_call (hN : StpN cc own nm pre n0 z0 bc bs Cal K) {pc : Nat} {ls : Lc} {rest as : List Vl} {l1 l0 : Al} {idx M : Nat} {q : Int} {mc ms : Nat} (hd : decode cc pc = .ok (.invokespecial idx, 3)) (hl : ILk own idx M) (hlen : as.length = mp M) (hcs : csum (vR 0 q :: as) ≤ ml M) (hst : csum rest ≤ 8) (hc : (l1 ++ l0).length + mc ≤ n0 + bc) (hs : szs (l1 ++ l0) + ms ≤ z0 + bs) (k_ : Cal M (vR 0 q :: as) (pre ++ l1) l0 mc ms (fun l2 => K (pc + 3) ls rest (l1 ++ l2))) : K pc ls (as.reverse ++ vR 0 q :: rest) (l1 ++ l0) := hN.2.2.2.2.2.2.2.2.2.2.2.2.2.2.2.2.1 hd hl hlen hcs hst hc hs k_
theorem n_fill (hN : StpN cc own nm pre n0 z0 bc bs Cal K) {pc : Nat} {ls : Lc} {rest as : List Vl} {l0 : Al} {idx M : Nat} (hd : decode cc pc = .ok (.invokestatic idx, 3)) (hl : TLk own idx M) (hret : mr M = none) (hlen : as.length = mp M) (hcs : csum as ≤ ml M) (hst : csum rest ≤ 8) (hc : l0.length ≤ n0 + bc) (hs : szs l0 ≤ z0 + bs) (k_ : Cal M as pre l0 0 0 (fun l2 => K (pc + 3) ls rest l2)) : K pc ls (as.reverse ++ rest) l0 := hN.2.2.2.2.2.2.2.2.2.2.2.2.2.2.2.2.2 hd hl hret hlen hcs hst hc hs k_
end AROWS
section ASND
variable {b0 n0 z0 bc bs : Nat} {cI : ClassId} {cR : Nat → ClassId} {D : va_G} {pre : Al}
variable {p : Program} {l : Launch} {e : Env} {R : Room} {s : State} {m : MethodId} {args : Array Value} {below : List Frame} {meth : Method} {c : Code} {Q : State → Prop} {nL : Nat} {cc : ByteArray} {own nm : String}
theorem stpN_Ga (CX : Cx p s m args meth c cc own nL) (CT : CAt cI cR D s) (hnm : meth.name = nm) {d : Nat} (hR : d + 1 ≤ R.frames ∧ 40 * (d + 1) ≤ R.locals) (hbc : bc ≤ R.cells) (hbs : bs ≤ R.slots) {Cal : Nat → List Vl → Al → Al → Nat → Nat → (Al → Prop) → Prop}
    (hCal : ∀ (M : Nat) (as : List Vl) (pre l0 : Al) (mc ms : Nat) (Post : Al → Prop), Cal M as pre l0 mc ms Post → csum as ≤ ml M → MOK M → mr M = none → Met l (my M) (wsM M) (rmA d mc ms) (PcA b0 cI cR D as pre l0) (QcA b0 cI cR D pre l0 mc ms Post) mc ms (Af b0)) :
    StpN cc own nm pre n0 z0 bc bs Cal (Ga b0 n0 z0 cI cR D pre p l e R s m args below meth c Q nL) := by
  have hR1 : 1 ≤ R.frames ∧ 40 ≤ R.locals := ⟨by omega, by omega⟩
  refine ⟨stpC_Gm CX, ?_, ?_, ?_, ?_, ?_, ?_, ?_, ?_, ?_, ?_, ?_, ?_, ?_, ?_, ?_, ?_, ?_⟩
  · intro pc ls st μ idx ci q hd hl hc hs hq k_
    exact ga_new CX CT hd hl (by omega) (by omega) hq k_
  · intro pc ls st μ n q nn hd hw hn hn2 hc hs hq k_
    exact ga_newa CX CT hd hw hn hn2 (by omega) (by omega) hq k_
  · intro pc ls st μ n q nn idx hd hw hn hn2 hc hs hq k_
    exact ga_anew (t := 0) CX CT hd hw CT.2.1 rfl hn hn2 (by omega) (by omega) hq k_
  · intro pc ls st μ n q nn idx hd hw hn hn2 hc hs hq k_
    exact ga_anew (t := 1) CX CT hd hw CT.2.2.1 rfl hn hn2 (by omega) (by omega) hq k_
  · intro pc ls st μ n q nn idx hd hw hn hn2 hc hs hq k_
    exact ga_anew (t := 2) CX CT hd hw CT.2.2.2.1 rfl hn hn2 (by omega) (by omega) hq k_
  · intro pc ls st μ n k q N M idx hd hw hn hk hb1 hb2 hc hs hq k_
    exact ga_mna CX CT hd hw hn hk hb1 hb2 (by omega) (by omega) hq k_
  · intro pc ls st μ idx ci j k ty q f v hd hf hk hq hv hr k_
    exact ga_getf CX CT hd hf hk hq hv hr k_
  · intro pc ls st μ idx ci j k q a f hd hf hg hk hq k_
    exact ga_put CX CT hd hf.1 (Or.inl hf.2) hk hq rfl rfl hg k_
  · intro pc ls st μ idx ci j k ty q a f hd hf hm hg hk hq hn k_
    exact ga_put CX CT hd hf.1 (Or.inr ⟨hnm.trans hm, hf.2⟩) hk hq (hn _).1 (hn _).2 hg k_
  · intro pc ls st μ k n q i a f hd hk hq h0 h1 k_
    exact ga_iast CX CT hd hk hq h0 h1 k_
  · intro pc ls st μ k n q nz f hd hk hq hz hn k_
    exact ga_alen CX CT hd hk hq hz hn k_
  · intro pc ls st μ k n kv q i qv f fv hd hk hq h0 h1 hkv hqv k_
    exact ga_aast (t := 0) CX CT hd hk hq h0 h1 hkv hqv rfl rfl k_
  · intro pc ls st μ k n kv q i qv f fv hd hk hq h0 h1 hkv hqv k_
    exact ga_aast (t := 1) CX CT hd hk hq h0 h1 hkv hqv rfl rfl k_
  · intro pc ls st μ k n kv q i qv f fv hd hk hq h0 h1 hkv hqv k_
    exact ga_aast (t := 2) CX CT hd hk hq h0 h1 hkv hqv rfl rfl k_
  · intro pc ls st μ idx q hd hl hst k_
    exact ga_obj CX hR1 hd hl hst k_
  · intro pc ls rest as l1 l0 idx M q mc ms hd hl hlen hcs hst hc hs k_
    exact ga_call CX CT hR hCal hd hl hlen hcs hst (by omega) (by omega) k_
  · intro pc ls rest as l0 idx M hd hl hret hlen hcs hst hc hs k_
    exact ga_fill CX CT hR hCal hd hl hret hlen hcs hst (by omega) (by omega) k_
end ASND
/-- what a constructor comes to: called with 'as' on cells 'pre' and then l0, it makes mc cells of ms slots -/
def WPA : Nat → Nat → List Vl → Al → Al → Nat → Nat → (Al → Prop) → Prop
  | 0, _, _, _, _, _, _, _ => False
  | d + 1, M, as, pre, l0, mc, ms, Post => ∀ K : Nat → Lc → List Vl → Al → Prop, StpA (mb M) (my M).cls (my M).name pre l0 mc ms (WPA d) Post K → K 0 (ent (ml M) as) [] l0
theorem WPA_met {b0 : Nat} {cI : ClassId} {cR : Nat → ClassId} {D : va_G} {l : Launch} : ∀ (d M : Nat) (as : List Vl) (pre l0 : Al) (mc ms : Nat) (Post : Al → Prop), WPA d M as pre l0 mc ms Post → csum as ≤ ml M → MOK M → mr M = none → Met l (my M) (wsM M) (rmA d mc ms) (PcA b0 cI cR D as pre l0) (QcA b0 cI cR D pre l0 mc ms Post) mc ms (Af b0)
  | 0, _, _, _, _, _, _, _, h, _, _, _ => h.elim
  | d + 1, M, as, pre, l0, mc, ms, Post, h, hcs, hmok, hret => by
    refine Met.ofWF (cc := mb M) (maxL := ml M) (ret := mr M) hmok.2.2.2.2.2 rfl ?_
    intro p e s m args below meth c s₁ B hml hv
    obtain ⟨rfl, hrs, hWf, hCT⟩ := hv
    have CX : Cx p s m (as.map (mv (adA b0))).toArray meth c (mb M) (my M).cls (ml M) := ⟨B.exec, B.bytes, hml, findClass_of_methodNamed B.named, fun w hw => atoms_spec (ws := wsM M) B.pre w (List.mem_cons_of_mem _ hw), hCT.2.2.2.2.2, B.notSynchronized⟩
    have hnm : meth.name = (my M).name := (name_of_methodNamed B.named B.method).1
    rw [lg_entry_eq]
    have k := h (Ga b0 l0.length (szs l0) cI cR D pre p l e (headSpec (wsM M) (rmA (d + 1) mc ms)).room s m (as.map (mv (adA b0))).toArray below meth c (MQ below (QcA b0 cI cR D pre l0 mc ms Post) (as.map (mv (adA b0))).toArray s mc ms (Af b0)) (ml M)) ⟨stpN_Ga CX hCT hnm (d := d) ⟨Nat.le_refl _, Nat.le_refl _⟩ (Nat.le_refl _) (Nat.le_refl _) (fun M as pre l0 mc ms Post h h1 h2 h3 => WPA_met d M as pre l0 mc ms Post h h1 h2 h3), fun hd hp h1 h2 => ga_ret CX (B.returns.trans hret) hd hp h1 h2⟩
      ⟨Nat.le_refl _, Nat.le_refl _⟩ (fun v hv => ent_rng hrs v hv) rS_nil s.heap [] _ hWf va_S.rf (ent_ok (adA b0) as hcs)
    have e1 : l0.length - l0.length = 0 := Nat.sub_self _
    have e2 : szs l0 - szs l0 = 0 := Nat.sub_self _
    simp only [e1, e2] at k
    exact k
-- links of the making
theorem arrI : Cond.arrayClass .int ∈ gT := List.mem_filter.mpr ⟨List.mem_append_right _ (List.mem_of_getElem? (i := 62) (by decide +kernel)), rfl⟩
theorem cl_RL_7 : Cond.classLink RL 7 RX5 ∈ gT := List.mem_filter.mpr ⟨List.mem_append_right _ (List.mem_of_getElem? (i := 12) (by decide +kernel)), rfl⟩
theorem nl_RL_7 : NLk RL 7 5 := ⟨RX5, TX5, 8, tyX5, rfl, rfl, cl_RL_7, List.mem_filter.mpr ⟨List.mem_append_right _ (List.mem_of_getElem? (i := 13) (by decide +kernel)), rfl⟩, List.mem_filter.mpr ⟨List.mem_append_right _ (List.mem_of_getElem? (i := 1) (by decide +kernel)), rfl⟩, inG5, tyX5_ok, fun j hj ad => by rcases (by omega : j = 0 ∨ j = 1 ∨ j = 2 ∨ j = 3 ∨ j = 4 ∨ j = 5 ∨ j = 6 ∨ j = 7) with rfl | rfl | rfl | rfl | rfl | rfl | rfl | rfl <;> rfl⟩
theorem ob_RX5_3 : Cond.methodLink RX5 3 Lib.objectInit ∈ gT ∧ Cond.instanceMethod Lib.objectInit ∈ gT ∧ Cond.code Lib.objectInit ⟨#[0xb1]⟩ 1 none ∈ gT := ⟨List.mem_filter.mpr ⟨List.mem_append_right _ (List.mem_of_getElem? (i := 17) (by decide +kernel)), rfl⟩, List.mem_filter.mpr ⟨List.mem_append_right _ (List.mem_of_getElem? (i := 18) (by decide +kernel)), rfl⟩, List.mem_filter.mpr ⟨List.mem_append_right _ (List.mem_of_getElem? (i := 19) (by decide +kernel)), rfl⟩⟩
theorem cl_RX5_11 : Cond.classLink RX5 11 RX2 ∈ gT := List.mem_filter.mpr ⟨List.mem_append_right _ (List.mem_of_getElem? (i := 20) (by decide +kernel)), rfl⟩
theorem nl_RX5_11 : NLk RX5 11 2 := ⟨RX2, TX2, 17, tyX2, rfl, rfl, cl_RX5_11, List.mem_filter.mpr ⟨List.mem_append_right _ (List.mem_of_getElem? (i := 24) (by decide +kernel)), rfl⟩, List.mem_filter.mpr ⟨List.mem_append_right _ (List.mem_of_getElem? (i := 2) (by decide +kernel)), rfl⟩, inG2, tyX2_ok, fun j hj ad => by rcases (by omega : j = 0 ∨ j = 1 ∨ j = 2 ∨ j = 3 ∨ j = 4 ∨ j = 5 ∨ j = 6 ∨ j = 7 ∨ j = 8 ∨ j = 9 ∨ j = 10 ∨ j = 11 ∨ j = 12 ∨ j = 13 ∨ j = 14 ∨ j = 15 ∨ j = 16) with rfl | rfl | rfl | rfl | rfl | rfl | rfl | rfl | rfl | rfl | rfl | rfl | rfl | rfl | rfl | rfl | rfl <;> rfl⟩
theorem cl_RX5_17 : Cond.classLink RX5 17 RX3 ∈ gT := List.mem_filter.mpr ⟨List.mem_append_right _ (List.mem_of_getElem? (i := 22) (by decide +kernel)), rfl⟩
theorem nl_RX5_17 : NLk RX5 17 3 := ⟨RX3, TX3, 4, tyX3, rfl, rfl, cl_RX5_17, List.mem_filter.mpr ⟨List.mem_append_right _ (List.mem_of_getElem? (i := 128) (by decide +kernel)), rfl⟩, List.mem_filter.mpr ⟨List.mem_append_right _ (List.mem_of_getElem? (i := 4) (by decide +kernel)), rfl⟩, inG3, tyX3_ok, fun j hj ad => by rcases (by omega : j = 0 ∨ j = 1 ∨ j = 2 ∨ j = 3) with rfl | rfl | rfl | rfl <;> rfl⟩
theorem ob_RX2_3 : Cond.methodLink RX2 3 Lib.objectInit ∈ gT ∧ Cond.instanceMethod Lib.objectInit ∈ gT ∧ Cond.code Lib.objectInit ⟨#[0xb1]⟩ 1 none ∈ gT := ⟨List.mem_filter.mpr ⟨List.mem_append_right _ (List.mem_of_getElem? (i := 28) (by decide +kernel)), rfl⟩, List.mem_filter.mpr ⟨List.mem_append_right _ (List.mem_of_getElem? (i := 18) (by decide +kernel)), rfl⟩, List.mem_filter.mpr ⟨List.mem_append_right _ (List.mem_of_getElem? (i := 19) (by decide +kernel)), rfl⟩⟩
theorem cl_RX2_25 : Cond.classLink RX2 25 RX0 ∈ gT := List.mem_filter.mpr ⟨List.mem_append_right _ (List.mem_of_getElem? (i := 29) (by decide +kernel)), rfl⟩
theorem nl_RX2_25 : NLk RX2 25 0 := ⟨RX0, TX0, 7, tyX0, rfl, rfl, cl_RX2_25, List.mem_filter.mpr ⟨List.mem_append_right _ (List.mem_of_getElem? (i := 30) (by decide +kernel)), rfl⟩, List.mem_filter.mpr ⟨List.mem_append_right _ (List.mem_of_getElem? (i := 3) (by decide +kernel)), rfl⟩, inG0, tyX0_ok, fun j hj ad => by rcases (by omega : j = 0 ∨ j = 1 ∨ j = 2 ∨ j = 3 ∨ j = 4 ∨ j = 5 ∨ j = 6) with rfl | rfl | rfl | rfl | rfl | rfl | rfl <;> rfl⟩
theorem ob_RX0_3 : Cond.methodLink RX0 3 Lib.objectInit ∈ gT ∧ Cond.instanceMethod Lib.objectInit ∈ gT ∧ Cond.code Lib.objectInit ⟨#[0xb1]⟩ 1 none ∈ gT := ⟨List.mem_filter.mpr ⟨List.mem_append_right _ (List.mem_of_getElem? (i := 34) (by decide +kernel)), rfl⟩, List.mem_filter.mpr ⟨List.mem_append_right _ (List.mem_of_getElem? (i := 18) (by decide +kernel)), rfl⟩, List.mem_filter.mpr ⟨List.mem_append_right _ (List.mem_of_getElem? (i := 19) (by decide +kernel)), rfl⟩⟩
theorem fg_RX0_9 : ∀ (C : String) (T : u_T) (N : Nat), vwCl[0]? = some (C, T, N) → Cond.fieldLink RX0 9 C (T 0).2.1 (T 0).2.2.1 ∈ gT := fun C T N h => by cases h; exact List.mem_filter.mpr ⟨List.mem_append_right _ (List.mem_of_getElem? (i := 35) (by decide +kernel)), rfl⟩
theorem fg_RX0_15 : ∀ (C : String) (T : u_T) (N : Nat), vwCl[0]? = some (C, T, N) → Cond.fieldLink RX0 15 C (T 1).2.1 (T 1).2.2.1 ∈ gT := fun C T N h => by cases h; exact List.mem_filter.mpr ⟨List.mem_append_right _ (List.mem_of_getElem? (i := 37) (by decide +kernel)), rfl⟩
theorem fg_RX0_18 : ∀ (C : String) (T : u_T) (N : Nat), vwCl[0]? = some (C, T, N) → Cond.fieldLink RX0 18 C (T 2).2.1 (T 2).2.2.1 ∈ gT := fun C T N h => by cases h; exact List.mem_filter.mpr ⟨List.mem_append_right _ (List.mem_of_getElem? (i := 38) (by decide +kernel)), rfl⟩
theorem fg_RX0_21 : ∀ (C : String) (T : u_T) (N : Nat), vwCl[0]? = some (C, T, N) → Cond.fieldLink RX0 21 C (T 3).2.1 (T 3).2.2.1 ∈ gT := fun C T N h => by cases h; exact List.mem_filter.mpr ⟨List.mem_append_right _ (List.mem_of_getElem? (i := 40) (by decide +kernel)), rfl⟩
theorem fg_RX0_24 : ∀ (C : String) (T : u_T) (N : Nat), vwCl[0]? = some (C, T, N) → Cond.fieldLink RX0 24 C (T 4).2.1 (T 4).2.2.1 ∈ gT := fun C T N h => by cases h; exact List.mem_filter.mpr ⟨List.mem_append_right _ (List.mem_of_getElem? (i := 42) (by decide +kernel)), rfl⟩
theorem fg_RX0_27 : ∀ (C : String) (T : u_T) (N : Nat), vwCl[0]? = some (C, T, N) → Cond.fieldLink RX0 27 C (T 5).2.1 (T 5).2.2.1 ∈ gT := fun C T N h => by cases h; exact List.mem_filter.mpr ⟨List.mem_append_right _ (List.mem_of_getElem? (i := 43) (by decide +kernel)), rfl⟩
theorem fg_RX0_30 : ∀ (C : String) (T : u_T) (N : Nat), vwCl[0]? = some (C, T, N) → Cond.fieldLink RX0 30 C (T 6).2.1 (T 6).2.2.1 ∈ gT := fun C T N h => by cases h; exact List.mem_filter.mpr ⟨List.mem_append_right _ (List.mem_of_getElem? (i := 45) (by decide +kernel)), rfl⟩
theorem fg_RX2_9 : ∀ (C : String) (T : u_T) (N : Nat), vwCl[2]? = some (C, T, N) → Cond.fieldLink RX2 9 C (T 0).2.1 (T 0).2.2.1 ∈ gT := fun C T N h => by cases h; exact List.mem_filter.mpr ⟨List.mem_append_right _ (List.mem_of_getElem? (i := 63) (by decide +kernel)), rfl⟩
theorem fg_RX2_32 : ∀ (C : String) (T : u_T) (N : Nat), vwCl[2]? = some (C, T, N) → Cond.fieldLink RX2 32 C (T 1).2.1 (T 1).2.2.1 ∈ gT := fun C T N h => by cases h; exact List.mem_filter.mpr ⟨List.mem_append_right _ (List.mem_of_getElem? (i := 65) (by decide +kernel)), rfl⟩
theorem fg_RX2_36 : ∀ (C : String) (T : u_T) (N : Nat), vwCl[2]? = some (C, T, N) → Cond.fieldLink RX2 36 C (T 2).2.1 (T 2).2.2.1 ∈ gT := fun C T N h => by cases h; exact List.mem_filter.mpr ⟨List.mem_append_right _ (List.mem_of_getElem? (i := 67) (by decide +kernel)), rfl⟩
theorem fg_RX2_39 : ∀ (C : String) (T : u_T) (N : Nat), vwCl[2]? = some (C, T, N) → Cond.fieldLink RX2 39 C (T 3).2.1 (T 3).2.2.1 ∈ gT := fun C T N h => by cases h; exact List.mem_filter.mpr ⟨List.mem_append_right _ (List.mem_of_getElem? (i := 69) (by decide +kernel)), rfl⟩
theorem fg_RX2_42 : ∀ (C : String) (T : u_T) (N : Nat), vwCl[2]? = some (C, T, N) → Cond.fieldLink RX2 42 C (T 4).2.1 (T 4).2.2.1 ∈ gT := fun C T N h => by cases h; exact List.mem_filter.mpr ⟨List.mem_append_right _ (List.mem_of_getElem? (i := 71) (by decide +kernel)), rfl⟩
theorem fg_RX2_45 : ∀ (C : String) (T : u_T) (N : Nat), vwCl[2]? = some (C, T, N) → Cond.fieldLink RX2 45 C (T 5).2.1 (T 5).2.2.1 ∈ gT := fun C T N h => by cases h; exact List.mem_filter.mpr ⟨List.mem_append_right _ (List.mem_of_getElem? (i := 72) (by decide +kernel)), rfl⟩
theorem fg_RX2_48 : ∀ (C : String) (T : u_T) (N : Nat), vwCl[2]? = some (C, T, N) → Cond.fieldLink RX2 48 C (T 6).2.1 (T 6).2.2.1 ∈ gT := fun C T N h => by cases h; exact List.mem_filter.mpr ⟨List.mem_append_right _ (List.mem_of_getElem? (i := 73) (by decide +kernel)), rfl⟩
theorem fg_RX2_15 : ∀ (C : String) (T : u_T) (N : Nat), vwCl[2]? = some (C, T, N) → Cond.fieldLink RX2 15 C (T 7).2.1 (T 7).2.2.1 ∈ gT := fun C T N h => by cases h; exact List.mem_filter.mpr ⟨List.mem_append_right _ (List.mem_of_getElem? (i := 75) (by decide +kernel)), rfl⟩
theorem ff_RX2_15 : FLf RX2 15 2 7 (.array .int) := ⟨fl_RX2_15, fun C T N h => by cases h; exact ⟨rfl, rfl⟩⟩
theorem fg_RX2_19 : ∀ (C : String) (T : u_T) (N : Nat), vwCl[2]? = some (C, T, N) → Cond.fieldLink RX2 19 C (T 8).2.1 (T 8).2.2.1 ∈ gT := fun C T N h => by cases h; exact List.mem_filter.mpr ⟨List.mem_append_right _ (List.mem_of_getElem? (i := 77) (by decide +kernel)), rfl⟩
theorem ff_RX2_19 : FLf RX2 19 2 8 (.array .int) := ⟨fl_RX2_19, fun C T N h => by cases h; exact ⟨rfl, rfl⟩⟩
theorem fg_RX2_22 : ∀ (C : String) (T : u_T) (N : Nat), vwCl[2]? = some (C, T, N) → Cond.fieldLink RX2 22 C (T 9).2.1 (T 9).2.2.1 ∈ gT := fun C T N h => by cases h; exact List.mem_filter.mpr ⟨List.mem_append_right _ (List.mem_of_getElem? (i := 79) (by decide +kernel)), rfl⟩
theorem ff_RX2_22 : FLf RX2 22 2 9 (.array .int) := ⟨fl_RX2_22, fun C T N h => by cases h; exact ⟨rfl, rfl⟩⟩
theorem fg_RX2_51 : ∀ (C : String) (T : u_T) (N : Nat), vwCl[2]? = some (C, T, N) → Cond.fieldLink RX2 51 C (T 10).2.1 (T 10).2.2.1 ∈ gT := fun C T N h => by cases h; exact List.mem_filter.mpr ⟨List.mem_append_right _ (List.mem_of_getElem? (i := 81) (by decide +kernel)), rfl⟩
theorem fg_RX2_54 : ∀ (C : String) (T : u_T) (N : Nat), vwCl[2]? = some (C, T, N) → Cond.fieldLink RX2 54 C (T 11).2.1 (T 11).2.2.1 ∈ gT := fun C T N h => by cases h; exact List.mem_filter.mpr ⟨List.mem_append_right _ (List.mem_of_getElem? (i := 83) (by decide +kernel)), rfl⟩
theorem fg_RX2_57 : ∀ (C : String) (T : u_T) (N : Nat), vwCl[2]? = some (C, T, N) → Cond.fieldLink RX2 57 C (T 12).2.1 (T 12).2.2.1 ∈ gT := fun C T N h => by cases h; exact List.mem_filter.mpr ⟨List.mem_append_right _ (List.mem_of_getElem? (i := 85) (by decide +kernel)), rfl⟩
theorem fg_RX2_60 : ∀ (C : String) (T : u_T) (N : Nat), vwCl[2]? = some (C, T, N) → Cond.fieldLink RX2 60 C (T 13).2.1 (T 13).2.2.1 ∈ gT := fun C T N h => by cases h; exact List.mem_filter.mpr ⟨List.mem_append_right _ (List.mem_of_getElem? (i := 86) (by decide +kernel)), rfl⟩
theorem fg_RX2_63 : ∀ (C : String) (T : u_T) (N : Nat), vwCl[2]? = some (C, T, N) → Cond.fieldLink RX2 63 C (T 14).2.1 (T 14).2.2.1 ∈ gT := fun C T N h => by cases h; exact List.mem_filter.mpr ⟨List.mem_append_right _ (List.mem_of_getElem? (i := 88) (by decide +kernel)), rfl⟩
theorem fg_RX2_66 : ∀ (C : String) (T : u_T) (N : Nat), vwCl[2]? = some (C, T, N) → Cond.fieldLink RX2 66 C (T 15).2.1 (T 15).2.2.1 ∈ gT := fun C T N h => by cases h; exact List.mem_filter.mpr ⟨List.mem_append_right _ (List.mem_of_getElem? (i := 89) (by decide +kernel)), rfl⟩
theorem fg_RX2_28 : ∀ (C : String) (T : u_T) (N : Nat), vwCl[2]? = some (C, T, N) → Cond.fieldLink RX2 28 C (T 16).2.1 (T 16).2.2.1 ∈ gT := fun C T N h => by cases h; exact List.mem_filter.mpr ⟨List.mem_append_right _ (List.mem_of_getElem? (i := 91) (by decide +kernel)), rfl⟩
theorem ff_RX2_28 : FLf RX2 28 2 16 (.object "SlideFold$Flip") := ⟨fl_RX2_28, fun C T N h => by cases h; exact ⟨rfl, rfl⟩⟩
theorem ob_RX3_3 : Cond.methodLink RX3 3 Lib.objectInit ∈ gT ∧ Cond.instanceMethod Lib.objectInit ∈ gT ∧ Cond.code Lib.objectInit ⟨#[0xb1]⟩ 1 none ∈ gT := ⟨List.mem_filter.mpr ⟨List.mem_append_right _ (List.mem_of_getElem? (i := 132) (by decide +kernel)), rfl⟩, List.mem_filter.mpr ⟨List.mem_append_right _ (List.mem_of_getElem? (i := 18) (by decide +kernel)), rfl⟩, List.mem_filter.mpr ⟨List.mem_append_right _ (List.mem_of_getElem? (i := 19) (by decide +kernel)), rfl⟩⟩
theorem fg_RX3_9 : ∀ (C : String) (T : u_T) (N : Nat), vwCl[3]? = some (C, T, N) → Cond.fieldLink RX3 9 C (T 0).2.1 (T 0).2.2.1 ∈ gT := fun C T N h => by cases h; exact List.mem_filter.mpr ⟨List.mem_append_right _ (List.mem_of_getElem? (i := 133) (by decide +kernel)), rfl⟩
theorem fg_RX3_15 : ∀ (C : String) (T : u_T) (N : Nat), vwCl[3]? = some (C, T, N) → Cond.fieldLink RX3 15 C (T 1).2.1 (T 1).2.2.1 ∈ gT := fun C T N h => by cases h; exact List.mem_filter.mpr ⟨List.mem_append_right _ (List.mem_of_getElem? (i := 135) (by decide +kernel)), rfl⟩
theorem fg_RX3_18 : ∀ (C : String) (T : u_T) (N : Nat), vwCl[3]? = some (C, T, N) → Cond.fieldLink RX3 18 C (T 2).2.1 (T 2).2.2.1 ∈ gT := fun C T N h => by cases h; exact List.mem_filter.mpr ⟨List.mem_append_right _ (List.mem_of_getElem? (i := 137) (by decide +kernel)), rfl⟩
theorem fg_RX3_21 : ∀ (C : String) (T : u_T) (N : Nat), vwCl[3]? = some (C, T, N) → Cond.fieldLink RX3 21 C (T 3).2.1 (T 3).2.2.1 ∈ gT := fun C T N h => by cases h; exact List.mem_filter.mpr ⟨List.mem_append_right _ (List.mem_of_getElem? (i := 139) (by decide +kernel)), rfl⟩
theorem cl_RX5_30 : Cond.classLink RX5 30 RX4 ∈ gT := List.mem_filter.mpr ⟨List.mem_append_right _ (List.mem_of_getElem? (i := 150) (by decide +kernel)), rfl⟩
theorem nl_RX5_30 : NLk RX5 30 4 := ⟨RX4, TX4, 6, tyX4, rfl, rfl, cl_RX5_30, List.mem_filter.mpr ⟨List.mem_append_right _ (List.mem_of_getElem? (i := 152) (by decide +kernel)), rfl⟩, List.mem_filter.mpr ⟨List.mem_append_right _ (List.mem_of_getElem? (i := 5) (by decide +kernel)), rfl⟩, inG4, tyX4_ok, fun j hj ad => by rcases (by omega : j = 0 ∨ j = 1 ∨ j = 2 ∨ j = 3 ∨ j = 4 ∨ j = 5) with rfl | rfl | rfl | rfl | rfl | rfl <;> rfl⟩
theorem ob_RX4_3 : Cond.methodLink RX4 3 Lib.objectInit ∈ gT ∧ Cond.instanceMethod Lib.objectInit ∈ gT ∧ Cond.code Lib.objectInit ⟨#[0xb1]⟩ 1 none ∈ gT := ⟨List.mem_filter.mpr ⟨List.mem_append_right _ (List.mem_of_getElem? (i := 156) (by decide +kernel)), rfl⟩, List.mem_filter.mpr ⟨List.mem_append_right _ (List.mem_of_getElem? (i := 18) (by decide +kernel)), rfl⟩, List.mem_filter.mpr ⟨List.mem_append_right _ (List.mem_of_getElem? (i := 19) (by decide +kernel)), rfl⟩⟩
theorem fg_RX4_9 : ∀ (C : String) (T : u_T) (N : Nat), vwCl[4]? = some (C, T, N) → Cond.fieldLink RX4 9 C (T 0).2.1 (T 0).2.2.1 ∈ gT := fun C T N h => by cases h; exact List.mem_filter.mpr ⟨List.mem_append_right _ (List.mem_of_getElem? (i := 157) (by decide +kernel)), rfl⟩
theorem fg_RX4_15 : ∀ (C : String) (T : u_T) (N : Nat), vwCl[4]? = some (C, T, N) → Cond.fieldLink RX4 15 C (T 1).2.1 (T 1).2.2.1 ∈ gT := fun C T N h => by cases h; exact List.mem_filter.mpr ⟨List.mem_append_right _ (List.mem_of_getElem? (i := 159) (by decide +kernel)), rfl⟩
theorem fg_RX4_18 : ∀ (C : String) (T : u_T) (N : Nat), vwCl[4]? = some (C, T, N) → Cond.fieldLink RX4 18 C (T 2).2.1 (T 2).2.2.1 ∈ gT := fun C T N h => by cases h; exact List.mem_filter.mpr ⟨List.mem_append_right _ (List.mem_of_getElem? (i := 161) (by decide +kernel)), rfl⟩
theorem fg_RX4_21 : ∀ (C : String) (T : u_T) (N : Nat), vwCl[4]? = some (C, T, N) → Cond.fieldLink RX4 21 C (T 3).2.1 (T 3).2.2.1 ∈ gT := fun C T N h => by cases h; exact List.mem_filter.mpr ⟨List.mem_append_right _ (List.mem_of_getElem? (i := 163) (by decide +kernel)), rfl⟩
theorem fg_RX4_25 : ∀ (C : String) (T : u_T) (N : Nat), vwCl[4]? = some (C, T, N) → Cond.fieldLink RX4 25 C (T 4).2.1 (T 4).2.2.1 ∈ gT := fun C T N h => by cases h; exact List.mem_filter.mpr ⟨List.mem_append_right _ (List.mem_of_getElem? (i := 164) (by decide +kernel)), rfl⟩
theorem fg_RX4_28 : ∀ (C : String) (T : u_T) (N : Nat), vwCl[4]? = some (C, T, N) → Cond.fieldLink RX4 28 C (T 5).2.1 (T 5).2.2.1 ∈ gT := fun C T N h => by cases h; exact List.mem_filter.mpr ⟨List.mem_append_right _ (List.mem_of_getElem? (i := 166) (by decide +kernel)), rfl⟩
theorem cl_RX5_37 : Cond.classLink RX5 37 RX1 ∈ gT := List.mem_filter.mpr ⟨List.mem_append_right _ (List.mem_of_getElem? (i := 181) (by decide +kernel)), rfl⟩
theorem nl_RX5_37 : NLk RX5 37 1 := ⟨RX1, TX1, 8, tyX1, rfl, rfl, cl_RX5_37, List.mem_filter.mpr ⟨List.mem_append_right _ (List.mem_of_getElem? (i := 182) (by decide +kernel)), rfl⟩, List.mem_filter.mpr ⟨List.mem_append_right _ (List.mem_of_getElem? (i := 6) (by decide +kernel)), rfl⟩, inG1, tyX1_ok, fun j hj ad => by rcases (by omega : j = 0 ∨ j = 1 ∨ j = 2 ∨ j = 3 ∨ j = 4 ∨ j = 5 ∨ j = 6 ∨ j = 7) with rfl | rfl | rfl | rfl | rfl | rfl | rfl | rfl <;> rfl⟩
theorem ob_RX1_3 : Cond.methodLink RX1 3 Lib.objectInit ∈ gT ∧ Cond.instanceMethod Lib.objectInit ∈ gT ∧ Cond.code Lib.objectInit ⟨#[0xb1]⟩ 1 none ∈ gT := ⟨List.mem_filter.mpr ⟨List.mem_append_right _ (List.mem_of_getElem? (i := 186) (by decide +kernel)), rfl⟩, List.mem_filter.mpr ⟨List.mem_append_right _ (List.mem_of_getElem? (i := 18) (by decide +kernel)), rfl⟩, List.mem_filter.mpr ⟨List.mem_append_right _ (List.mem_of_getElem? (i := 19) (by decide +kernel)), rfl⟩⟩
theorem fg_RX1_9 : ∀ (C : String) (T : u_T) (N : Nat), vwCl[1]? = some (C, T, N) → Cond.fieldLink RX1 9 C (T 0).2.1 (T 0).2.2.1 ∈ gT := fun C T N h => by cases h; exact List.mem_filter.mpr ⟨List.mem_append_right _ (List.mem_of_getElem? (i := 190) (by decide +kernel)), rfl⟩
theorem ff_RX1_9 : FLf RX1 9 1 0 (.array .int) := ⟨fl_RX1_9, fun C T N h => by cases h; exact ⟨rfl, rfl⟩⟩
theorem fg_RX1_15 : ∀ (C : String) (T : u_T) (N : Nat), vwCl[1]? = some (C, T, N) → Cond.fieldLink RX1 15 C (T 1).2.1 (T 1).2.2.1 ∈ gT := fun C T N h => by cases h; exact List.mem_filter.mpr ⟨List.mem_append_right _ (List.mem_of_getElem? (i := 192) (by decide +kernel)), rfl⟩
theorem ff_RX1_15 : FLf RX1 15 1 1 (.array .int) := ⟨fl_RX1_15, fun C T N h => by cases h; exact ⟨rfl, rfl⟩⟩
theorem fg_RX1_24 : ∀ (C : String) (T : u_T) (N : Nat), vwCl[1]? = some (C, T, N) → Cond.fieldLink RX1 24 C (T 2).2.1 (T 2).2.2.1 ∈ gT := fun C T N h => by cases h; exact List.mem_filter.mpr ⟨List.mem_append_right _ (List.mem_of_getElem? (i := 194) (by decide +kernel)), rfl⟩
theorem ff_RX1_24 : FLf RX1 24 1 2 (.array .int) := ⟨fl_RX1_24, fun C T N h => by cases h; exact ⟨rfl, rfl⟩⟩
theorem fg_RX1_27 : ∀ (C : String) (T : u_T) (N : Nat), vwCl[1]? = some (C, T, N) → Cond.fieldLink RX1 27 C (T 3).2.1 (T 3).2.2.1 ∈ gT := fun C T N h => by cases h; exact List.mem_filter.mpr ⟨List.mem_append_right _ (List.mem_of_getElem? (i := 195) (by decide +kernel)), rfl⟩
theorem ff_RX1_27 : FLf RX1 27 1 3 (.array .int) := ⟨fl_RX1_27, fun C T N h => by cases h; exact ⟨rfl, rfl⟩⟩
theorem fg_RX1_54 : ∀ (C : String) (T : u_T) (N : Nat), vwCl[1]? = some (C, T, N) → Cond.fieldLink RX1 54 C (T 4).2.1 (T 4).2.2.1 ∈ gT := fun C T N h => by cases h; exact List.mem_filter.mpr ⟨List.mem_append_right _ (List.mem_of_getElem? (i := 196) (by decide +kernel)), rfl⟩
theorem fg_RX1_30 : ∀ (C : String) (T : u_T) (N : Nat), vwCl[1]? = some (C, T, N) → Cond.fieldLink RX1 30 C (T 5).2.1 (T 5).2.2.1 ∈ gT := fun C T N h => by cases h; exact List.mem_filter.mpr ⟨List.mem_append_right _ (List.mem_of_getElem? (i := 197) (by decide +kernel)), rfl⟩
theorem fg_RX1_34 : ∀ (C : String) (T : u_T) (N : Nat), vwCl[1]? = some (C, T, N) → Cond.fieldLink RX1 34 C (T 6).2.1 (T 6).2.2.1 ∈ gT := fun C T N h => by cases h; exact List.mem_filter.mpr ⟨List.mem_append_right _ (List.mem_of_getElem? (i := 198) (by decide +kernel)), rfl⟩
theorem fg_RX1_37 : ∀ (C : String) (T : u_T) (N : Nat), vwCl[1]? = some (C, T, N) → Cond.fieldLink RX1 37 C (T 7).2.1 (T 7).2.2.1 ∈ gT := fun C T N h => by cases h; exact List.mem_filter.mpr ⟨List.mem_append_right _ (List.mem_of_getElem? (i := 199) (by decide +kernel)), rfl⟩
theorem cl_RX5_44 : Cond.classLink RX5 44 RX0 ∈ gT := List.mem_filter.mpr ⟨List.mem_append_right _ (List.mem_of_getElem? (i := 217) (by decide +kernel)), rfl⟩
theorem nl_RX5_44 : NLk RX5 44 0 := ⟨RX0, TX0, 7, tyX0, rfl, rfl, cl_RX5_44, List.mem_filter.mpr ⟨List.mem_append_right _ (List.mem_of_getElem? (i := 30) (by decide +kernel)), rfl⟩, List.mem_filter.mpr ⟨List.mem_append_right _ (List.mem_of_getElem? (i := 3) (by decide +kernel)), rfl⟩, inG0, tyX0_ok, fun j hj ad => by rcases (by omega : j = 0 ∨ j = 1 ∨ j = 2 ∨ j = 3 ∨ j = 4 ∨ j = 5 ∨ j = 6) with rfl | rfl | rfl | rfl | rfl | rfl | rfl <;> rfl⟩
theorem cl_RX5_51 : Cond.classLink RX5 51 "[[I" ∈ gT := List.mem_filter.mpr ⟨List.mem_append_right _ (List.mem_of_getElem? (i := 219) (by decide +kernel)), rfl⟩
theorem fg_RX5_13 : ∀ (C : String) (T : u_T) (N : Nat), vwCl[5]? = some (C, T, N) → Cond.fieldLink RX5 13 C (T 0).2.1 (T 0).2.2.1 ∈ gT := fun C T N h => by cases h; exact List.mem_filter.mpr ⟨List.mem_append_right _ (List.mem_of_getElem? (i := 221) (by decide +kernel)), rfl⟩
theorem ff_RX5_13 : FLf RX5 13 5 0 (.array (.object "SlideFold$Lane")) := ⟨fl_RX5_13, fun C T N h => by cases h; exact ⟨rfl, rfl⟩⟩
theorem fg_RX5_27 : ∀ (C : String) (T : u_T) (N : Nat), vwCl[5]? = some (C, T, N) → Cond.fieldLink RX5 27 C (T 1).2.1 (T 1).2.2.1 ∈ gT := fun C T N h => by cases h; exact List.mem_filter.mpr ⟨List.mem_append_right _ (List.mem_of_getElem? (i := 222) (by decide +kernel)), rfl⟩
theorem ff_RX5_27 : FLf RX5 27 5 1 (.array (.object "SlideFold$Lane")) := ⟨fl_RX5_27, fun C T N h => by cases h; exact ⟨rfl, rfl⟩⟩
theorem fg_RX5_32 : ∀ (C : String) (T : u_T) (N : Nat), vwCl[5]? = some (C, T, N) → Cond.fieldLink RX5 32 C (T 2).2.1 (T 2).2.2.1 ∈ gT := fun C T N h => by cases h; exact List.mem_filter.mpr ⟨List.mem_append_right _ (List.mem_of_getElem? (i := 223) (by decide +kernel)), rfl⟩
theorem ff_RX5_32 : FLf RX5 32 5 2 (.array (.object "SlideFold$Watch")) := ⟨fl_RX5_32, fun C T N h => by cases h; exact ⟨rfl, rfl⟩⟩
theorem fg_RX5_19 : ∀ (C : String) (T : u_T) (N : Nat), vwCl[5]? = some (C, T, N) → Cond.fieldLink RX5 19 C (T 3).2.1 (T 3).2.2.1 ∈ gT := fun C T N h => by cases h; exact List.mem_filter.mpr ⟨List.mem_append_right _ (List.mem_of_getElem? (i := 224) (by decide +kernel)), rfl⟩
theorem ff_RX5_19 : FLf RX5 19 5 3 (.array (.object "SlideFold$Link")) := ⟨fl_RX5_19, fun C T N h => by cases h; exact ⟨rfl, rfl⟩⟩
theorem fg_RX5_40 : ∀ (C : String) (T : u_T) (N : Nat), vwCl[5]? = some (C, T, N) → Cond.fieldLink RX5 40 C (T 4).2.1 (T 4).2.2.1 ∈ gT := fun C T N h => by cases h; exact List.mem_filter.mpr ⟨List.mem_append_right _ (List.mem_of_getElem? (i := 225) (by decide +kernel)), rfl⟩
theorem ff_RX5_40 : FLf RX5 40 5 4 (.object "SlideFold$Fold") := ⟨fl_RX5_40, fun C T N h => by cases h; exact ⟨rfl, rfl⟩⟩
theorem fg_RX5_47 : ∀ (C : String) (T : u_T) (N : Nat), vwCl[5]? = some (C, T, N) → Cond.fieldLink RX5 47 C (T 5).2.1 (T 5).2.2.1 ∈ gT := fun C T N h => by cases h; exact List.mem_filter.mpr ⟨List.mem_append_right _ (List.mem_of_getElem? (i := 226) (by decide +kernel)), rfl⟩
theorem ff_RX5_47 : FLf RX5 47 5 5 (.object "SlideFold$Flip") := ⟨fl_RX5_47, fun C T N h => by cases h; exact ⟨rfl, rfl⟩⟩
theorem fg_RX5_53 : ∀ (C : String) (T : u_T) (N : Nat), vwCl[5]? = some (C, T, N) → Cond.fieldLink RX5 53 C (T 6).2.1 (T 6).2.2.1 ∈ gT := fun C T N h => by cases h; exact List.mem_filter.mpr ⟨List.mem_append_right _ (List.mem_of_getElem? (i := 227) (by decide +kernel)), rfl⟩
theorem ff_RX5_53 : FLf RX5 53 5 6 (.array (.array .int)) := ⟨fl_RX5_53, fun C T N h => by cases h; exact ⟨rfl, rfl⟩⟩
theorem fg_RX5_56 : ∀ (C : String) (T : u_T) (N : Nat), vwCl[5]? = some (C, T, N) → Cond.fieldLink RX5 56 C (T 7).2.1 (T 7).2.2.1 ∈ gT := fun C T N h => by cases h; exact List.mem_filter.mpr ⟨List.mem_append_right _ (List.mem_of_getElem? (i := 228) (by decide +kernel)), rfl⟩
theorem ff_RX5_56 : FLf RX5 56 5 7 (.array (.array .int)) := ⟨fl_RX5_56, fun C T N h => by cases h; exact ⟨rfl, rfl⟩⟩
theorem cl_RL_10 : Cond.classLink RL 10 RX6 ∈ gT := List.mem_filter.mpr ⟨List.mem_append_right _ (List.mem_of_getElem? (i := 794) (by decide +kernel)), rfl⟩
theorem nl_RL_10 : NLk RL 10 6 := ⟨RX6, TX6, 23, tyX6, rfl, rfl, cl_RL_10, List.mem_filter.mpr ⟨List.mem_append_right _ (List.mem_of_getElem? (i := 795) (by decide +kernel)), rfl⟩, List.mem_filter.mpr ⟨List.mem_append_right _ (List.mem_of_getElem? (i := 8) (by decide +kernel)), rfl⟩, inG6, tyX6_ok, fun j hj ad => by rcases (by omega : j = 0 ∨ j = 1 ∨ j = 2 ∨ j = 3 ∨ j = 4 ∨ j = 5 ∨ j = 6 ∨ j = 7 ∨ j = 8 ∨ j = 9 ∨ j = 10 ∨ j = 11 ∨ j = 12 ∨ j = 13 ∨ j = 14 ∨ j = 15 ∨ j = 16 ∨ j = 17 ∨ j = 18 ∨ j = 19 ∨ j = 20 ∨ j = 21 ∨ j = 22) with rfl | rfl | rfl | rfl | rfl | rfl | rfl | rfl | rfl | rfl | rfl | rfl | rfl | rfl | rfl | rfl | rfl | rfl | rfl | rfl | rfl | rfl | rfl <;> rfl⟩
theorem ob_RX6_1 : Cond.methodLink RX6 1 Lib.objectInit ∈ gT ∧ Cond.instanceMethod Lib.objectInit ∈ gT ∧ Cond.code Lib.objectInit ⟨#[0xb1]⟩ 1 none ∈ gT := ⟨List.mem_filter.mpr ⟨List.mem_append_right _ (List.mem_of_getElem? (i := 799) (by decide +kernel)), rfl⟩, List.mem_filter.mpr ⟨List.mem_append_right _ (List.mem_of_getElem? (i := 18) (by decide +kernel)), rfl⟩, List.mem_filter.mpr ⟨List.mem_append_right _ (List.mem_of_getElem? (i := 19) (by decide +kernel)), rfl⟩⟩
theorem fg_RX6_7 : ∀ (C : String) (T : u_T) (N : Nat), vwCl[6]? = some (C, T, N) → Cond.fieldLink RX6 7 C (T 0).2.1 (T 0).2.2.1 ∈ gT := fun C T N h => by cases h; exact List.mem_filter.mpr ⟨List.mem_append_right _ (List.mem_of_getElem? (i := 800) (by decide +kernel)), rfl⟩
theorem ff_RX6_7 : FLf RX6 7 6 0 (.array .int) := ⟨fl_RX6_7, fun C T N h => by cases h; exact ⟨rfl, rfl⟩⟩
theorem fg_RX6_13 : ∀ (C : String) (T : u_T) (N : Nat), vwCl[6]? = some (C, T, N) → Cond.fieldLink RX6 13 C (T 1).2.1 (T 1).2.2.1 ∈ gT := fun C T N h => by cases h; exact List.mem_filter.mpr ⟨List.mem_append_right _ (List.mem_of_getElem? (i := 801) (by decide +kernel)), rfl⟩
theorem ff_RX6_13 : FLf RX6 13 6 1 (.array .int) := ⟨fl_RX6_13, fun C T N h => by cases h; exact ⟨rfl, rfl⟩⟩
theorem fg_RX6_16 : ∀ (C : String) (T : u_T) (N : Nat), vwCl[6]? = some (C, T, N) → Cond.fieldLink RX6 16 C (T 2).2.1 (T 2).2.2.1 ∈ gT := fun C T N h => by cases h; exact List.mem_filter.mpr ⟨List.mem_append_right _ (List.mem_of_getElem? (i := 802) (by decide +kernel)), rfl⟩
theorem ff_RX6_16 : FLf RX6 16 6 2 (.array .int) := ⟨fl_RX6_16, fun C T N h => by cases h; exact ⟨rfl, rfl⟩⟩
theorem fg_RX6_19 : ∀ (C : String) (T : u_T) (N : Nat), vwCl[6]? = some (C, T, N) → Cond.fieldLink RX6 19 C (T 3).2.1 (T 3).2.2.1 ∈ gT := fun C T N h => by cases h; exact List.mem_filter.mpr ⟨List.mem_append_right _ (List.mem_of_getElem? (i := 803) (by decide +kernel)), rfl⟩
theorem ff_RX6_19 : FLf RX6 19 6 3 (.array .int) := ⟨fl_RX6_19, fun C T N h => by cases h; exact ⟨rfl, rfl⟩⟩
theorem fg_RX6_22 : ∀ (C : String) (T : u_T) (N : Nat), vwCl[6]? = some (C, T, N) → Cond.fieldLink RX6 22 C (T 4).2.1 (T 4).2.2.1 ∈ gT := fun C T N h => by cases h; exact List.mem_filter.mpr ⟨List.mem_append_right _ (List.mem_of_getElem? (i := 804) (by decide +kernel)), rfl⟩
theorem ff_RX6_22 : FLf RX6 22 6 4 (.array .int) := ⟨fl_RX6_22, fun C T N h => by cases h; exact ⟨rfl, rfl⟩⟩
theorem fg_RX6_25 : ∀ (C : String) (T : u_T) (N : Nat), vwCl[6]? = some (C, T, N) → Cond.fieldLink RX6 25 C (T 5).2.1 (T 5).2.2.1 ∈ gT := fun C T N h => by cases h; exact List.mem_filter.mpr ⟨List.mem_append_right _ (List.mem_of_getElem? (i := 805) (by decide +kernel)), rfl⟩
theorem ff_RX6_25 : FLf RX6 25 6 5 (.array .int) := ⟨fl_RX6_25, fun C T N h => by cases h; exact ⟨rfl, rfl⟩⟩
theorem fg_RX6_28 : ∀ (C : String) (T : u_T) (N : Nat), vwCl[6]? = some (C, T, N) → Cond.fieldLink RX6 28 C (T 6).2.1 (T 6).2.2.1 ∈ gT := fun C T N h => by cases h; exact List.mem_filter.mpr ⟨List.mem_append_right _ (List.mem_of_getElem? (i := 806) (by decide +kernel)), rfl⟩
theorem ff_RX6_28 : FLf RX6 28 6 6 (.array .int) := ⟨fl_RX6_28, fun C T N h => by cases h; exact ⟨rfl, rfl⟩⟩
theorem fg_RX6_31 : ∀ (C : String) (T : u_T) (N : Nat), vwCl[6]? = some (C, T, N) → Cond.fieldLink RX6 31 C (T 7).2.1 (T 7).2.2.1 ∈ gT := fun C T N h => by cases h; exact List.mem_filter.mpr ⟨List.mem_append_right _ (List.mem_of_getElem? (i := 807) (by decide +kernel)), rfl⟩
theorem ff_RX6_31 : FLf RX6 31 6 7 (.array .int) := ⟨fl_RX6_31, fun C T N h => by cases h; exact ⟨rfl, rfl⟩⟩
theorem fg_RX6_105 : ∀ (C : String) (T : u_T) (N : Nat), vwCl[6]? = some (C, T, N) → Cond.fieldLink RX6 105 C (T 8).2.1 (T 8).2.2.1 ∈ gT := fun C T N h => by cases h; exact List.mem_filter.mpr ⟨List.mem_append_right _ (List.mem_of_getElem? (i := 808) (by decide +kernel)), rfl⟩
theorem fg_RX6_34 : ∀ (C : String) (T : u_T) (N : Nat), vwCl[6]? = some (C, T, N) → Cond.fieldLink RX6 34 C (T 9).2.1 (T 9).2.2.1 ∈ gT := fun C T N h => by cases h; exact List.mem_filter.mpr ⟨List.mem_append_right _ (List.mem_of_getElem? (i := 809) (by decide +kernel)), rfl⟩
theorem ff_RX6_34 : FLf RX6 34 6 9 (.array .int) := ⟨fl_RX6_34, fun C T N h => by cases h; exact ⟨rfl, rfl⟩⟩
theorem fg_RX6_37 : ∀ (C : String) (T : u_T) (N : Nat), vwCl[6]? = some (C, T, N) → Cond.fieldLink RX6 37 C (T 10).2.1 (T 10).2.2.1 ∈ gT := fun C T N h => by cases h; exact List.mem_filter.mpr ⟨List.mem_append_right _ (List.mem_of_getElem? (i := 810) (by decide +kernel)), rfl⟩
theorem ff_RX6_37 : FLf RX6 37 6 10 (.array .int) := ⟨fl_RX6_37, fun C T N h => by cases h; exact ⟨rfl, rfl⟩⟩
theorem fg_RX6_40 : ∀ (C : String) (T : u_T) (N : Nat), vwCl[6]? = some (C, T, N) → Cond.fieldLink RX6 40 C (T 11).2.1 (T 11).2.2.1 ∈ gT := fun C T N h => by cases h; exact List.mem_filter.mpr ⟨List.mem_append_right _ (List.mem_of_getElem? (i := 811) (by decide +kernel)), rfl⟩
theorem ff_RX6_40 : FLf RX6 40 6 11 (.array .int) := ⟨fl_RX6_40, fun C T N h => by cases h; exact ⟨rfl, rfl⟩⟩
theorem fg_RX6_43 : ∀ (C : String) (T : u_T) (N : Nat), vwCl[6]? = some (C, T, N) → Cond.fieldLink RX6 43 C (T 12).2.1 (T 12).2.2.1 ∈ gT := fun C T N h => by cases h; exact List.mem_filter.mpr ⟨List.mem_append_right _ (List.mem_of_getElem? (i := 812) (by decide +kernel)), rfl⟩
theorem ff_RX6_43 : FLf RX6 43 6 12 (.array .int) := ⟨fl_RX6_43, fun C T N h => by cases h; exact ⟨rfl, rfl⟩⟩
theorem fg_RX6_46 : ∀ (C : String) (T : u_T) (N : Nat), vwCl[6]? = some (C, T, N) → Cond.fieldLink RX6 46 C (T 13).2.1 (T 13).2.2.1 ∈ gT := fun C T N h => by cases h; exact List.mem_filter.mpr ⟨List.mem_append_right _ (List.mem_of_getElem? (i := 813) (by decide +kernel)), rfl⟩
theorem ff_RX6_46 : FLf RX6 46 6 13 (.array .int) := ⟨fl_RX6_46, fun C T N h => by cases h; exact ⟨rfl, rfl⟩⟩
theorem fg_RX6_49 : ∀ (C : String) (T : u_T) (N : Nat), vwCl[6]? = some (C, T, N) → Cond.fieldLink RX6 49 C (T 14).2.1 (T 14).2.2.1 ∈ gT := fun C T N h => by cases h; exact List.mem_filter.mpr ⟨List.mem_append_right _ (List.mem_of_getElem? (i := 814) (by decide +kernel)), rfl⟩
theorem ff_RX6_49 : FLf RX6 49 6 14 (.array .int) := ⟨fl_RX6_49, fun C T N h => by cases h; exact ⟨rfl, rfl⟩⟩
theorem fg_RX6_52 : ∀ (C : String) (T : u_T) (N : Nat), vwCl[6]? = some (C, T, N) → Cond.fieldLink RX6 52 C (T 15).2.1 (T 15).2.2.1 ∈ gT := fun C T N h => by cases h; exact List.mem_filter.mpr ⟨List.mem_append_right _ (List.mem_of_getElem? (i := 815) (by decide +kernel)), rfl⟩
theorem ff_RX6_52 : FLf RX6 52 6 15 (.array .int) := ⟨fl_RX6_52, fun C T N h => by cases h; exact ⟨rfl, rfl⟩⟩
theorem fg_RX6_55 : ∀ (C : String) (T : u_T) (N : Nat), vwCl[6]? = some (C, T, N) → Cond.fieldLink RX6 55 C (T 16).2.1 (T 16).2.2.1 ∈ gT := fun C T N h => by cases h; exact List.mem_filter.mpr ⟨List.mem_append_right _ (List.mem_of_getElem? (i := 816) (by decide +kernel)), rfl⟩
theorem ff_RX6_55 : FLf RX6 55 6 16 (.array .int) := ⟨fl_RX6_55, fun C T N h => by cases h; exact ⟨rfl, rfl⟩⟩
theorem fg_RX6_58 : ∀ (C : String) (T : u_T) (N : Nat), vwCl[6]? = some (C, T, N) → Cond.fieldLink RX6 58 C (T 17).2.1 (T 17).2.2.1 ∈ gT := fun C T N h => by cases h; exact List.mem_filter.mpr ⟨List.mem_append_right _ (List.mem_of_getElem? (i := 817) (by decide +kernel)), rfl⟩
theorem ff_RX6_58 : FLf RX6 58 6 17 (.array .int) := ⟨fl_RX6_58, fun C T N h => by cases h; exact ⟨rfl, rfl⟩⟩
theorem fg_RX6_61 : ∀ (C : String) (T : u_T) (N : Nat), vwCl[6]? = some (C, T, N) → Cond.fieldLink RX6 61 C (T 18).2.1 (T 18).2.2.1 ∈ gT := fun C T N h => by cases h; exact List.mem_filter.mpr ⟨List.mem_append_right _ (List.mem_of_getElem? (i := 818) (by decide +kernel)), rfl⟩
theorem ff_RX6_61 : FLf RX6 61 6 18 (.array .int) := ⟨fl_RX6_61, fun C T N h => by cases h; exact ⟨rfl, rfl⟩⟩
theorem fg_RX6_64 : ∀ (C : String) (T : u_T) (N : Nat), vwCl[6]? = some (C, T, N) → Cond.fieldLink RX6 64 C (T 19).2.1 (T 19).2.2.1 ∈ gT := fun C T N h => by cases h; exact List.mem_filter.mpr ⟨List.mem_append_right _ (List.mem_of_getElem? (i := 819) (by decide +kernel)), rfl⟩
theorem ff_RX6_64 : FLf RX6 64 6 19 (.array .int) := ⟨fl_RX6_64, fun C T N h => by cases h; exact ⟨rfl, rfl⟩⟩
theorem fg_RX6_67 : ∀ (C : String) (T : u_T) (N : Nat), vwCl[6]? = some (C, T, N) → Cond.fieldLink RX6 67 C (T 20).2.1 (T 20).2.2.1 ∈ gT := fun C T N h => by cases h; exact List.mem_filter.mpr ⟨List.mem_append_right _ (List.mem_of_getElem? (i := 820) (by decide +kernel)), rfl⟩
theorem ff_RX6_67 : FLf RX6 67 6 20 (.array .int) := ⟨fl_RX6_67, fun C T N h => by cases h; exact ⟨rfl, rfl⟩⟩
theorem fg_RX6_70 : ∀ (C : String) (T : u_T) (N : Nat), vwCl[6]? = some (C, T, N) → Cond.fieldLink RX6 70 C (T 21).2.1 (T 21).2.2.1 ∈ gT := fun C T N h => by cases h; exact List.mem_filter.mpr ⟨List.mem_append_right _ (List.mem_of_getElem? (i := 821) (by decide +kernel)), rfl⟩
theorem ff_RX6_70 : FLf RX6 70 6 21 (.array .int) := ⟨fl_RX6_70, fun C T N h => by cases h; exact ⟨rfl, rfl⟩⟩
theorem fg_RX6_73 : ∀ (C : String) (T : u_T) (N : Nat), vwCl[6]? = some (C, T, N) → Cond.fieldLink RX6 73 C (T 22).2.1 (T 22).2.2.1 ∈ gT := fun C T N h => by cases h; exact List.mem_filter.mpr ⟨List.mem_append_right _ (List.mem_of_getElem? (i := 822) (by decide +kernel)), rfl⟩
theorem ff_RX6_73 : FLf RX6 73 6 22 (.array .int) := ⟨fl_RX6_73, fun C T N h => by cases h; exact ⟨rfl, rfl⟩⟩
def sh (μ : Al) : List (Nat × Nat) := μ.map fun x => (x.1, x.2.1)
def szS (S : List (Nat × Nat)) : Nat := (S.map fun x => if x.1 = 0 then clN x.2 else x.2).sum
theorem szs_sh (μ : Al) : szs μ = szS (sh μ) := by
  unfold szs szS sh
  rw [List.map_map]
  rfl
theorem len_sh (μ : Al) : μ.length = (sh μ).length := by
  unfold sh
  rw [List.length_map]
theorem hs_sh {μ l0 : Al} {n b : Nat} (S S0 : List (Nat × Nat)) (h : sh μ = S) (h0 : sh l0 = S0) (hb : szS S + n ≤ szS S0 + b) : szs μ + n ≤ szs l0 + b := by
  rw [szs_sh, szs_sh, h, h0]
  exact hb
theorem hc_sh {μ l0 : Al} {n b : Nat} (S S0 : List (Nat × Nat)) (h : sh μ = S) (h0 : sh l0 = S0) (hb : S.length + n ≤ S0.length + b) : μ.length + n ≤ l0.length + b := by
  rw [len_sh, len_sh, h, h0]
  exact hb
theorem hq_sh {pre μ : Al} {q r : Int} (S : List (Nat × Nat)) (k : Nat) (h : sh μ = S) (hk : S.length = k) (hq : (pre.length : Int) = q) (hr : q + (k : Int) = r) : ((pre.length + μ.length : Nat) : Int) = r := by
  rw [len_sh μ, h, hk]
  omega
theorem hp_sh {pre : Al} {q r : Int} (k : Nat) (hq : (pre.length : Int) = q) (hr : q + (k : Int) = r) : ((pre.length + k : Nat) : Int) = r := by omega
theorem hl_sh {pre μ : Al} {q r : Int} (S : List (Nat × Nat)) (k : Nat) (h : sh μ = S) (hk : S.length = k) (hq : (pre.length : Int) = q) (hr : q + (k : Int) = r) : ((pre ++ μ).length : Int) = r := by
  rw [List.length_append]
  exact hq_sh S k h hk hq hr
theorem hv_sh {pre μ : Al} {q r : Int} (S : List (Nat × Nat)) (k : Nat) (h : sh μ = S) (hq : (pre.length : Int) = q) (hr : q + (k : Int) = r) (hk : k < S.length) : rV (vdA pre μ) (vR 0 r) := by
  refine Or.inr ⟨by show 0 ≤ r; omega, ?_⟩
  show r < ((pre.length + μ.length : Nat) : Int)
  rw [len_sh μ, h]
  omega
theorem r0_sh {μ l0 : Al} {n : Nat} (S S0 : List (Nat × Nat)) (h : sh μ = S) (h0 : sh l0 = S0) (hb : S.length = S0.length + n) : μ.length = l0.length + n := by
  rw [len_sh, len_sh, h, h0]
  exact hb
theorem r1_sh {μ l0 : Al} {n : Nat} (S S0 : List (Nat × Nat)) (h : sh μ = S) (h0 : sh l0 = S0) (hb : szS S = szS S0 + n) : szs μ = szs l0 + n := by
  rw [szs_sh, szs_sh, h, h0]
  exact hb
-- the constructors
theorem hs0_sh {μ l0 : Al} {b : Nat} (S S0 : List (Nat × Nat)) (h : sh μ = S) (h0 : sh l0 = S0) (hb : szS S ≤ szS S0 + b) : szs μ ≤ szs l0 + b := hs_sh (n := 0) S S0 h h0 hb
theorem hc0_sh {μ l0 : Al} {b : Nat} (S S0 : List (Nat × Nat)) (h : sh μ = S) (h0 : sh l0 = S0) (hb : S.length ≤ S0.length + b) : μ.length ≤ l0.length + b := hc_sh (n := 0) S S0 h h0 hb
theorem i_fill {d : Nat} {pre : Al} {Post : Al → Prop} {l0 : Al} {k n : Nat} {q v : Int} {f : Nat → Vl} (hk : l0[k]? = some (1, n, f)) (hq : ((pre.length + k : Nat) : Int) = q) (hn : n < 2147483648) (hp : Post (l0.set k (1, n, fun j => if j < n then vI v else f j))) : WPA (d + 1) 266 [vR 0 q, vI v] pre l0 0 0 Post := by
  intro K hK
  have hK : StpA cJ7_fill_53178 RJ7 "fill" pre l0 0 0 (WPA d) Post K := hK
  have hRet : ∀ {pc : Nat} {ls : Lc} {μ : Al}, decode cJ7_fill_53178 pc = .ok (.return_, 1) → Post μ → μ.length = l0.length + 0 → szs μ = szs l0 + 0 → K pc ls [] μ := hK.2
  have hN := hK.1
  have hC := hK.1.1
  have hlt : k < l0.length := (List.getElem?_eq_some_iff.mp hk).1
  show K 0 [some (vR 0 q), some (vI v), none, none] [] l0
  have L : ∀ (m : Nat) (i : Int) (h : Nat → Vl), 0 ≤ i → i ≤ n → (n : Int) - i < (m : Int) → (∀ j : Nat, h j = if (j : Int) < i then vI v else f j) → K 5 [some (vR 0 q), some (vI v), some (vI i), some (vI n)] [] (l0.set k (1, n, h)) := by
    intro m
    induction m with
    | zero => intro i h h0 h1 h2; omega
    | succ m ih =>
      intro i h h0 h1 h2 hh
      refine r_iload_n hC dJ7_fill_53178_5 rfl ?_
      refine r_iload_n hC dJ7_fill_53178_6 rfl ?_
      refine r_icmp_ge (tgt := 20) hC dJ7_fill_53178_7 rfl (fun hi => ?_) (fun hi => ?_)
      · have he : h = fun j => if j < n then vI v else f j := funext fun j => by
          rw [hh j]
          by_cases hj : j < n
          · rw [if_pos hj, if_pos (by omega)]
          · rw [if_neg hj, if_neg (by omega)]
        rw [he]
        exact hRet dJ7_fill_53178_20 hp (by rw [List.length_set]; rfl) (szs_set hk rfl)
      · refine r_aload_n hC dJ7_fill_53178_10 rfl ?_
        refine r_iload_n hC dJ7_fill_53178_11 rfl ?_
        refine r_iload_n hC dJ7_fill_53178_12 rfl ?_
        refine n_iast (k := k) (n := n) (f := h) hN dJ7_fill_53178_13 (List.getElem?_set_self hlt) hq h0 (by omega) ?_
        refine r_iincS hC dJ7_fill_53178_14 rfl rfl ⟨by omega, by omega⟩ ?_
        refine r_goto (tgt := 5) hC dJ7_fill_53178_17 rfl ?_
        rw [List.set_set]
        refine ih (i + 1) _ (by omega) (by omega) (by omega) (fun j => ?_)
        unfold updC
        by_cases hj : j = i.toNat
        · rw [if_pos hj, if_pos (by omega)]
        · rw [if_neg hj, hh j]
          by_cases hj2 : (j : Int) < i
          · rw [if_pos hj2, if_pos (by omega)]
          · rw [if_neg hj2, if_neg (by omega)]
  refine r_iconst hC dJ7_fill_53178_0 rfl ?_
  refine r_istore_n hC dJ7_fill_53178_1 rfl ?_
  refine r_aload_n hC dJ7_fill_53178_2 rfl ?_
  refine n_alen (nz := n) hN dJ7_fill_53178_3 hk hq rfl hn ?_
  refine r_istore_n hC dJ7_fill_53178_4 rfl ?_
  have h0 := L (n + 1) 0 f (by omega) (by omega) (by omega) (fun j => by rw [if_neg (by omega)])
  rw [show l0.set k (1, n, f) = l0 from by
    apply List.ext_getElem?
    intro j
    by_cases hj : k = j
    · subst hj; rw [List.getElem?_set_self hlt, hk]
    · rw [List.getElem?_set_ne hj]] at h0
  exact h0
theorem i_Flip {d : Nat} {pre : Al} {Post : Al → Prop} {q : Int} {f : Nat → Vl} (hq : (pre.length : Int) = q) (k : Post [(0, 0, f)]) : WPA (d + 1) 0 [vR 0 q] pre [(0, 0, f)] 0 0 Post := by
  intro K hK
  have hK : StpA cX0_init RX0 "<init>" pre [(0, 0, f)] 0 0 (WPA (d + 0)) Post K := hK
  have hRet : ∀ {pc : Nat} {ls : Lc} {μ : Al}, decode cX0_init pc = .ok (.return_, 1) → Post μ → μ.length = [((0, 0, f) : Ce)].length + 0 → szs μ = szs [((0, 0, f) : Ce)] + 0 → K pc ls [] μ := hK.2
  have hN := hK.1
  have hC := hK.1.1
  show K 0 [some (vR 0 q)] [] [(0, 0, f)]
  refine r_aload_n hC dX0_init_0 rfl ?_
  refine n_obj hN dX0_init_1 ob_RX0_3 (Nat.le_of_ble_eq_true rfl) ?_
  exact hRet dX0_init_4 k (r0_sh [(0, 0)] [(0, 0)] rfl rfl rfl) (r1_sh [(0, 0)] [(0, 0)] rfl rfl (by decide +kernel))
theorem i_Link {d : Nat} {pre : Al} {Post : Al → Prop} {q : Int} {f : Nat → Vl} (hq : (pre.length : Int) = q) (k : Post [(0, 3, updC (f) 0 (vI (-1)))]) : WPA (d + 1) 38 [vR 0 q] pre [(0, 3, f)] 0 0 Post := by
  intro K hK
  have hK : StpA cX3_init RX3 "<init>" pre [(0, 3, f)] 0 0 (WPA (d + 0)) Post K := hK
  have hRet : ∀ {pc : Nat} {ls : Lc} {μ : Al}, decode cX3_init pc = .ok (.return_, 1) → Post μ → μ.length = [((0, 3, f) : Ce)].length + 0 → szs μ = szs [((0, 3, f) : Ce)] + 0 → K pc ls [] μ := hK.2
  have hN := hK.1
  have hC := hK.1.1
  show K 0 [some (vR 0 q)] [] [(0, 3, f)]
  refine r_aload_n hC dX3_init_0 rfl ?_
  refine n_obj hN dX3_init_1 ob_RX3_3 (Nat.le_of_ble_eq_true rfl) ?_
  refine r_aload_n hC dX3_init_4 rfl ?_
  refine r_iconst hC dX3_init_5 rfl ?_
  refine n_putI (k := 0) hN dX3_init_6 fw_RX3_9 fg_RX3_9 rfl hq ?_
  exact hRet dX3_init_9 k (r0_sh [(0, 3)] [(0, 3)] rfl rfl rfl) (r1_sh [(0, 3)] [(0, 3)] rfl rfl (by decide +kernel))
theorem i_Watch {d : Nat} {pre : Al} {Post : Al → Prop} {q : Int} {f : Nat → Vl} (hq : (pre.length : Int) = q) (k : Post [(0, 4, updC (f) 0 (vI (-1)))]) : WPA (d + 1) 42 [vR 0 q] pre [(0, 4, f)] 0 0 Post := by
  intro K hK
  have hK : StpA cX4_init RX4 "<init>" pre [(0, 4, f)] 0 0 (WPA (d + 0)) Post K := hK
  have hRet : ∀ {pc : Nat} {ls : Lc} {μ : Al}, decode cX4_init pc = .ok (.return_, 1) → Post μ → μ.length = [((0, 4, f) : Ce)].length + 0 → szs μ = szs [((0, 4, f) : Ce)] + 0 → K pc ls [] μ := hK.2
  have hN := hK.1
  have hC := hK.1.1
  show K 0 [some (vR 0 q)] [] [(0, 4, f)]
  refine r_aload_n hC dX4_init_0 rfl ?_
  refine n_obj hN dX4_init_1 ob_RX4_3 (Nat.le_of_ble_eq_true rfl) ?_
  refine r_aload_n hC dX4_init_4 rfl ?_
  refine r_iconst hC dX4_init_5 rfl ?_
  refine n_putI (k := 0) hN dX4_init_6 fw_RX4_9 fg_RX4_9 rfl hq ?_
  exact hRet dX4_init_9 k (r0_sh [(0, 4)] [(0, 4)] rfl rfl rfl) (r1_sh [(0, 4)] [(0, 4)] rfl rfl (by decide +kernel))
theorem i_Lane {d : Nat} {pre : Al} {Post : Al → Prop} {q : Int} {a : Int} {f : Nat → Vl} (hq : (pre.length : Int) = q) (k : Post [(0, 2, updC (updC (updC (updC (updC (f) 0 (vI a)) 7 (vR 0 (q + 1))) 8 (vR 0 (q + 2))) 9 (vR 0 (q + 3))) 16 (vR 0 (q + 4))),
    (1, 121, fun _ => vI 0),
    (1, 121, fun _ => vI 0),
    (1, 121, fun _ => vI 0),
    (0, 0, dfl 0)]) : WPA (d + 2) 25 [vR 0 q, vI a] pre [(0, 2, f)] 4 370 Post := by
  intro K hK
  have hK : StpA cX2_init RX2 "<init>" pre [(0, 2, f)] 4 370 (WPA (d + 1)) Post K := hK
  have hRet : ∀ {pc : Nat} {ls : Lc} {μ : Al}, decode cX2_init pc = .ok (.return_, 1) → Post μ → μ.length = [((0, 2, f) : Ce)].length + 4 → szs μ = szs [((0, 2, f) : Ce)] + 370 → K pc ls [] μ := hK.2
  have hN := hK.1
  have hC := hK.1.1
  show K 0 [some (vR 0 q), some (vI a)] [] [(0, 2, f)]
  refine r_aload_n hC dX2_init_0 rfl ?_
  refine n_obj hN dX2_init_1 ob_RX2_3 (Nat.le_of_ble_eq_true rfl) ?_
  refine r_aload_n hC dX2_init_4 rfl ?_
  refine r_iload_n hC dX2_init_5 rfl ?_
  refine n_putI (k := 0) hN dX2_init_6 fw_RX2_9 fg_RX2_9 rfl hq ?_
  refine r_aload_n hC dX2_init_9 rfl ?_
  refine r_bipush hC dX2_init_10 rfl ?_
  refine n_newa (nn := 121) (q := q + 1) hN dX2_init_12 arrI rfl (by decide) (hc_sh [(0, 2)] [(0, 2)] rfl rfl (by decide)) (hs_sh [(0, 2)] [(0, 2)] rfl rfl (by decide +kernel)) (hq_sh [(0, 2)] 1 rfl rfl hq rfl) ?_
  refine n_putR (k := 0) hN dX2_init_14 ff_RX2_15 rfl fg_RX2_15 rfl hq (fun _ => ⟨rfl, rfl⟩) ?_
  refine r_aload_n hC dX2_init_17 rfl ?_
  refine r_bipush hC dX2_init_18 rfl ?_
  refine n_newa (nn := 121) (q := q + 2) hN dX2_init_20 arrI rfl (by decide) (hc_sh [(0, 2), (1, 121)] [(0, 2)] rfl rfl (by decide)) (hs_sh [(0, 2), (1, 121)] [(0, 2)] rfl rfl (by decide +kernel)) (hq_sh [(0, 2), (1, 121)] 2 rfl rfl hq rfl) ?_
  refine n_putR (k := 0) hN dX2_init_22 ff_RX2_19 rfl fg_RX2_19 rfl hq (fun _ => ⟨rfl, rfl⟩) ?_
  refine r_aload_n hC dX2_init_25 rfl ?_
  refine r_bipush hC dX2_init_26 rfl ?_
  refine n_newa (nn := 121) (q := q + 3) hN dX2_init_28 arrI rfl (by decide) (hc_sh [(0, 2), (1, 121), (1, 121)] [(0, 2)] rfl rfl (by decide)) (hs_sh [(0, 2), (1, 121), (1, 121)] [(0, 2)] rfl rfl (by decide +kernel)) (hq_sh [(0, 2), (1, 121), (1, 121)] 3 rfl rfl hq rfl) ?_
  refine n_putR (k := 0) hN dX2_init_30 ff_RX2_22 rfl fg_RX2_22 rfl hq (fun _ => ⟨rfl, rfl⟩) ?_
  refine r_aload_n hC dX2_init_33 rfl ?_
  refine n_new (q := q + 4) hN dX2_init_34 nl_RX2_25 (hc_sh [(0, 2), (1, 121), (1, 121), (1, 121)] [(0, 2)] rfl rfl (by decide)) (hs_sh [(0, 2), (1, 121), (1, 121), (1, 121)] [(0, 2)] rfl rfl (by decide +kernel)) (hq_sh [(0, 2), (1, 121), (1, 121), (1, 121)] 4 rfl rfl hq rfl) ?_
  refine r_dup hC dX2_init_37 rfl ?_
  refine n_call (as := []) (l0 := [_]) (mc := 0) (ms := 0) hN dX2_init_38 il_RX2_27 rfl (Nat.le_of_ble_eq_true rfl) (Nat.le_of_ble_eq_true rfl) (hc_sh [(0, 2), (1, 121), (1, 121), (1, 121), (0, 0)] [(0, 2)] rfl rfl (by decide)) (hs_sh [(0, 2), (1, 121), (1, 121), (1, 121), (0, 0)] [(0, 2)] rfl rfl (by decide +kernel)) ?_
  refine i_Flip (hl_sh [(0, 2), (1, 121), (1, 121), (1, 121)] 4 rfl rfl hq rfl) ?_
  refine n_putR (k := 0) hN dX2_init_41 ff_RX2_28 rfl fg_RX2_28 rfl hq (fun _ => ⟨rfl, rfl⟩) ?_
  exact hRet dX2_init_44 k (r0_sh [(0, 2), (1, 121), (1, 121), (1, 121), (0, 0)] [(0, 2)] rfl rfl rfl) (r1_sh [(0, 2), (1, 121), (1, 121), (1, 121), (0, 0)] [(0, 2)] rfl rfl (by decide +kernel))
theorem i_Fold {d : Nat} {pre : Al} {Post : Al → Prop} {q : Int} {f : Nat → Vl} (hq : (pre.length : Int) = q) (k : Post [(0, 1, updC (updC (updC (updC (f) 0 (vR 0 (q + 1))) 1 (vR 0 (q + 2))) 2 (vR 0 (q + 3))) 3 (vR 0 (q + 4))),
    (1, 16, fun _ => vI 0),
    (1, 8, fun j => if j < 8 then vI 228 else (fun _ => vI 0) j),
    (1, 7, fun _ => vI 0),
    (1, 7, fun _ => vI 0)]) : WPA (d + 2) 8 [vR 0 q] pre [(0, 1, f)] 4 38 Post := by
  intro K hK
  have hK : StpA cX1_init RX1 "<init>" pre [(0, 1, f)] 4 38 (WPA (d + 1)) Post K := hK
  have hRet : ∀ {pc : Nat} {ls : Lc} {μ : Al}, decode cX1_init pc = .ok (.return_, 1) → Post μ → μ.length = [((0, 1, f) : Ce)].length + 4 → szs μ = szs [((0, 1, f) : Ce)] + 38 → K pc ls [] μ := hK.2
  have hN := hK.1
  have hC := hK.1.1
  show K 0 [some (vR 0 q)] [] [(0, 1, f)]
  refine r_aload_n hC dX1_init_0 rfl ?_
  refine n_obj hN dX1_init_1 ob_RX1_3 (Nat.le_of_ble_eq_true rfl) ?_
  refine r_aload_n hC dX1_init_4 rfl ?_
  refine r_bipush hC dX1_init_5 rfl ?_
  refine n_newa (nn := 16) (q := q + 1) hN dX1_init_7 arrI rfl (by decide) (hc_sh [(0, 1)] [(0, 1)] rfl rfl (by decide)) (hs_sh [(0, 1)] [(0, 1)] rfl rfl (by decide +kernel)) (hq_sh [(0, 1)] 1 rfl rfl hq rfl) ?_
  refine n_putR (k := 0) hN dX1_init_9 ff_RX1_9 rfl fg_RX1_9 rfl hq (fun _ => ⟨rfl, rfl⟩) ?_
  refine r_aload_n hC dX1_init_12 rfl ?_
  refine r_bipush hC dX1_init_13 rfl ?_
  refine n_newa (nn := 8) (q := q + 2) hN dX1_init_15 arrI rfl (by decide) (hc_sh [(0, 1), (1, 16)] [(0, 1)] rfl rfl (by decide)) (hs_sh [(0, 1), (1, 16)] [(0, 1)] rfl rfl (by decide +kernel)) (hq_sh [(0, 1), (1, 16)] 2 rfl rfl hq rfl) ?_
  refine n_putR (k := 0) hN dX1_init_17 ff_RX1_15 rfl fg_RX1_15 rfl hq (fun _ => ⟨rfl, rfl⟩) ?_
  refine r_aload_n hC dX1_init_20 rfl ?_
  refine n_getf (k := 0) (v := vR 0 (q + 2)) hN dX1_init_21 fl_RX1_15 rfl hq rfl (hv_sh [(0, 1), (1, 16), (1, 8)] 2 rfl hq rfl (by decide)) ?_
  refine r_sipush hC dX1_init_24 rfl ?_
  refine n_fill (as := [vR 0 (q + 2), vI 228]) hN dX1_init_27 tl_RX1_18 rfl rfl (Nat.le_of_ble_eq_true rfl) (Nat.le_of_ble_eq_true rfl) (hc0_sh (b := 4) [(0, 1), (1, 16), (1, 8)] [(0, 1)] rfl rfl (by decide)) (hs0_sh (b := 38) [(0, 1), (1, 16), (1, 8)] [(0, 1)] rfl rfl (by decide +kernel)) ?_
  refine i_fill (k := 2) (q := q + 2) rfl (hp_sh 2 hq rfl) (by decide) ?_
  refine r_aload_n hC dX1_init_30 rfl ?_
  refine r_bipush hC dX1_init_31 rfl ?_
  refine n_newa (nn := 7) (q := q + 3) hN dX1_init_33 arrI rfl (by decide) (hc_sh [(0, 1), (1, 16), (1, 8)] [(0, 1)] rfl rfl (by decide)) (hs_sh [(0, 1), (1, 16), (1, 8)] [(0, 1)] rfl rfl (by decide +kernel)) (hq_sh [(0, 1), (1, 16), (1, 8)] 3 rfl rfl hq rfl) ?_
  refine n_putR (k := 0) hN dX1_init_35 ff_RX1_24 rfl fg_RX1_24 rfl hq (fun _ => ⟨rfl, rfl⟩) ?_
  refine r_aload_n hC dX1_init_38 rfl ?_
  refine r_bipush hC dX1_init_39 rfl ?_
  refine n_newa (nn := 7) (q := q + 4) hN dX1_init_41 arrI rfl (by decide) (hc_sh [(0, 1), (1, 16), (1, 8), (1, 7)] [(0, 1)] rfl rfl (by decide)) (hs_sh [(0, 1), (1, 16), (1, 8), (1, 7)] [(0, 1)] rfl rfl (by decide +kernel)) (hq_sh [(0, 1), (1, 16), (1, 8), (1, 7)] 4 rfl rfl hq rfl) ?_
  refine n_putR (k := 0) hN dX1_init_43 ff_RX1_27 rfl fg_RX1_27 rfl hq (fun _ => ⟨rfl, rfl⟩) ?_
  exact hRet dX1_init_46 k (r0_sh [(0, 1), (1, 16), (1, 8), (1, 7), (1, 7)] [(0, 1)] rfl rfl rfl) (r1_sh [(0, 1), (1, 16), (1, 8), (1, 7), (1, 7)] [(0, 1)] rfl rfl (by decide +kernel))
