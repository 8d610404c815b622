-- the memory while the objects are made: cells in the order of their making
abbrev Ce : Type := Nat × Nat × (Nat → Vl)
abbrev Al : Type := List Ce
/-- kind 77: an address as it is -/
def adA (b0 : Nat) : Nat → Int → Nat := fun c i => match c with
  | 77 => i.toNat
  | _ => b0 + i.toNat
def toI : Vl → Int
  | .inl a => a
  | _ => 0
def toR (b0 : Nat) : Vl → Option Nat
  | .inr (.inl (some q)) => some (b0 + q.2.toNat)
  | _ => none
def updC (f : Nat → Vl) (k : Nat) (v : Vl) : Nat → Vl := fun j => if j = k then v else f j
def cA (b0 : Nat) (cI : ClassId) (cR : Nat → ClassId) (x : Ce) : va_E := match x.1 with
  | 0 => .inr (x.2.1, (List.range (clN x.2.1)).map fun k => mv (adA b0) (x.2.2 k))
  | 1 => .inl (cI, x.2.1, .inl (fun j => i3 (toI (x.2.2 j))))
  | t => .inl (cR t, x.2.1, .inr (.inr (.inr (.inr (fun j => toR b0 (x.2.2 j))))))
def wsA (b0 : Nat) (cI : ClassId) (cR : Nat → ClassId) (μ : Al) : va_W := μ.zipIdx.map (fun q => (b0 + q.2, cA b0 cI cR q.1))
theorem wsA_get {b0 : Nat} {cI : ClassId} {cR : Nat → ClassId} {μ : Al} {k : Nat} : (wsA b0 cI cR μ)[k]? = (μ[k]?).map fun x => (b0 + k, cA b0 cI cR x) := by
  unfold wsA
  rw [List.getElem?_map, List.getElem?_zipIdx]
  cases μ[k]? with
  | none => rfl
  | some x => simp
theorem wsA_at {b0 : Nat} {cI : ClassId} {cR : Nat → ClassId} {μ : Al} {k : Nat} {x : Ce} (h : μ[k]? = some x) : (wsA b0 cI cR μ)[k]? = some (b0 + k, cA b0 cI cR x) := by
  rw [wsA_get, h]
  rfl
theorem wsA_set {b0 : Nat} {cI : ClassId} {cR : Nat → ClassId} {μ : Al} {k : Nat} {x y : Ce} (h : μ[k]? = some x) : (wsA b0 cI cR μ).set k (b0 + k, cA b0 cI cR y) = wsA b0 cI cR (μ.set k y) := by
  have hlt := (List.getElem?_eq_some_iff.mp h).1
  have hl2 : k < (wsA b0 cI cR μ).length := (List.getElem?_eq_some_iff.mp (wsA_at h)).1
  apply List.ext_getElem?
  intro n
  by_cases hn : k = n
  · subst hn
    rw [List.getElem?_set_self hl2, wsA_get, List.getElem?_set_self hlt]
    rfl
  · rw [List.getElem?_set_ne hn, wsA_get, wsA_get, List.getElem?_set_ne hn]
theorem wsA_app {b0 : Nat} {cI : ClassId} {cR : Nat → ClassId} {μ : Al} {x : Ce} : wsA b0 cI cR (μ ++ [x]) = wsA b0 cI cR μ ++ [(b0 + μ.length, cA b0 cI cR x)] := by
  unfold wsA
  rw [List.zipIdx_append, List.map_append]
  simp
theorem wsA_D {b0 : Nat} {cI : ClassId} {cR : Nat → ClassId} {μ : Al} {A : Nat → Prop} (hA : ∀ q, b0 ≤ q → A q) : va_D A (wsA b0 cI cR μ) := by
  have key : ∀ (k : Nat) (q : Nat × va_E), (wsA b0 cI cR μ)[k]? = some q → q.1 = b0 + k := fun k q h => by
    rw [wsA_get] at h
    cases hx : μ[k]? with
    | none => rw [hx] at h; cases h
    | some x => rw [hx] at h; cases h; rfl
  refine ⟨fun i j p q hi hj he => ?_, fun k q h => hA _ (by have := key k q h; omega)⟩
  have h1 := key i p hi
  have h2 := key j q hj
  omega
def szC (x : Ce) : Nat := if x.1 = 0 then clN x.2.1 else x.2.1
def szs (μ : Al) : Nat := (μ.map szC).sum
theorem szs_app {a b : Al} : szs (a ++ b) = szs a + szs b := by simp [szs]
theorem szs_set {μ : Al} {k : Nat} {x y : Ce} (h : μ[k]? = some x) (hs : szC y = szC x) : szs (μ.set k y) = szs μ := by
  unfold szs
  rw [List.map_set]
  congr 1
  have hlt := (List.getElem?_eq_some_iff.mp h).1
  apply List.ext_getElem?
  intro n
  by_cases hn : k = n
  · subst hn
    rw [List.getElem?_set_self (by simpa using hlt), List.getElem?_map, h, hs]
    rfl
  · rw [List.getElem?_set_ne hn]
def vdA (pre l : Al) : Nat × Int → Prop := fun q => q.1 = 77 ∨ (0 ≤ q.2 ∧ q.2 < ((pre.length + l.length : Nat) : Int))
def WA (b0 : Nat) (cI : ClassId) (cR : Nat → ClassId) (D : va_G) (pre l : Al) (H : Heap) : Prop := va_P D vwCl (wsA b0 cI cR (pre ++ l)) H ∧ H.size = b0 + (pre.length + l.length)
/-- what holds of the tables throughout -/
def CAt (cI : ClassId) (cR : Nat → ClassId) (D : va_G) (U : State) : Prop := va_K D vwCl (tysT cI cR) U ∧ va_AO RX2 U ∧ va_AO RX4 U ∧ va_AO RX3 U ∧ (Cond.arrayOver (.array .int)).before #[] U = true ∧ (∀ w ∈ nT, va_Nw w U)
/-- the default of a field -/
def dfl (ci k : Nat) : Vl := match ci, k with
  | 0, _ => vI 0
  | 1, 0 => vN | 1, 1 => vN | 1, 2 => vN | 1, 3 => vN
  | 1, _ => vI 0
  | 2, 7 => vN | 2, 8 => vN | 2, 9 => vN | 2, 16 => vN
  | 2, _ => vI 0
  | 3, _ => vI 0
  | 4, _ => vI 0
  | 5, _ => vN
  | 6, 8 => vI 0
  | _, _ => vN
theorem aoA_moved {u U : State} (hvm : u.vm.Alike U.vm) (h : (Cond.arrayOver (.array .int)).before #[] u = true) : (Cond.arrayOver (.array .int)).before #[] U = true := by
  have h1 : (Cond.arrayOver (.array .int)).before #[] (u.setVm U.vm) = true := (Cond.arrayOver_setVmC hvm (.array .int)).trans h
  exact h1
theorem CAt.moved {cI : ClassId} {cR : Nat → ClassId} {D : va_G} {u U : State} (h : CAt cI cR D u) (hW : u.WarmedH U.vm) : CAt cI cR D U :=
  ⟨h.1.moved hW.alike, h.2.1.moved hW.alike, h.2.2.1.moved hW.alike, h.2.2.2.1.moved hW.alike, aoA_moved hW.alike h.2.2.2.2.1, nT_moved h.2.2.2.2.2 hW⟩
-- the rules of making
theorem pre_get {pre l : Al} {k : Nat} : (pre ++ l)[pre.length + k]? = l[k]? := by
  rw [List.getElem?_append_right (Nat.le_add_right _ _), Nat.add_sub_cancel_left]
theorem pre_set {pre l : Al} {k : Nat} {y : Ce} : (pre ++ l).set (pre.length + k) y = pre ++ l.set k y := by
  rw [List.set_append_right _ _ (Nat.le_add_right _ _), Nat.add_sub_cancel_left]
theorem vdA_app {pre l l2 : Al} {q : Nat × Int} (h : vdA pre l q) : vdA pre (l ++ l2) q := h.imp id fun h => ⟨h.1, by have := h.2; simp only [List.length_append] at *; omega⟩
theorem vdA_set {pre l : Al} {k : Nat} {y : Ce} {q : Nat × Int} (h : vdA pre l q) : vdA pre (l.set k y) q := h.imp id fun h => ⟨h.1, by rw [List.length_set]; exact h.2⟩
theorem rV_mono {P P' : Nat × Int → Prop} (h : ∀ q, P q → P' q) {v : Vl} (hv : rV P v) : rV P' v := by
  rcases v with a | (_ | q) | a
  · exact hv
  · trivial
  · exact h q hv
  · exact hv
theorem rS_mono {P P' : Nat × Int → Prop} (h : ∀ q, P q → P' q) {st : List Vl} (hv : rS P st) : rS P' st := fun v hv2 => rV_mono h (hv v hv2)
def NLk (own : String) (idx ci : Nat) : Prop := ∃ (C : String) (T : u_T) (N : Nat) (ty : Nat → FieldType), vwCl[ci]? = some (C, T, N) ∧ N = clN ci ∧ Cond.classLink own idx C ∈ gT ∧ Cond.instantiable C N ∈ gT ∧ Cond.initialized C ∈ gT ∧ (∀ w ∈ u_ws C T N, w ∈ gT) ∧ (∀ k, k < N → parseFieldDescriptor (T k).2.2.1 = some (ty k)) ∧ ∀ j, j < N → ∀ ad : Nat → Int → Nat, defaultValue (ty j) = mv ad (dfl ci j)
def rmA (d mc ms : Nat) : Room := { frames := d, cells := mc, slots := ms, locals := 40 * d }
abbrev Af (b0 : Nat) : Nat → Prop := fun q => b0 ≤ q
def PcA (b0 : Nat) (cI : ClassId) (cR : Nat → ClassId) (D : va_G) (as : List Vl) (pre l : Al) : Array Value → State → Prop :=
  va_Pc (as.map (mv (adA b0))) (fun U => rS (vdA pre l) as ∧ WA b0 cI cR D pre l U.heap ∧ CAt cI cR D U)
def QcA (b0 : Nat) (cI : ClassId) (cR : Nat → ClassId) (D : va_G) (pre l : Al) (mc ms : Nat) (Post : Al → Prop) : Array Value → State → Outcome → State → Prop :=
  fun _ st oc t => (∃ l2 : Al, oc = .returned none ∧ Post l2 ∧ l2.length = l.length + mc ∧ szs l2 = szs l + ms ∧ WA b0 cI cR D pre l2 t.heap) ∧ va_F (Af b0) st t
theorem PcA_blind {b0 : Nat} {cI : ClassId} {cR : Nat → ClassId} {D : va_G} {as : List Vl} {pre l : Al} : FrameBlind (PcA b0 cI cR D as pre l) := by
  intro a U g mk h
  obtain ⟨h1, h2, h3, h4, h5, h6, h7, h8, h9⟩ := h
  have hr := Vm.Alike.refl U.vm
  exact ⟨h1, h2, h3, va_K.moved (u := U) (U := U.calling g mk a) hr h4, va_AO.moved (u := U) (U := U.calling g mk a) hr h5, va_AO.moved (u := U) (U := U.calling g mk a) hr h6, va_AO.moved (u := U) (U := U.calling g mk a) hr h7, aoA_moved (u := U) (U := U.calling g mk a) hr h8, nT_same h9 rfl⟩
section GAL
variable {b0 n0 z0 : Nat} {cI : ClassId} {cR : Nat → ClassId} {D : va_G} {pre : Al}
variable {p : Program} {l : Launch} {e : Env} {R : Room} {s : State} {m : MethodId} {args : Array Value} {below : List Frame} {meth : Method} {c : Code} {Q : State → Prop} {nL : Nat} {cc : ByteArray} {own : String}
abbrev Ga (b0 n0 z0 : Nat) (cI : ClassId) (cR : Nat → ClassId) (D : va_G) (pre : Al) (p : Program) (l : Launch) (e : Env) (R : Room) (s : State) (m : MethodId) (args : Array Value) (below : List Frame) (meth : Method) (c : Code) (Q : State → Prop) (nL : Nat) : Nat → Lc → List Vl → Al → Prop :=
  Gm (adA b0) (vdA pre) (WA b0 cI cR D pre) (fun μ => μ.length - n0) (fun μ => szs μ - z0) (fun μ => n0 ≤ μ.length ∧ z0 ≤ szs μ) p l e R s m args below meth c (Af b0) Q nL
/-- one cell more -/
theorem ga_push {H H1 : Heap} {locs : List Loc} {μ : Al} {x : Ce} {pc : Nat} {ls : Lc} {lsA : Array Slot} {st : List Vl} {q : Int} {cs ss : Nat}
    (g1 : n0 ≤ μ.length ∧ z0 ≤ szs μ) (g2 : ∀ v : Vl, some v ∈ ls → rV (vdA pre μ) v) (g3 : rS (vdA pre μ) st) (g4 : WA b0 cI cR D pre μ H) (g5 : va_S (Af b0) s.heap H locs) (g6 : lOK (adA b0) nL ls lsA)
    (hq : ((pre.length + μ.length : Nat) : Int) = q) (z1 : H1.size = H.size + 1) (o1 : ∀ a : Nat, a < H.size → H1[a]? = H[a]?) (hx : va_at D vwCl (H.size, cA b0 cI cR x) H1) (hc : cs = μ.length - n0 + 1) (hs : ss = szs μ - z0 + szC x)
    (kk : Ga b0 n0 z0 cI cR D pre p l e R s m args below meth c Q nL pc ls (vR 0 q :: st) (μ ++ [x])) : W p l e R s m args below meth c H1 locs cs ss Q (F0 m pc lsA (.ref H.size :: st.map (mv (adA b0)))) := by
  have hl : (μ ++ [x]).length = μ.length + 1 := by simp
  have hz : szs (μ ++ [x]) = szs μ + szC x := by simp [szs]
  have hHs := g4.2
  have k' := kk ⟨by omega, by omega⟩ (fun v hv => rV_mono (fun q h => vdA_app h) (g2 v hv)) (rS_cons.mpr ⟨(show vdA pre (μ ++ [x]) (0, q) from Or.inr ⟨by show 0 ≤ q; omega, by show q < _; rw [hl]; omega⟩), rS_mono (fun q h => vdA_app h) g3⟩) H1 locs lsA ⟨by
      rw [← List.append_assoc, wsA_app]
      refine va_P.app (g4.1.kept fun k y hy => o1 _ (g4.1 k y hy).lt) (fun k y hy => ?_)
      have hk : k < 1 := (List.getElem?_eq_some_iff.mp hy).1
      rw [show k = 0 by omega] at hy
      cases hy
      rw [List.length_append, ← g4.2]
      exact hx, by rw [z1, g4.2, hl]; omega⟩ ⟨Nat.le_trans g5.1 (by omega), fun a h1 h2 => (o1 a (Nat.lt_of_lt_of_le h1 g5.1)).trans (g5.2.1 a h1 h2), g5.2.2⟩ g6
  have e1 : (μ ++ [x]).length - n0 = cs := by rw [hl, hc]; omega
  have e2 : szs (μ ++ [x]) - z0 = ss := by rw [hz, hs]; omega
  have e3 : List.map (mv (adA b0)) (vR 0 q :: st) = Value.ref H.size :: st.map (mv (adA b0)) := by
    rw [List.map_cons]
    exact congrArg (fun z : Value => z :: st.map (mv (adA b0))) (congrArg Value.ref (by omega : b0 + q.toNat = H.size))
  rw [e3] at k'
  rw [← e1, ← e2]
  exact k'
theorem ga_new (CX : Cx p s m args meth c cc own nL) (CT : CAt cI cR D s) {pc : Nat} {ls : Lc} {st : List Vl} {μ : Al} {idx ci : Nat} {q : Int}
    (hd : decode cc pc = .ok (.new idx, 3)) (hl : NLk own idx ci) (hc : μ.length + 1 ≤ n0 + R.cells) (hs : szs μ + clN ci ≤ z0 + R.slots) (hq : ((pre.length + μ.length : Nat) : Int) = q)
    (kk : Ga b0 n0 z0 cI cR D pre p l e R s m args below meth c Q nL (pc + 3) ls (vR 0 q :: st) (μ ++ [(0, ci, dfl ci)])) : Ga b0 n0 z0 cI cR D pre p l e R s m args below meth c Q nL pc ls st μ := by
  obtain ⟨hx, hb, hml, hown, hts, hnest, hlk⟩ := CX
  obtain ⟨C, T, N, ty, hci, hN, hcl, hinst, hini, hin, hty, hdf⟩ := hl
  intro g1 g2 g3 H locs lsA g4 g5 g6
  have hKn := CT.1.1 ci _ hci
  refine W.newcK hx hb hown (hts _ hcl) (hts _ hinst) (hts _ hini) rfl hd (by show μ.length - n0 + 1 ≤ _; omega) (by show szs μ - z0 + N ≤ _; omega) hKn.2.1 rfl fun H1 kC hkC e1 z1 o1 => ?_
  refine ga_push g1 g2 g3 g4 g5 g6 hq z1 o1 ?_ rfl (by rw [hN]; rfl) kk
  exact ⟨_, hci, (u_born ty hts hin hKn hkC e1 hty).to fun j hj => by
    rw [hdf j hj (adA b0)]
    show _ = ((List.range (clN ci)).map fun k => mv (adA b0) (dfl ci k)).getD j .null
    rw [List.getD_eq_getElem?_getD, List.getElem?_map, List.getElem?_range (by rw [← hN]; exact hj)]
    rfl⟩
theorem ga_newa (CX : Cx p s m args meth c cc own nL) (CT : CAt cI cR D s) {pc : Nat} {ls : Lc} {st : List Vl} {μ : Al} {n q : Int} {nn : Nat}
    (hd : decode cc pc = .ok (.newarray .int, 2)) (hw : Cond.arrayClass .int ∈ gT) (hn : (nn : Int) = n) (hn2 : nn * 4 ≤ 536870912) (hc : μ.length + 1 ≤ n0 + R.cells) (hs : szs μ + nn ≤ z0 + R.slots) (hq : ((pre.length + μ.length : Nat) : Int) = q)
    (kk : Ga b0 n0 z0 cI cR D pre p l e R s m args below meth c Q nL (pc + 2) ls (vR 0 q :: st) (μ ++ [(1, nn, fun _ => vI 0)])) : Ga b0 n0 z0 cI cR D pre p l e R s m args below meth c Q nL pc ls (vI n :: st) μ := by
  obtain ⟨hx, hb, hml, hown, hts, hnest, hlk⟩ := CX
  subst hn
  intro g1 g2 g3 H locs lsA g4 g5 g6
  obtain ⟨q1, g3⟩ := rS_cons.mp g3
  have hnn : (i3 (nn : Int)).toNatClampNeg = nn := by rw [i3_nat q1]; omega
  refine va_newaK (atype := .int) hx hb (hts _ hw) rfl hd rfl (fun h => by have h2 := (i3_lt q1 (inR_lit rfl : inR 0)).mp h; omega) hnn hn2 (by show μ.length - n0 + 1 ≤ _; omega) (by show szs μ - z0 + nn ≤ _; omega) rfl fun H1 cA1 e1 z1 o1 hAr hNm => ?_
  have hcI : cA1 = cI := Option.some.inj (hNm.symm.trans (CT.1.2 0 _ rfl).2)
  subst hcI
  exact ga_push (x := (1, nn, fun _ => vI 0)) g1 g2 g3 g4 g5 g6 hq z1 o1 (show va_at D vwCl (H.size, cA b0 cA1 cR (1, nn, fun _ => vI 0)) H1 from e1) rfl rfl kk
theorem ga_anew (CX : Cx p s m args meth c cc own nL) (CT : CAt cI cR D s) {pc : Nat} {ls : Lc} {st : List Vl} {μ : Al} {n q : Int} {nn idx t : Nat} {C : String}
    (hd : decode cc pc = .ok (.anewarray idx, 3)) (hw : Cond.classLink own idx C ∈ gT) (hao : va_AO C s) (ht : (tysT cI cR)[t + 1]? = some (cR (t + 2), .object C)) (hn : (nn : Int) = n) (hn2 : nn * 4 ≤ 536870912) (hc : μ.length + 1 ≤ n0 + R.cells) (hs : szs μ + nn ≤ z0 + R.slots) (hq : ((pre.length + μ.length : Nat) : Int) = q)
    (kk : Ga b0 n0 z0 cI cR D pre p l e R s m args below meth c Q nL (pc + 3) ls (vR 0 q :: st) (μ ++ [(t + 2, nn, fun _ => vN)])) : Ga b0 n0 z0 cI cR D pre p l e R s m args below meth c Q nL pc ls (vI n :: st) μ := by
  obtain ⟨hx, hb, hml, hown, hts, hnest, hlk⟩ := CX
  subst hn
  intro g1 g2 g3 H locs lsA g4 g5 g6
  obtain ⟨q1, g3⟩ := rS_cons.mp g3
  have hnn : (i3 (nn : Int)).toNatClampNeg = nn := by rw [i3_nat q1]; omega
  refine W.anew hx hb hown (hts _ hw) (va_AO.use hao) rfl hd rfl (fun h => by have h2 := (i3_lt q1 (inR_lit rfl : inR 0)).mp h; omega) (by rw [hnn]; exact hn2) (by show μ.length - n0 + 1 ≤ _; omega) (by rw [hnn]; show szs μ - z0 + nn ≤ _; omega) fun cA1 kA comp f1 f2 f3 f4 => ?_
  obtain ⟨kA2, comp2, r1, r2, r3, r4⟩ := (CT.1.2 (t + 1) _ ht).2
  have hcR : cA1 = cR (t + 2) := Option.some.inj (f1.symm.trans r4)
  subst hcR
  rw [hnn]
  refine ga_push g1 g2 g3 g4 g5 g6 hq (by simp) (fun a ha => by rw [Array.getElem?_push, if_neg (Nat.ne_of_lt ha)]) ?_ rfl rfl kk
  show (H.push _)[H.size]? = some (vp_cell (cR (t + 2)) (nn, _))
  rw [vp_cell_q, Array.getElem?_push_size]
  exact congrArg some (arrV_new _ _ _)
theorem ga_getf (CX : Cx p s m args meth c cc own nL) (CT : CAt cI cR D s) {pc : Nat} {ls : Lc} {st : List Vl} {μ : Al} {idx ci j k : Nat} {ty : FieldType} {q : Int} {f : Nat → Vl} {v : Vl}
    (hd : decode cc pc = .ok (.getfield idx, 3)) (hf : FLk own idx ci j ty) (hk : μ[k]? = some (0, ci, f)) (hq : ((pre.length + k : Nat) : Int) = q) (hv : f j = v) (hr : rV (vdA pre μ) v)
    (kk : Ga b0 n0 z0 cI cR D pre p l e R s m args below meth c Q nL (pc + 3) ls (v :: st) μ) : Ga b0 n0 z0 cI cR D pre p l e R s m args below meth c Q nL pc ls (vR 0 q :: st) μ := by
  subst hq; subst hv
  obtain ⟨hx, hb, hml, hown, hts, hnest, hlk⟩ := CX
  obtain ⟨C, T, N, ty0, hci, hN, hj, hin, hty, hnm, hC, hty1, hlink⟩ := hf
  intro g1 g2 g3 H locs lsA g4 g5 g6
  obtain ⟨q1, g3⟩ := rS_cons.mp g3
  have he := wsA_at (b0 := b0) (cI := cI) (cR := cR) ((pre_get (pre := pre)).trans hk)
  have hv : ((List.range (clN ci)).map fun i => mv (adA b0) (f i))[j]? = some (mv (adA b0) (f j)) := by
    rw [List.getElem?_map, List.getElem?_range (by rw [← hN]; exact hj)]
    rfl
  have k' := kk g1 g2 (rS_cons.mpr ⟨hr, g3⟩) H locs lsA g4 g5 g6
  rw [List.map_cons] at k'
  have hst : List.map (mv (adA b0)) (vR 0 ((pre.length + k : Nat) : Int) :: st) = Value.ref (b0 + (pre.length + k)) :: st.map (mv (adA b0)) := rfl
  rw [hst]
  rcases hlink with hl | ⟨host, hl⟩
  · exact va_get hx hb hts hin hown CT.1 g4.1 (pre.length + k) he hci j hj (hts _ hl) (fun x h => by rw [hC] at h; exact h) hv hd k'
  · exact va_getN hx hb hts hin hown CT.1 g4.1 (pre.length + k) he hci j hj (va_Nw.use rfl (hnest _ hl)) (fun x h => by rw [hC] at h; exact h) hv hd k'
theorem cA_upd {ci j : Nat} {f : Nat → Vl} {v : Vl} (hj : j < clN ci) : (Sum.inr (ci, ((List.range (clN ci)).map fun i => mv (adA b0) (f i)).set j (mv (adA b0) v)) : va_E) = cA b0 cI cR (0, ci, updC f j v) := by
  show _ = (Sum.inr (ci, (List.range (clN ci)).map fun i => mv (adA b0) (updC f j v i)) : va_E)
  rw [map_set_at (f' := fun i => mv (adA b0) (updC f j v i)) hj (by simp [updC]) (fun i hi => by simp [updC, hi])]
theorem ga_store {H1 : Heap} {locs1 : List Loc} {μ : Al} {k : Nat} {x y : Ce} {pc : Nat} {ls : Lc} {lsA : Array Slot} {st : List Vl} {H : Heap}
    (g1 : n0 ≤ μ.length ∧ z0 ≤ szs μ) (g2 : ∀ v : Vl, some v ∈ ls → rV (vdA pre μ) v) (g3 : rS (vdA pre μ) st) (g4 : WA b0 cI cR D pre μ H) (g6 : lOK (adA b0) nL ls lsA) (hk : μ[k]? = some x) (hsz : szC y = szC x)
    (hP1 : va_P D vwCl ((wsA b0 cI cR (pre ++ μ)).set (pre.length + k) (b0 + (pre.length + k), cA b0 cI cR y)) H1) (hz : H1.size = H.size) (hS1 : va_S (Af b0) s.heap H1 locs1)
    (kk : Ga b0 n0 z0 cI cR D pre p l e R s m args below meth c Q nL pc ls st (μ.set k y)) : W p l e R s m args below meth c H1 locs1 (μ.length - n0) (szs μ - z0) Q (F0 m pc lsA (st.map (mv (adA b0)))) := by
  have hl : (μ.set k y).length = μ.length := List.length_set
  have hz2 := szs_set hk hsz
  have k' := kk ⟨by rw [hl]; exact g1.1, by rw [hz2]; exact g1.2⟩ (fun v hv => rV_mono (fun q h => vdA_set h) (g2 v hv)) (rS_mono (fun q h => vdA_set h) g3) H1 locs1 lsA ⟨by
      rw [wsA_set ((pre_get (pre := pre)).trans hk), pre_set] at hP1
      exact hP1, by rw [hz, g4.2, hl]⟩ hS1 g6
  rw [← hl, ← hz2]
  exact k'
end GAL
-- the rules of making, continued
def FLf (own : String) (idx ci k : Nat) (ty : FieldType) : Prop := FLk own idx ci k ty ∧ ∀ (C : String) (T : u_T) (N : Nat), vwCl[ci]? = some (C, T, N) → (T k).2.2.2 = true ∧ (T k).1 = own
section GA2
variable {b0 n0 z0 : Nat} {cI : ClassId} {cR : Nat → ClassId} {D : va_G} {pre : Al}
variable {p : Program} {l : Launch} {e : Env} {R : Room} {s : State} {m : MethodId} {args : Array Value} {below : List Frame} {meth : Method} {c : Code} {Q : State → Prop} {nL : Nat} {cc : ByteArray} {own : String}
theorem ga_put (CX : Cx p s m args meth c cc own nL) (CT : CAt cI cR D s) {pc : Nat} {ls : Lc} {st : List Vl} {μ : Al} {idx ci j k : Nat} {ty : FieldType} {q : Int} {f : Nat → Vl} {v : Vl}
    (hd : decode cc pc = .ok (.putfield idx, 3)) (hf : FLk own idx ci j ty) (hfin : (∀ (C : String) (T : u_T) (N : Nat), vwCl[ci]? = some (C, T, N) → (T j).2.2.2 = false) ∨ (meth.name = "<init>" ∧ ∀ (C : String) (T : u_T) (N : Nat), vwCl[ci]? = some (C, T, N) → (T j).2.2.2 = true ∧ (T j).1 = own))
    (hk : μ[k]? = some (0, ci, f)) (hq : ((pre.length + k : Nat) : Int) = q) (hn : narrow ty (mv (adA b0) v) = mv (adA b0) v) (hfit : fits ty (mv (adA b0) v) = true) (hlk2 : ∀ (C : String) (T : u_T) (N : Nat), vwCl[ci]? = some (C, T, N) → Cond.fieldLink own idx C (T j).2.1 (T j).2.2.1 ∈ gT)
    (kk : Ga b0 n0 z0 cI cR D pre p l e R s m args below meth c Q nL (pc + 3) ls st (μ.set k (0, ci, updC f j v))) : Ga b0 n0 z0 cI cR D pre p l e R s m args below meth c Q nL pc ls (v :: vR 0 q :: st) μ := by
  subst hq
  obtain ⟨hx, hb, hml, hown, hts, hnest, hlk⟩ := CX
  obtain ⟨C, T, N, ty0, hci, hN, hj, hin, hty, hnm, hC, hty1, -⟩ := hf
  have hlink := hts _ (hlk2 C T N hci)
  intro g1 g2 g3 H locs lsA g4 g5 g6
  obtain ⟨q0, g3⟩ := rS_cons.mp g3
  obtain ⟨q1, g3⟩ := rS_cons.mp g3
  have he := wsA_at (b0 := b0) (cI := cI) (cR := cR) ((pre_get (pre := pre)).trans hk)
  have hD := wsA_D (b0 := b0) (cI := cI) (cR := cR) (μ := pre ++ μ) (A := Af b0) (fun q h => h)
  have hjc : j < clN ci := by rw [← hN]; exact hj
  have hl : j < ((List.range (clN ci)).map fun i => mv (adA b0) (f i)).length := by rw [List.length_map, List.length_range]; exact hjc
  have hap := va_apart (own := own) hts hin ty0 hty hnm CT.1 hci
  obtain ⟨r, h1, cell, w1, w2, w3, w4⟩ := g4.1 _ _ he
  have hr : r = (C, T, N) := Option.some.inj (h1.symm.trans hci)
  subst hr
  obtain ⟨hS, hfc, kC, hkC, hkind⟩ := CT.1.1 ci _ hci
  obtain ⟨cf, kf, fi, fl, hi, hsl⟩ := hS j hj
  have hst := (u_facts hfc hkC (u_lays hts hin hj) hi).1
  have hd1 : parseFieldDescriptor (T j).2.2.1 = some ty := (hty j hj).trans (by rw [hty1])
  have hstk : List.map (mv (adA b0)) (v :: vR 0 ((pre.length + k : Nat) : Int) :: st) = mv (adA b0) v :: Value.ref (b0 + (pre.length + k)) :: st.map (mv (adA b0)) := rfl
  rw [hstk]
  have fin : ∀ (H1 : Heap), H1[b0 + (pre.length + k)]? = some (cell.setSlot fl.slot (mv (adA b0) v)) → H1.size = H.size → (∀ q : Nat, q ≠ b0 + (pre.length + k) → H1[q]? = H[q]?) → W p l e R s m args below meth c H1 (locs ++ [⟨b0 + (pre.length + k), fl.slot⟩]) (μ.length - n0) (szs μ - z0) Q (F0 m (pc + 3) lsA (st.map (mv (adA b0)))) := by
    intro H1 e1 e2 e3
    rw [hsl] at e1 ⊢
    have hP1 := g4.1.set hD he (H1 := H1) (e := .inr (ci, ((List.range (clN ci)).map fun i => mv (adA b0) (f i)).set j (mv (adA b0) v))) ⟨_, hci, t_OB.to (V := updV (vp_V ((List.range (clN ci)).map fun i => mv (adA b0) (f i))) j (mv (adA b0) v)) ⟨_, e1, w2, w3, t_set w4 hap hj (mv (adA b0) v)⟩ (fun i _ => vp_updV_set hl (mv (adA b0) v) i)⟩ e3
    rw [cA_upd (cI := cI) (cR := cR) hjc] at hP1
    exact ga_store (y := (0, ci, updC f j v)) g1 g2 g3 g4 g6 hk rfl hP1 e2 (g5.put e2 e3 (Nat.le_add_right _ _)) kk
  have hlay := hts _ (hin _ (u_in_lay hj))
  rcases hfin with hfin | ⟨hin2, hfin⟩
  · have hfin := hfin C T N hci
    unfold u_lay at hlay
    rw [if_neg (by rw [hfin]; decide)] at hlay
    have h6 := u_store hfc hkC hkind hlay hi hd1 hn hfit
    exact W.putK hx hb (f := fl) ⟨hown, hlink, ⟨_, _, _, by rw [hC] at hi; exact hi⟩, hst⟩ (by rw [w2]; exact h6) w1 w3 (by rw [hsl]; exact k2_hasslot (w4 j hj)) rfl rfl hd fin
  · obtain ⟨hfin, hdecl⟩ := hfin C T N hci
    unfold u_lay at hlay
    rw [if_pos hfin] at hlay
    have hcf : m.cls = cf := by
      obtain ⟨_, _, c', _, _, _, -, -, hf', -, -, -, hown2, -⟩ := Cond.laysFinal_spec hlay
      have e1 : c' = cf := by have := hi.symm.trans hf'; simp at this; exact this.1.symm
      rw [hdecl] at hown2
      rw [← e1]; exact Option.some.inj (hown.symm.trans hown2)
    have h6 := u_fits hfc hkC hkind (Or.inr hlay) hi hd1 hn hfit
    exact W.putFinK hx hb hown hlink (by rw [hC] at hi; exact hi) hst hcf hin2 (by rw [w2]; exact h6) w1 w3 (by rw [hsl]; exact k2_hasslot (w4 j hj)) rfl rfl hd fin
theorem ga_iast (CX : Cx p s m args meth c cc own nL) (CT : CAt cI cR D s) {pc : Nat} {ls : Lc} {st : List Vl} {μ : Al} {k n : Nat} {q i a : Int} {f : Nat → Vl}
    (hd : decode cc pc = .ok (.iastore, 1)) (hk : μ[k]? = some (1, n, f)) (hq : ((pre.length + k : Nat) : Int) = q) (h0 : 0 ≤ i) (h1 : i < (n : Int))
    (kk : Ga b0 n0 z0 cI cR D pre p l e R s m args below meth c Q nL (pc + 1) ls st (μ.set k (1, n, updC f i.toNat (vI a)))) : Ga b0 n0 z0 cI cR D pre p l e R s m args below meth c Q nL pc ls (vI a :: vI i :: vR 0 q :: st) μ := by
  subst hq
  obtain ⟨hx, hb, hml, hown, hts, hnest, hlk⟩ := CX
  intro g1 g2 g3 H locs lsA g4 g5 g6
  obtain ⟨qa, g3⟩ := rS_cons.mp g3
  obtain ⟨qi, g3⟩ := rS_cons.mp g3
  obtain ⟨q1, g3⟩ := rS_cons.mp g3
  have he := wsA_at (b0 := b0) (cI := cI) (cR := cR) ((pre_get (pre := pre)).trans hk)
  have hD := wsA_D (b0 := b0) (cI := cI) (cR := cR) (μ := pre ++ μ) (A := Af b0) (fun q h => h)
  have hin := gf_in h0 h1 qi
  have hstk : List.map (mv (adA b0)) (vI a :: vI i :: vR 0 ((pre.length + k : Nat) : Int) :: st) = Value.int (i3 a) :: Value.int (i3 i) :: Value.ref (b0 + (pre.length + k)) :: st.map (mv (adA b0)) := rfl
  rw [hstk]
  refine W.iast hx hb (g4.1 _ _ he) ((CT.1.2 0 _ rfl).1 n (fun j => .int (i3 (toI (f j))))) (fun q => by cases q) (by show ¬ (_ ∨ (arrV _ _ _).slots.size ≤ _); rw [arrV_size]; exact hin) rfl rfl hd fun H1 e1 z oq => ?_
  refine ga_store (y := (1, n, updC f i.toNat (vI a))) g1 g2 g3 g4 g6 hk rfl (g4.1.set hD he ?_ oq) z (g5.put z oq (Nat.le_add_right _ _)) kk
  show H1[b0 + (pre.length + k)]? = some (vp_cell cI (n, .inl (fun j => i3 (toI (updC f i.toNat (vI a) j)))))
  rw [e1]
  show some ((vp_cell cI (n, .inl (fun j => i3 (toI (f j))))).setSlot _ _) = _
  rw [vp_cell_i, vp_cell_i, arrV_store]
  congr 2
  funext j
  rw [i3_nat qi]
  by_cases hj : j = i.toNat
  · subst hj
    simp [updV, updC, toI]
  · simp [updV, updC, hj]
theorem ga_alen (CX : Cx p s m args meth c cc own nL) (CT : CAt cI cR D s) {pc : Nat} {ls : Lc} {st : List Vl} {μ : Al} {k n : Nat} {q nz : Int} {f : Nat → Vl}
    (hd : decode cc pc = .ok (.arraylength, 1)) (hk : μ[k]? = some (1, n, f)) (hq : ((pre.length + k : Nat) : Int) = q) (hz : (n : Int) = nz) (hn : n < 2147483648)
    (kk : Ga b0 n0 z0 cI cR D pre p l e R s m args below meth c Q nL (pc + 1) ls (vI nz :: st) μ) : Ga b0 n0 z0 cI cR D pre p l e R s m args below meth c Q nL pc ls (vR 0 q :: st) μ := by
  subst hq; subst hz
  obtain ⟨hx, hb, hml, hown, hts, hnest, hlk⟩ := CX
  intro g1 g2 g3 H locs lsA g4 g5 g6
  obtain ⟨q1, g3⟩ := rS_cons.mp g3
  have he := wsA_at (b0 := b0) (cI := cI) (cR := cR) ((pre_get (pre := pre)).trans hk)
  have k' := kk g1 g2 (rS_cons.mpr ⟨⟨by omega, by omega⟩, g3⟩) H locs lsA g4 g5 g6
  rw [List.map_cons] at k'
  have hstk : List.map (mv (adA b0)) (vR 0 ((pre.length + k : Nat) : Int) :: st) = Value.ref (b0 + (pre.length + k)) :: st.map (mv (adA b0)) := rfl
  rw [hstk]
  exact va_alen hx hb CT.1 g4.1 (pre.length + k) 0 he rfl (v := i3 n) rfl hd k'
theorem ga_aast (CX : Cx p s m args meth c cc own nL) (CT : CAt cI cR D s) {pc : Nat} {ls : Lc} {st : List Vl} {μ : Al} {k n t kv ci : Nat} {q i qv : Int} {f fv : Nat → Vl} {r : vw_C}
    (hd : decode cc pc = .ok (.aastore, 1)) (hk : μ[k]? = some (t + 2, n, f)) (hq : ((pre.length + k : Nat) : Int) = q) (h0 : 0 ≤ i) (h1 : i < (n : Int)) (hkv : μ[kv]? = some (0, ci, fv)) (hqv : ((pre.length + kv : Nat) : Int) = qv) (ht : (tysT cI cR)[t + 1]? = some (cR (t + 2), .object r.1)) (hci : vwCl[ci]? = some r)
    (kk : Ga b0 n0 z0 cI cR D pre p l e R s m args below meth c Q nL (pc + 1) ls st (μ.set k (t + 2, n, updC f i.toNat (vR 0 qv)))) : Ga b0 n0 z0 cI cR D pre p l e R s m args below meth c Q nL pc ls (vR 0 qv :: vI i :: vR 0 q :: st) μ := by
  subst hq; subst hqv
  obtain ⟨hx, hb, hml, hown, hts, hnest, hlk⟩ := CX
  intro g1 g2 g3 H locs lsA g4 g5 g6
  obtain ⟨qa, g3⟩ := rS_cons.mp g3
  obtain ⟨qi, g3⟩ := rS_cons.mp g3
  obtain ⟨q1, g3⟩ := rS_cons.mp g3
  have he := wsA_at (b0 := b0) (cI := cI) (cR := cR) ((pre_get (pre := pre)).trans hk)
  have hev := wsA_at (b0 := b0) (cI := cI) (cR := cR) ((pre_get (pre := pre)).trans hkv)
  have hD := wsA_D (b0 := b0) (cI := cI) (cR := cR) (μ := pre ++ μ) (A := Af b0) (fun q h => h)
  have hin := gf_in h0 h1 qi
  have hlt : (i3 i).toNatClampNeg < n := Nat.not_le.mp fun q => hin (Or.inr q)
  have hstk : List.map (mv (adA b0)) (vR 0 ((pre.length + kv : Nat) : Int) :: vI i :: vR 0 ((pre.length + k : Nat) : Int) :: st) = Value.ref (b0 + (pre.length + kv)) :: Value.int (i3 i) :: Value.ref (b0 + (pre.length + k)) :: st.map (mv (adA b0)) := rfl
  rw [hstk]
  obtain ⟨r', hr', cellV, w1, w2, w3, -⟩ := g4.1 _ _ hev
  have hcls := (CT.1.1 ci r hci).2
  obtain ⟨kA, comp, k1, k2, k3, -⟩ := (CT.1.2 (t + 1) _ ht).2
  have hcomp : comp = D.1 ci := Option.some.inj (k3.symm.trans hcls.1)
  subst hcomp
  obtain ⟨kC, hkC, -⟩ := hcls.2
  refine W.aast hx hb (g4.1 _ _ he) (fun q h => by cases h) (fun h => by cases h) k1 k2 rfl hkC ⟨fun q => hin (Or.inl q), by show _ < (arrV _ _ _).slots.size; rw [arrV_size]; exact hlt⟩ w1 (fun q h => by rw [w3] at h; cases h) (by rw [w2]; exact hkC) (by rw [w2]; exact va_assign hcls) rfl rfl hd fun H1 e1 z oq => ?_
  refine ga_store (y := (t + 2, n, updC f i.toNat (vR 0 ((pre.length + kv : Nat) : Int)))) g1 g2 g3 g4 g6 hk rfl (g4.1.set hD he ?_ oq) z (g5.put z oq (Nat.le_add_right _ _)) kk
  show H1[b0 + (pre.length + k)]? = some (vp_cell (cR (t + 2)) (n, .inr (.inr (.inr (.inr (fun j => toR b0 (updC f i.toNat (vR 0 ((pre.length + kv : Nat) : Int)) j)))))))
  rw [e1]
  show some ((vp_cell (cR (t + 2)) (n, .inr (.inr (.inr (.inr (fun j => toR b0 (f j))))))).setSlot _ _) = _
  rw [vp_cell_q, vp_cell_q, arrV_store]
  congr 2
  funext j
  rw [i3_nat qi]
  by_cases hj : j = i.toNat
  · subst hj
    simp [updV, updC, toR, va_rf]
    omega
  · simp [updV, updC, hj]
theorem ga_obj (CX : Cx p s m args meth c cc own nL) {pc : Nat} {ls : Lc} {st : List Vl} {μ : Al} {idx : Nat} {q : Int} (hR : 1 ≤ R.frames ∧ 40 ≤ R.locals)
    (hd : decode cc pc = .ok (.invokespecial idx, 3)) (hl : Cond.methodLink own idx Lib.objectInit ∈ gT ∧ Cond.instanceMethod Lib.objectInit ∈ gT ∧ Cond.code Lib.objectInit ⟨#[0xb1]⟩ 1 none ∈ gT) (hst : csum st ≤ 8)
    (kk : Ga b0 n0 z0 cI cR D pre p l e R s m args below meth c Q nL (pc + 3) ls st μ) : Ga b0 n0 z0 cI cR D pre p l e R s m args below meth c Q nL pc ls (vR 0 q :: st) μ := by
  obtain ⟨hx, hb, hml, hown, hts, hnest, hlk⟩ := CX
  intro g1 g2 g3 H locs lsA g4 g5 g6
  obtain ⟨q1, g3⟩ := rS_cons.mp g3
  have hms := mv_sum (adA b0) st
  exact W.objInit hx hb hown (hts _ hl.1) (hts _ hl.2.1) (hts _ hl.2.2) rfl (g6.2.1.trans hml.symm) rfl hd hR.1 (by show 2 * 0 + _ + 12 ≤ _; rw [hms]; omega) (kk g1 g2 g3 H locs lsA g4 g5 g6)
end GA2
-- calls while the objects are made; what a constructor comes to
theorem vr_outer (c : ClassId) (N h0 : Nat) : ∀ i : Nat, Jvm.Free.Multi.outerC c N h0 i = arrV c N (fun j => va_rf (if j < i then some (h0 + 1 + j) else none))
  | 0 => by
    show ({ cls := c, slots := Array.replicate N .null, vm := .none } : Cell) = _
    rw [arrV_new]
    refine congrArg (arrV c N) (funext fun j => ?_)
    simp [va_rf]
  | i + 1 => by
    show (Jvm.Free.Multi.outerC c N h0 i).setSlot i (.ref (h0 + 1 + i)) = _
    rw [vr_outer c N h0 i, arrV_store]
    refine congrArg (arrV c N) (funext fun j => ?_)
    by_cases e : j = i
    · subst e
      simp [updV, va_rf]
    · by_cases h : j < i
      · simp [updV, e, h, Nat.lt_succ_of_lt h]
      · have h2 : ¬ j < i + 1 := by omega
        simp [updV, e, h, h2, va_rf]

theorem wsA_appL {b0 : Nat} {cI : ClassId} {cR : Nat → ClassId} {μ ν : Al} {k : Nat} {y : Nat × va_E} (h : (wsA b0 cI cR (μ ++ ν))[μ.length + k]? = some y) : ∃ x, ν[k]? = some x ∧ y = (b0 + (μ.length + k), cA b0 cI cR x) := by
  rw [wsA_get, List.getElem?_append_right (Nat.le_add_right _ _), Nat.add_sub_cancel_left] at h
  cases hx : ν[k]? with
  | none => rw [hx] at h; cases h
  | some x => rw [hx] at h; cases h; exact ⟨x, rfl, rfl⟩
theorem wsA_pre {b0 : Nat} {cI : ClassId} {cR : Nat → ClassId} {μ ν : Al} {k : Nat} (h : k < μ.length) : (wsA b0 cI cR (μ ++ ν))[k]? = (wsA b0 cI cR μ)[k]? := by
  rw [wsA_get, wsA_get, List.getElem?_append_left h]
section GA3
variable {b0 n0 z0 : Nat} {cI : ClassId} {cR : Nat → ClassId} {D : va_G} {pre : Al}
variable {p : Program} {l : Launch} {e : Env} {R : Room} {s : State} {m : MethodId} {args : Array Value} {below : List Frame} {meth : Method} {c : Code} {Q : State → Prop} {nL : Nat} {cc : ByteArray} {own : String}
theorem szs_rep (N : Nat) (x : Ce) : szs (List.replicate N x) = N * szC x := by
  unfold szs
  rw [List.map_replicate, List.sum_replicate_nat]
theorem ga_mna (CX : Cx p s m args meth c cc own nL) (CT : CAt cI cR D s) {pc : Nat} {ls : Lc} {st : List Vl} {μ : Al} {n k q : Int} {N M idx : Nat}
    (hd : decode cc pc = .ok (.multianewarray idx 2, 4)) (hw : Cond.classLink own idx "[[I" ∈ gT ∧ Cond.arrayClass .int ∈ gT) (hn : (N : Int) = n) (hk : (M : Int) = k) (hb1 : N * 4 ≤ 536870912) (hb2 : M * 4 ≤ 536870912) (hc : μ.length + (1 + N) ≤ n0 + R.cells) (hs : szs μ + (N + N * M) ≤ z0 + R.slots) (hq : ((pre.length + μ.length : Nat) : Int) = q)
    (kk : Ga b0 n0 z0 cI cR D pre p l e R s m args below meth c Q nL (pc + 4) ls (vR 0 q :: st) (μ ++ ((5, N, fun j => if j < N then vR 0 (q + 1 + (j : Int)) else vN) :: List.replicate N (1, M, fun _ => vI 0)))) : Ga b0 n0 z0 cI cR D pre p l e R s m args below meth c Q nL pc ls (vI k :: vI n :: st) μ := by
  obtain ⟨hx, hb, hml, hown, hts, hnest, hlk⟩ := CX
  subst hn; subst hk
  intro g1 g2 g3 H locs lsA g4 g5 g6
  obtain ⟨qk, g3⟩ := rS_cons.mp g3
  obtain ⟨qn, g3⟩ := rS_cons.mp g3
  have hN : (i3 (N : Int)).toNatClampNeg = N := by rw [i3_nat qn]; omega
  have hM : (i3 (M : Int)).toNatClampNeg = M := by rw [i3_nat qk]; omega
  have hHs := g4.2
  intro T hT Xs
  obtain ⟨vm₁, cA1, comp, -, fA, fC, hO, -, X', step⟩ := Jvm.Stand.multianewarray2F Xs hx hown (ty := .int) (hts _ hw.1) (show (Cond.arrayOver (.array .int)).before args s = true from CT.2.2.2.2.1) (hts _ hw.2) (g := F0 m pc lsA (Value.int (i3 (M : Int)) :: Value.int (i3 (N : Int)) :: st.map (mv (adA b0)))) rfl (by rw [hb]; exact hd) rfl
    (fun h => by have h2 := (i3_lt qn (inR_lit rfl : inR 0)).mp h; omega) (fun h => by have h2 := (i3_lt qk (inR_lit rfl : inR 0)).mp h; omega) (by rw [hN]; exact hb1) (by rw [hM]; exact hb2) (by rw [hM]; omega) rfl rfl (by rw [hN]; show μ.length - n0 + (1 + N) ≤ _; omega) (by rw [hN, hM]; show szs μ - z0 + (N + N * M) ≤ _; omega)
  have ec : comp = cI := Option.some.inj (fC.symm.trans (CT.1.2 0 _ rfl).2)
  subst ec
  have ecR : cA1 = cR 5 := Option.some.inj (fA.symm.trans (CT.1.2 4 _ rfl).2)
  subst ecR
  rw [hN, hM] at X' step
  generalize hF : Jvm.Free.Multi.fill (T.setVm vm₁) (cR 5) comp N M (defaultValue .int) N = F at X' step
  have hTh : (T.setVm vm₁).heap = H := hT
  obtain ⟨f1, f2, -, -⟩ := Jvm.Free.Multi.fill_facts (T.setVm vm₁) (cR 5) comp N M (defaultValue .int) N
  rw [hF, hTh] at f1 f2
  have hold : ∀ x : Nat, x < H.size → F.heap[x]? = H[x]? := fun x hx => by
    have := Jvm.Free.Multi.fill_old (T.setVm vm₁) (cR 5) comp N M (defaultValue .int) (a := x) (by rw [hTh]; exact hx) N
    rw [hF, hTh] at this
    exact this
  have hrow : ∀ j : Nat, j < N → F.heap[H.size + 1 + j]? = some (vp_cell comp (M, .inl (fun _ => 0))) := fun j hj => by
    have := Jvm.Free.Multi.fill_inner (T.setVm vm₁) (cR 5) comp N M (defaultValue .int) N j hj
    rw [hF, hTh] at this
    rw [this, vp_cell_i]
    exact congrArg some (arrV_new _ _ _)
  rw [vr_outer] at f2
  have hlen : (μ ++ ((5, N, fun j => if j < N then vR 0 (q + 1 + (j : Int)) else vN) :: List.replicate N (1, M, fun _ => vI 0)) : Al).length = μ.length + (1 + N) := by
    simp only [List.length_append, List.length_cons, List.length_replicate]
    omega
  have hsz : szs (μ ++ ((5, N, fun j => if j < N then vR 0 (q + 1 + (j : Int)) else vN) :: List.replicate N (1, M, fun _ => vI 0)) : Al) = szs μ + (N + N * M) := by
    rw [szs_app]
    have e1 : szs (((5, N, fun j => if j < N then vR 0 (q + 1 + (j : Int)) else vN) : Ce) :: List.replicate N (1, M, fun _ => vI 0)) = N + szs (List.replicate N ((1, M, fun _ => vI 0) : Ce)) := by
      unfold szs
      rw [List.map_cons, List.sum_cons]
      rfl
    rw [e1, szs_rep]
    rfl
  have hP1 : va_P D vwCl (wsA b0 comp cR (pre ++ (μ ++ ((5, N, fun j => if j < N then vR 0 (q + 1 + (j : Int)) else vN) :: List.replicate N (1, M, fun _ => vI 0))))) F.heap := by
    rw [← List.append_assoc]
    intro k0 y hy
    by_cases hk0 : k0 < (pre ++ μ).length
    · rw [wsA_pre hk0] at hy
      exact (g4.1 k0 y hy).kept (hold _ (g4.1 k0 y hy).lt)
    · obtain ⟨k1, rfl⟩ : ∃ k1, k0 = (pre ++ μ).length + k1 := ⟨k0 - (pre ++ μ).length, by omega⟩
      obtain ⟨x, hx1, rfl⟩ := wsA_appL hy
      have hpl : (pre ++ μ).length = pre.length + μ.length := List.length_append
      cases k1 with
      | zero =>
        simp only [List.getElem?_cons_zero, Option.some.injEq] at hx1
        subst hx1
        show F.heap[b0 + ((pre ++ μ).length + 0)]? = some (vp_cell (cR 5) (N, .inr (.inr (.inr (.inr (fun j => toR b0 (if j < N then vR 0 (q + 1 + (j : Int)) else vN)))))))
        rw [show b0 + ((pre ++ μ).length + 0) = H.size by rw [hpl, hHs]; omega, vp_cell_q]
        refine f2.trans (congrArg some (congrArg (arrV (cR 5) N) (funext fun j => ?_)))
        by_cases hj : j < N
        · rw [if_pos hj, if_pos hj]
          show va_rf _ = va_rf (some (b0 + (q + 1 + (j : Int)).toNat))
          congr 2
          rw [hHs]
          omega
        · rw [if_neg hj, if_neg hj]
          rfl
      | succ j =>
        simp only [List.getElem?_cons_succ] at hx1
        have hj : j < N := by
          have := (List.getElem?_eq_some_iff.mp hx1).1
          simpa using this
        rw [List.getElem?_replicate, if_pos hj] at hx1
        cases hx1
        show F.heap[b0 + ((pre ++ μ).length + (j + 1))]? = some (vp_cell comp (M, .inl (fun _ => i3 (toI (vI 0)))))
        rw [show b0 + ((pre ++ μ).length + (j + 1)) = H.size + 1 + j by rw [hpl, hHs]; omega]
        exact hrow j hj
  have k' := kk ⟨by rw [hlen]; omega, by rw [hsz]; omega⟩ (fun v hv => rV_mono (fun q h => vdA_app h) (g2 v hv)) (rS_cons.mpr ⟨(show vdA pre _ (0, q) from Or.inr ⟨by show 0 ≤ q; omega, by show q < _; rw [hlen]; omega⟩), rS_mono (fun q h => vdA_app h) g3⟩) F.heap locs lsA ⟨hP1, by rw [f1, hlen, hHs]; omega⟩
    ⟨by rw [f1]; have := g5.1; omega, fun x h1 h2 => (hold x (Nat.lt_of_lt_of_le h1 g5.1)).trans (g5.2.1 x h1 h2), g5.2.2⟩ g6
  have e3 : List.map (mv (adA b0)) (vR 0 q :: st) = Value.ref H.size :: st.map (mv (adA b0)) := by
    rw [List.map_cons]
    exact congrArg (fun z : Value => z :: st.map (mv (adA b0))) (congrArg Value.ref (by omega : b0 + q.toNat = H.size))
  rw [e3] at k'
  obtain ⟨t, a1, b1⟩ := k' F rfl (by
    show Stand _ _ _ _ _ _ _ _ _ _ _ _ (List.length _ - n0) (szs _ - z0)
    rw [hlen, hsz, show μ.length + (1 + N) - n0 = μ.length - n0 + 1 + N by omega, show szs μ + (N + N * M) - z0 = szs μ - z0 + N + N * M by omega]
    exact X')
  refine ⟨t, step t ?_, b1⟩
  have e : T.heap.size = H.size := by rw [hT]
  rw [e]
  exact a1
theorem gm_callA {H : Heap} {locs : List Loc} {cells slots pc mc ms : Nat} {ls : Array Slot} {st0 rest : List Value} {a : Array Value} {pre2 l0 : Al} {Post : Al → Prop}
    (hr : va_Run p l e R s m args below meth c H locs cells slots mc ms (F0 m pc ls st0) rest (QcA b0 cI cR D pre2 l0 mc ms Post a) (Af b0)) (hS : va_S (Af b0) s.heap H locs)
    (kk : ∀ (l2 : Al) (H1 : Heap) (locs1 : List Loc), Post l2 → l2.length = l0.length + mc → szs l2 = szs l0 + ms → WA b0 cI cR D pre2 l2 H1 → va_S (Af b0) s.heap H1 locs1 → W p l e R s m args below meth c H1 locs1 (cells + mc) (slots + ms) Q (F0 m (pc + 3) ls rest)) :
    W p l e R s m args below meth c H locs cells slots Q (F0 m pc ls st0) := by
  intro T hT X
  obtain ⟨v, st₀, t, T', L, h0, X', hL, e1, e2, ⟨⟨l2, hv, hp, hb, hg, hw⟩, hz, hk⟩, st⟩ := hr T hT X
  cases hv
  rw [h0] at hz hk
  obtain ⟨t2, a1, b1⟩ := kk l2 T'.heap (locs ++ L) hp hb hg (by rw [e1]; exact hw)
    ⟨Nat.le_trans hS.1 (by rw [e1]; exact hz), fun q h1 h2 => by rw [e1, hk q (Nat.lt_of_lt_of_le h1 hS.1) h2]; exact hS.2.1 q h1 h2, fun q hq => by
      rcases List.mem_append.mp hq with h | h
      · exact hS.2.2 q h
      · exact hL q h⟩ T' rfl X'
  exact ⟨t2, st t2 a1, b1⟩
theorem ga_call (CX : Cx p s m args meth c cc own nL) (CT : CAt cI cR D s) {d mc ms : Nat} (hR : d + 1 ≤ R.frames ∧ 40 * (d + 1) ≤ R.locals) {Cal : Nat → List Vl → Al → Al → Nat → Nat → (Al → Prop) → Prop}
    (hCal : ∀ (M : Nat) (as : List Vl) (pre l0 : Al) (mc ms : Nat) (Post : Al → Prop), Cal M as pre l0 mc ms Post → csum as ≤ ml M → MOK M → mr M = none → Met l (my M) (wsM M) (rmA d mc ms) (PcA b0 cI cR D as pre l0) (QcA b0 cI cR D pre l0 mc ms Post) mc ms (Af b0))
    {pc : Nat} {ls : Lc} {rest as : List Vl} {l1 l0 : Al} {idx M : Nat} {q : Int}
    (hd : decode cc pc = .ok (.invokespecial idx, 3)) (hl : ILk own idx M) (hlen : as.length = mp M) (hcs : csum (vR 0 q :: as) ≤ ml M) (hst : csum rest ≤ 8) (hc : (l1 ++ l0).length + mc ≤ n0 + R.cells) (hs : szs (l1 ++ l0) + ms ≤ z0 + R.slots)
    (kk : Cal M (vR 0 q :: as) (pre ++ l1) l0 mc ms (fun l2 => Ga b0 n0 z0 cI cR D pre p l e R s m args below meth c Q nL (pc + 3) ls rest (l1 ++ l2))) : Ga b0 n0 z0 cI cR D pre p l e R s m args below meth c Q nL pc ls (as.reverse ++ vR 0 q :: rest) (l1 ++ l0) := by
  intro g1 g2 g3 H locs lsA g4 g5 g6
  obtain ⟨hx, hb, hml, hown, hts, hnest, hlk⟩ := CX
  obtain ⟨hlink, hmok, hinst, hnm, hret⟩ := hl
  obtain ⟨ga, gr⟩ := rS_app.mp g3
  obtain ⟨q1, gr⟩ := rS_cons.mp gr
  have hvd : ∀ z, vdA pre (l1 ++ l0) z → vdA (pre ++ l1) l0 z := fun z h => h.imp id fun h => ⟨h.1, by have := h.2; simp only [List.length_append] at *; omega⟩
  have gas : rS (vdA (pre ++ l1) l0) (vR 0 q :: as) := rS_mono hvd (rS_cons.mpr ⟨q1, rS_rev.mp ga⟩)
  have hWA : WA b0 cI cR D (pre ++ l1) l0 H := ⟨by rw [List.append_assoc]; exact g4.1, by rw [g4.2]; simp only [List.length_append]; omega⟩
  have hM := hCal M (vR 0 q :: as) (pre ++ l1) l0 mc ms _ kk hcs hmok hret
  have hgood := wsM_good hmok
  have hR2 : (rmA d mc ms).frames + 1 ≤ R.frames ∧ 8 + (ml M + 11) + (rmA d mc ms).locals ≤ R.locals := ⟨hR.1, by have h1 := hmok.2.2.2.2.1; show 8 + (ml M + 11) + 40 * d ≤ R.locals; omega⟩
  have hdd : (my M).cls ≠ "java/lang/invoke/MethodHandle" ∧ (my M).cls ≠ "java/lang/invoke/VarHandle" ∧ (parseMethodDescriptor (my M).desc).map (fun d => d.parameters.length) = some (mp M) := ⟨hmok.2.2.1.1, hmok.2.2.1.2, hmok.2.2.2.1⟩
  have hp : PreS s H (PcA b0 cI cR D (vR 0 q :: as) (pre ++ l1) l0) (.ref (adA b0 0 q) :: as.map (mv (adA b0))) := ⟨PcA_blind, fun U hU hW => ⟨rfl, gas, by rw [hU]; exact hWA, CT.moved hW⟩⟩
  have hfin : ∀ hr : va_Run p l e R s m args below meth c H locs ((l1 ++ l0).length - n0) (szs (l1 ++ l0) - z0) mc ms (F0 m pc lsA (List.map (mv (adA b0)) (as.reverse ++ vR 0 q :: rest))) (rest.map (mv (adA b0))) (QcA b0 cI cR D (pre ++ l1) l0 mc ms (fun l2 => Ga b0 n0 z0 cI cR D pre p l e R s m args below meth c Q nL (pc + 3) ls rest (l1 ++ l2)) (Value.ref (adA b0 0 q) :: as.map (mv (adA b0))).toArray) (Af b0),
      W p l e R s m args below meth c H locs ((l1 ++ l0).length - n0) (szs (l1 ++ l0) - z0) Q (F0 m pc lsA (List.map (mv (adA b0)) (as.reverse ++ vR 0 q :: rest))) := fun hr => by
    refine gm_callA hr g5 (fun l2 H1 locs1 hpost h1 h2 hw hS1 => ?_)
    have e1 : (l1 ++ l2).length - n0 = (l1 ++ l0).length - n0 + mc := by
      have := g1.1
      simp only [List.length_append] at *
      omega
    have e2 : szs (l1 ++ l2) - z0 = szs (l1 ++ l0) - z0 + ms := by
      have := g1.2
      rw [szs_app] at *
      rw [szs_app]
      omega
    have hvd2 : ∀ z, vdA pre (l1 ++ l0) z → vdA pre (l1 ++ l2) z := fun z h => h.imp id fun h => ⟨h.1, by have := h.2; simp only [List.length_append] at *; omega⟩
    have k' := hpost ⟨by have := g1.1; simp only [List.length_append] at *; omega, by have := g1.2; rw [szs_app] at *; omega⟩ (fun v hv => rV_mono hvd2 (g2 v hv)) (rS_mono hvd2 gr) H1 locs1 lsA ⟨by rw [← List.append_assoc]; exact hw.1, by rw [hw.2]; simp only [List.length_append]; omega⟩ hS1 g6
    rw [← e1, ← e2]
    exact k'
  have hstack : List.map (mv (adA b0)) (as.reverse ++ vR 0 q :: rest) = (as.map (mv (adA b0))).reverse ++ .ref (adA b0 0 q) :: rest.map (mv (adA b0)) := by
    rw [List.map_append, List.map_reverse]
    rfl
  rcases hlink with hlnk | ⟨host, hlnk⟩
  · exact hfin (va_runI ⟨hx, hb, hml, hown, hts⟩ hM ⟨callB_of (mp M) hts hgood (by show Cond.code _ _ _ _ :: gT = _; rw [hret]) rfl rfl (hts _ hmok.2.1) (hts _ hlnk) hdd hR2, hnm, hts _ hinst⟩ hp rfl (by rw [List.length_map]; exact hlen) g6.2.1 hstack (lv_room (by rw [mv_sum]; exact hst)) hd ⟨by show (l1 ++ l0).length - n0 + mc ≤ _; have := g1.1; omega, by show szs (l1 ++ l0) - z0 + ms ≤ _; have := g1.2; omega⟩)
  · exact hfin (va_runIN ⟨hx, hb, hml, hown, hts⟩ hM ⟨va_cnB (mp M) hts hgood (by show Cond.code _ _ _ _ :: gT = _; rw [hret]) rfl rfl (hnest _ hlnk) (hts _ hmok.2.1) hdd hR2, hnm, hts _ hinst⟩ hp rfl (by rw [List.length_map]; exact hlen) g6.2.1 hstack (lv_room (by rw [mv_sum]; exact hst)) hd ⟨by show (l1 ++ l0).length - n0 + mc ≤ _; have := g1.1; omega, by show szs (l1 ++ l0) - z0 + ms ≤ _; have := g1.2; omega⟩)
theorem ga_fill (CX : Cx p s m args meth c cc own nL) (CT : CAt cI cR D s) {d : Nat} (hR : d + 1 ≤ R.frames ∧ 40 * (d + 1) ≤ R.locals) {Cal : Nat → List Vl → Al → Al → Nat → Nat → (Al → Prop) → Prop}
    (hCal : ∀ (M : Nat) (as : List Vl) (pre l0 : Al) (mc ms : Nat) (Post : Al → Prop), Cal M as pre l0 mc ms Post → csum as ≤ ml M → MOK M → mr M = none → Met l (my M) (wsM M) (rmA d mc ms) (PcA b0 cI cR D as pre l0) (QcA b0 cI cR D pre l0 mc ms Post) mc ms (Af b0))
    {pc : Nat} {ls : Lc} {rest as : List Vl} {l0 : Al} {idx M : Nat}
    (hd : decode cc pc = .ok (.invokestatic idx, 3)) (hl : TLk own idx M) (hret : mr M = none) (hlen : as.length = mp M) (hcs : csum as ≤ ml M) (hst : csum rest ≤ 8) (hc : l0.length ≤ n0 + R.cells) (hs : szs l0 ≤ z0 + R.slots)
    (kk : Cal M as pre l0 0 0 (fun l2 => Ga b0 n0 z0 cI cR D pre p l e R s m args below meth c Q nL (pc + 3) ls rest l2)) : Ga b0 n0 z0 cI cR D pre p l e R s m args below meth c Q nL pc ls (as.reverse ++ rest) l0 := by
  intro g1 g2 g3 H locs lsA g4 g5 g6
  obtain ⟨hx, hb, hml, hown, hts, hnest, hlk⟩ := CX
  obtain ⟨hlink, hmok, hstat⟩ := hl
  obtain ⟨ga, gr⟩ := rS_app.mp g3
  have gas : rS (vdA pre l0) as := rS_rev.mp ga
  have hM := hCal M as pre l0 0 0 _ kk hcs hmok hret
  have hgood := wsM_good hmok
  have hR2 : (rmA d 0 0).frames + 1 ≤ R.frames ∧ 8 + (ml M + 11) + (rmA d 0 0).locals ≤ R.locals := ⟨hR.1, by have h1 := hmok.2.2.2.2.1; show 8 + (ml M + 11) + 40 * d ≤ R.locals; omega⟩
  have hdd : (my M).cls ≠ "java/lang/invoke/MethodHandle" ∧ (my M).cls ≠ "java/lang/invoke/VarHandle" ∧ (parseMethodDescriptor (my M).desc).map (fun d => d.parameters.length) = some (mp M) := ⟨hmok.2.2.1.1, hmok.2.2.1.2, hmok.2.2.2.1⟩
  have hp : PreS s H (PcA b0 cI cR D as pre l0) (as.map (mv (adA b0))) := ⟨PcA_blind, fun U hU hW => ⟨rfl, gas, by rw [hU]; exact g4, CT.moved hW⟩⟩
  have hfin : ∀ hr : va_Run p l e R s m args below meth c H locs (l0.length - n0) (szs l0 - z0) 0 0 (F0 m pc lsA (List.map (mv (adA b0)) (as.reverse ++ rest))) (rest.map (mv (adA b0))) (QcA b0 cI cR D pre l0 0 0 (fun l2 => Ga b0 n0 z0 cI cR D pre p l e R s m args below meth c Q nL (pc + 3) ls rest l2) (as.map (mv (adA b0))).toArray) (Af b0),
      W p l e R s m args below meth c H locs (l0.length - n0) (szs l0 - z0) Q (F0 m pc lsA (List.map (mv (adA b0)) (as.reverse ++ rest))) := fun hr => by
    refine gm_callA hr g5 (fun l2 H1 locs1 hpost h1 h2 hw hS1 => ?_)
    have hvd2 : ∀ z, vdA pre l0 z → vdA pre l2 z := fun z h => h.imp id fun h => ⟨h.1, by rw [h1]; exact h.2⟩
    have k' := hpost ⟨by rw [h1]; exact g1.1, by rw [h2]; exact g1.2⟩ (fun v hv => rV_mono hvd2 (g2 v hv)) (rS_mono hvd2 gr) H1 locs1 lsA hw hS1 g6
    simp only [h1, h2, Nat.add_zero] at k' ⊢
    exact k'
  have hstack : List.map (mv (adA b0)) (as.reverse ++ rest) = (as.map (mv (adA b0))).reverse ++ rest.map (mv (adA b0)) := by
    rw [List.map_append, List.map_reverse]
  rcases hlink with hlnk | ⟨host, hlnk⟩
  · exact hfin (va_runS ⟨hx, hb, hml, hown, hts⟩ hM ⟨callB_of (mp M) hts hgood rfl rfl rfl (hts _ hmok.2.1) (hts _ hlnk) hdd hR2, hts _ hstat⟩ hp rfl (by rw [List.length_map]; exact hlen) g6.2.1 hstack (lv_room (by rw [mv_sum]; exact hst)) hd ⟨by show l0.length - n0 + 0 ≤ _; omega, by show szs l0 - z0 + 0 ≤ _; omega⟩)
  · exact hfin (va_runSN ⟨hx, hb, hml, hown, hts⟩ hM ⟨va_cnB (mp M) hts hgood rfl rfl rfl (hnest _ hlnk) (hts _ hmok.2.1) hdd hR2, hts _ hstat, trivial⟩ hp rfl (by rw [List.length_map]; exact hlen) g6.2.1 hstack (lv_room (by rw [mv_sum]; exact hst)) hd ⟨by show l0.length - n0 + 0 ≤ _; omega, by show szs l0 - z0 + 0 ≤ _; omega⟩)
theorem ga_ret (CX : Cx p s m args meth c cc own nL) {l0 : Al} {mc ms : Nat} {Post : Al → Prop} {pc : Nat} {ls : Lc} {μ : Al} (hr : meth.sig.returnType = none) (hd : decode cc pc = .ok (.return_, 1)) (hp : Post μ) (h1 : μ.length = l0.length + mc) (h2 : szs μ = szs l0 + ms) :
    Ga b0 l0.length (szs l0) cI cR D pre p l e R s m args below meth c (MQ below (QcA b0 cI cR D pre l0 mc ms Post) args s mc ms (Af b0)) nL pc ls [] μ := by
  intro g1 g2 g3 H locs lsA g4 g5 g6
  obtain ⟨hx, hb, hml, hown, hts, hnest, hlk⟩ := CX
  have e1 : μ.length - l0.length = mc := by omega
  have e2 : szs μ - szs l0 = ms := by omega
  show W p l e R s m args below meth c H locs (μ.length - l0.length) (szs μ - szs l0) _ _
  rw [e1, e2]
  exact W.vret hx hb hr (fun t ht hW => ⟨⟨μ, rfl, hp, h1, h2, by rw [ht]; exact g4⟩, g5.F ht⟩) g5.2.2 hd (hlocks := hlk)
end GA3

def A_new (cc : ByteArray) (own nm : String) (pre : Al) (n0 z0 bc bs : Nat) (Cal : Nat → List Vl → Al → Al → Nat → Nat → (Al → Prop) → Prop) (K : Nat → Lc → List Vl → Al → Prop) : Prop := ∀ {pc : Nat} {ls : Lc} {st : List Vl} {μ : Al} {idx ci : Nat} {q : Int}, (decode cc pc = .ok (.new idx, 3)) → (NLk own idx ci) → (μ.length + 1 ≤ n0 + bc) → (szs μ + clN ci ≤ z0 + bs) → (((pre.length + μ.length : Nat) : Int) = q) → (K (pc + 3) ls (vR 0 q :: st) (μ ++ [(0, ci, dfl ci)])) → K pc ls st μ
def A_newa (cc : ByteArray) (own nm : String) (pre : Al) (n0 z0 bc bs : Nat) (Cal : Nat → List Vl → Al → Al → Nat → Nat → (Al → Prop) → Prop) (K : Nat → Lc → List Vl → Al → Prop) : Prop := ∀ {pc : Nat} {ls : Lc} {st : List Vl} {μ : Al} {n q : Int} {nn : Nat}, (decode cc pc = .ok (.newarray .int, 2)) → (Cond.arrayClass .int ∈ gT) → ((nn : Int) = n) → (nn * 4 ≤ 536870912) → (μ.length + 1 ≤ n0 + bc) → (szs μ + nn ≤ z0 + bs) → (((pre.length + μ.length : Nat) : Int) = q) → (K (pc + 2) ls (vR 0 q :: st) (μ ++ [(1, nn, fun _ => vI 0)])) → K pc ls (vI n :: st) μ
def A_anew2 (cc : ByteArray) (own nm : String) (pre : Al) (n0 z0 bc bs : Nat) (Cal : Nat → List Vl → Al → Al → Nat → Nat → (Al → Prop) → Prop) (K : Nat → Lc → List Vl → Al → Prop) : Prop := ∀ {pc : Nat} {ls : Lc} {st : List Vl} {μ : Al} {n q : Int} {nn idx : Nat}, (decode cc pc = .ok (.anewarray idx, 3)) → (Cond.classLink own idx RX2 ∈ gT) → ((nn : Int) = n) → (nn * 4 ≤ 536870912) → (μ.length + 1 ≤ n0 + bc) → (szs μ + nn ≤ z0 + bs) → (((pre.length + μ.length : Nat) : Int) = q) → (K (pc + 3) ls (vR 0 q :: st) (μ ++ [(2, nn, fun _ => vN)])) → K pc ls (vI n :: st) μ
def A_anew3 (cc : ByteArray) (own nm : String) (pre : Al) (n0 z0 bc bs : Nat) (Cal : Nat → List Vl → Al → Al → Nat → Nat → (Al → Prop) → Prop) (K : Nat → Lc → List Vl → Al → Prop) : Prop := ∀ {pc : Nat} {ls : Lc} {st : List Vl} {μ : Al} {n q : Int} {nn idx : Nat}, (decode cc pc = .ok (.anewarray idx, 3)) → (Cond.classLink own idx RX4 ∈ gT) → ((nn : Int) = n) → (nn * 4 ≤ 536870912) → (μ.length + 1 ≤ n0 + bc) → (szs μ + nn ≤ z0 + bs) → (((pre.length + μ.length : Nat) : Int) = q) → (K (pc + 3) ls (vR 0 q :: st) (μ ++ [(3, nn, fun _ => vN)])) → K pc ls (vI n :: st) μ
def A_anew4 (cc : ByteArray) (own nm : String) (pre : Al) (n0 z0 bc bs : Nat) (Cal : Nat → List Vl → Al → Al → Nat → Nat → (Al → Prop) → Prop) (K : Nat → Lc → List Vl → Al → Prop) : Prop := ∀ {pc : Nat} {ls : Lc} {st : List Vl} {μ : Al} {n q : Int} {nn idx : Nat}, (decode cc pc = .ok (.anewarray idx, 3)) → (Cond.classLink own idx RX3 ∈ gT) → ((nn : Int) = n) → (nn * 4 ≤ 536870912) → (μ.length + 1 ≤ n0 + bc) → (szs μ + nn ≤ z0 + bs) → (((pre.length + μ.length : Nat) : Int) = q) → (K (pc + 3) ls (vR 0 q :: st) (μ ++ [(4, nn, fun _ => vN)])) → K pc ls (vI n :: st) μ
def A_mna (cc : ByteArray) (own nm : String) (pre : Al) (n0 z0 bc bs : Nat) (Cal : Nat → List Vl → Al → Al → Nat → Nat → (Al → Prop) → Prop) (K : Nat → Lc → List Vl → Al → Prop) : Prop := ∀ {pc : Nat} {ls : Lc} {st : List Vl} {μ : Al} {n k q : Int} {N M idx : Nat}, (decode cc pc = .ok (.multianewarray idx 2, 4)) → (Cond.classLink own idx "[[I" ∈ gT ∧ Cond.arrayClass .int ∈ gT) → ((N : Int) = n) → ((M : Int) = k) → (N * 4 ≤ 536870912) → (M * 4 ≤ 536870912) → (μ.length + (1 + N) ≤ n0 + bc) → (szs μ + (N + N * M) ≤ z0 + bs) → (((pre.length + μ.length : Nat) : Int) = q) → (K (pc + 4) ls (vR 0 q :: st) (μ ++ ((5, N, fun j => if j < N then vR 0 (q + 1 + (j : Int)) else vN) :: List.replicate N (1, M, fun _ => vI 0)))) → K pc ls (vI k :: vI n :: st) μ
def A_getf (cc : ByteArray) (own nm : String) (pre : Al) (n0 z0 bc bs : Nat) (Cal : Nat → List Vl → Al → Al → Nat → Nat → (Al → Prop) → Prop) (K : Nat → Lc → List Vl → Al → Prop) : Prop := ∀ {pc : Nat} {ls : Lc} {st : List Vl} {μ : Al} {idx ci j k : Nat} {ty : FieldType} {q : Int} {f : Nat → Vl} {v : Vl}, (decode cc pc = .ok (.getfield idx, 3)) → (FLk own idx ci j ty) → (μ[k]? = some (0, ci, f)) → (((pre.length + k : Nat) : Int) = q) → (f j = v) → (rV (vdA pre μ) v) → (K (pc + 3) ls (v :: st) μ) → K pc ls (vR 0 q :: st) μ
def A_putI (cc : ByteArray) (own nm : String) (pre : Al) (n0 z0 bc bs : Nat) (Cal : Nat → List Vl → Al → Al → Nat → Nat → (Al → Prop) → Prop) (K : Nat → Lc → List Vl → Al → Prop) : Prop := ∀ {pc : Nat} {ls : Lc} {st : List Vl} {μ : Al} {idx ci j k : Nat} {q a : Int} {f : Nat → Vl}, (decode cc pc = .ok (.putfield idx, 3)) → (FLw own idx ci j .int) → (∀ (C : String) (T : u_T) (N : Nat), vwCl[ci]? = some (C, T, N) → Cond.fieldLink own idx C (T j).2.1 (T j).2.2.1 ∈ gT) → (μ[k]? = some (0, ci, f)) → (((pre.length + k : Nat) : Int) = q) → (K (pc + 3) ls st (μ.set k (0, ci, updC f j (vI a)))) → K pc ls (vI a :: vR 0 q :: st) μ
def A_putR (cc : ByteArray) (own nm : String) (pre : Al) (n0 z0 bc bs : Nat) (Cal : Nat → List Vl → Al → Al → Nat → Nat → (Al → Prop) → Prop) (K : Nat → Lc → List Vl → Al → Prop) : Prop := ∀ {pc : Nat} {ls : Lc} {st : List Vl} {μ : Al} {idx ci j k : Nat} {ty : FieldType} {q a : Int} {f : Nat → Vl}, (decode cc pc = .ok (.putfield idx, 3)) → (FLf own idx ci j ty) → (nm = "<init>") → (∀ (C : String) (T : u_T) (N : Nat), vwCl[ci]? = some (C, T, N) → Cond.fieldLink own idx C (T j).2.1 (T j).2.2.1 ∈ gT) → (μ[k]? = some (0, ci, f)) → (((pre.length + k : Nat) : Int) = q) → (∀ x : Nat, narrow ty (.ref x) = .ref x ∧ fits ty (.ref x) = true) → (K (pc + 3) ls st (μ.set k (0, ci, updC f j (vR 0 a)))) → K pc ls (vR 0 a :: vR 0 q :: st) μ
def A_iast (cc : ByteArray) (own nm : String) (pre : Al) (n0 z0 bc bs : Nat) (Cal : Nat → List Vl → Al → Al → Nat → Nat → (Al → Prop) → Prop) (K : Nat → Lc → List Vl → Al → Prop) : Prop := ∀ {pc : Nat} {ls : Lc} {st : List Vl} {μ : Al} {k n : Nat} {q i a : Int} {f : Nat → Vl}, (decode cc pc = .ok (.iastore, 1)) → (μ[k]? = some (1, n, f)) → (((pre.length + k : Nat) : Int) = q) → (0 ≤ i) → (i < (n : Int)) → (K (pc + 1) ls st (μ.set k (1, n, updC f i.toNat (vI a)))) → K pc ls (vI a :: vI i :: vR 0 q :: st) μ
def A_alen (cc : ByteArray) (own nm : String) (pre : Al) (n0 z0 bc bs : Nat) (Cal : Nat → List Vl → Al → Al → Nat → Nat → (Al → Prop) → Prop) (K : Nat → Lc → List Vl → Al → Prop) : Prop := ∀ {pc : Nat} {ls : Lc} {st : List Vl} {μ : Al} {k n : Nat} {q nz : Int} {f : Nat → Vl}, (decode cc pc = .ok (.arraylength, 1)) → (μ[k]? = some (1, n, f)) → (((pre.length + k : Nat) : Int) = q) → ((n : Int) = nz) → (n < 2147483648) → (K (pc + 1) ls (vI nz :: st) μ) → K pc ls (vR 0 q :: st) μ
def A_aast2 (cc : ByteArray) (own nm : String) (pre : Al) (n0 z0 bc bs : Nat) (Cal : Nat → List Vl → Al → Al → Nat → Nat → (Al → Prop) → Prop) (K : Nat → Lc → List Vl → Al → Prop) : Prop := ∀ {pc : Nat} {ls : Lc} {st : List Vl} {μ : Al} {k n kv : Nat} {q i qv : Int} {f fv : Nat → Vl}, (decode cc pc = .ok (.aastore, 1)) → (μ[k]? = some (2, n, f)) → (((pre.length + k : Nat) : Int) = q) → (0 ≤ i) → (i < (n : Int)) → (μ[kv]? = some (0, 2, fv)) → (((pre.length + kv : Nat) : Int) = qv) → (K (pc + 1) ls st (μ.set k (2, n, updC f i.toNat (vR 0 qv)))) → K pc ls (vR 0 qv :: vI i :: vR 0 q :: st) μ
def A_aast3 (cc : ByteArray) (own nm : String) (pre : Al) (n0 z0 bc bs : Nat) (Cal : Nat → List Vl → Al → Al → Nat → Nat → (Al → Prop) → Prop) (K : Nat → Lc → List Vl → Al → Prop) : Prop := ∀ {pc : Nat} {ls : Lc} {st : List Vl} {μ : Al} {k n kv : Nat} {q i qv : Int} {f fv : Nat → Vl}, (decode cc pc = .ok (.aastore, 1)) → (μ[k]? = some (3, n, f)) → (((pre.length + k : Nat) : Int) = q) → (0 ≤ i) → (i < (n : Int)) → (μ[kv]? = some (0, 4, fv)) → (((pre.length + kv : Nat) : Int) = qv) → (K (pc + 1) ls st (μ.set k (3, n, updC f i.toNat (vR 0 qv)))) → K pc ls (vR 0 qv :: vI i :: vR 0 q :: st) μ
def A_aast4 (cc : ByteArray) (own nm : String) (pre : Al) (n0 z0 bc bs : Nat) (Cal : Nat → List Vl → Al → Al → Nat → Nat → (Al → Prop) → Prop) (K : Nat → Lc → List Vl → Al → Prop) : Prop := ∀ {pc : Nat} {ls : Lc} {st : List Vl} {μ : Al} {k n kv : Nat} {q i qv : Int} {f fv : Nat → Vl}, (decode cc pc = .ok (.aastore, 1)) → (μ[k]? = some (4, n, f)) → (((pre.length + k : Nat) : Int) = q) → (0 ≤ i) → (i < (n : Int)) → (μ[kv]? = some (0, 3, fv)) → (((pre.length + kv : Nat) : Int) = qv) → (K (pc + 1) ls st (μ.set k (4, n, updC f i.toNat (vR 0 qv)))) → K pc ls (vR 0 qv :: vI i :: vR 0 q :: st) μ
def A_obj (cc : ByteArray) (own nm : String) (pre : Al) (n0 z0 bc bs : Nat) (Cal : Nat → List Vl → Al → Al → Nat → Nat → (Al → Prop) → Prop) (K : Nat → Lc → List Vl → Al → Prop) : Prop := ∀ {pc : Nat} {ls : Lc} {st : List Vl} {μ : Al} {idx : Nat} {q : Int}, (decode cc pc = .ok (.invokespecial idx, 3)) → (Cond.methodLink own idx Lib.objectInit ∈ gT ∧ Cond.instanceMethod Lib.objectInit ∈ gT ∧ Cond.code Lib.objectInit ⟨#[0xb1]⟩ 1 none ∈ gT) → (csum st ≤ 8) → (K (pc + 3) ls st μ) → K pc ls (vR 0 q :: st) μ
def A_call (cc : ByteArray) (own nm : String) (pre : Al) (n0 z0 bc bs : Nat) (Cal : Nat → List Vl → Al → Al → Nat → Nat → (Al → Prop) → Prop) (K : Nat → Lc → List Vl → Al → Prop) : Prop := ∀ {pc : Nat} {ls : Lc} {rest as : List Vl} {l1 l0 : Al} {idx M : Nat} {q : Int} {mc ms : Nat}, (decode cc pc = .ok (.invokespecial idx, 3)) → (ILk own idx M) → (as.length = mp M) → (csum (vR 0 q :: as) ≤ ml M) → (csum rest ≤ 8) → ((l1 ++ l0).length + mc ≤ n0 + bc) → (szs (l1 ++ l0) + ms ≤ z0 + bs) → (Cal M (vR 0 q :: as) (pre ++ l1) l0 mc ms (fun l2 => K (pc + 3) ls rest (l1 ++ l2))) → K pc ls (as.reverse ++ vR 0 q :: rest) (l1 ++ l0)
def A_fill (cc : ByteArray) (own nm : String) (pre : Al) (n0 z0 bc bs : Nat) (Cal : Nat → List Vl → Al → Al → Nat → Nat → (Al → Prop) → Prop) (K : Nat → Lc → List Vl → Al → Prop) : Prop := ∀ {pc : Nat} {ls : Lc} {rest as : List Vl} {l0 : Al} {idx M : Nat}, (decode cc pc = .ok (.invokestatic idx, 3)) → (TLk own idx M) → (mr M = none) → (as.length = mp M) → (csum as ≤ ml M) → (csum rest ≤ 8) → (l0.length ≤ n0 + bc) → (szs l0 ≤ z0 + bs) → (Cal M as pre l0 0 0 (fun l2 => K (pc + 3) ls rest l2)) → K pc ls (as.reverse ++ rest) l0
def StpN (cc : ByteArray) (own nm : String) (pre : Al) (n0 z0 bc bs : Nat) (Cal : Nat → List Vl → Al → Al → Nat → Nat → (Al → Prop) → Prop) (K : Nat → Lc → List Vl → Al → Prop) : Prop := StpC (vdA pre) (fun μ : Al => n0 ≤ μ.length ∧ z0 ≤ szs μ) cc own K ∧ A_new cc own nm pre n0 z0 bc bs Cal K ∧ A_newa cc own nm pre n0 z0 bc bs Cal K ∧ A_anew2 cc own nm pre n0 z0 bc bs Cal K ∧ A_anew3 cc own nm pre n0 z0 bc bs Cal K ∧ A_anew4 cc own nm pre n0 z0 bc bs Cal K ∧ A_mna cc own nm pre n0 z0 bc bs Cal K ∧ A_getf cc own nm pre n0 z0 bc bs Cal K ∧ A_putI cc own nm pre n0 z0 bc bs Cal K ∧ A_putR cc own nm pre n0 z0 bc bs Cal K ∧ A_iast cc own nm pre n0 z0 bc bs Cal K ∧ A_alen cc own nm pre n0 z0 bc bs Cal K ∧ A_aast2 cc own nm pre n0 z0 bc bs Cal K ∧ A_aast3 cc own nm pre n0 z0 bc bs Cal K ∧ A_aast4 cc own nm pre n0 z0 bc bs Cal K ∧ A_obj cc own nm pre n0 z0 bc bs Cal K ∧ A_call cc own nm pre n0 z0 bc bs Cal K ∧ A_fill cc own nm pre n0 z0 bc bs Cal K
def StpA (cc : ByteArray) (own nm : String) (pre l0 : Al) (mc ms : Nat) (Cal : Nat → List Vl → Al → Al → Nat → Nat → (Al → Prop) → Prop) (Post : Al → Prop) (K : Nat → Lc → List Vl → Al → Prop) : Prop := StpN cc own nm pre l0.length (szs l0) mc ms Cal K ∧ ∀ {pc : Nat} {ls : Lc} {μ : Al}, decode cc pc = .ok (.return_, 1) → Post μ → μ.length = l0.length + mc → szs μ = szs l0 + ms → K pc ls [] μ
section AROWS
variable {cc : ByteArray} {own nm : String} {pre : Al} {n0 z0 bc bs : Nat} {Cal : Nat → List Vl → Al → Al → Nat → Nat → (Al → Prop) → Prop} {K : Nat → Lc → List Vl → Al → Prop}
theorem n_new (hN : StpN cc own nm pre n0 z0 bc bs Cal K) {pc : Nat} {ls : Lc} {st : List Vl} {μ : Al} {idx ci : Nat} {q : Int} (hd : decode cc pc = .ok (.new idx, 3)) (hl : NLk own idx ci) (hc : μ.length + 1 ≤ n0 + bc) (hs : szs μ + clN ci ≤ z0 + bs) (hq : ((pre.length + μ.length : Nat) : Int) = q) (k_ : K (pc + 3) ls (vR 0 q :: st) (μ ++ [(0, ci, dfl ci)])) : K pc ls st μ := hN.2.1 hd hl hc hs hq k_
theorem n_newa (hN : StpN cc own nm pre n0 z0 bc bs Cal K) {pc : Nat} {ls : Lc} {st : List Vl} {μ : Al} {n q : Int} {nn : Nat} (hd : decode cc pc = .ok (.newarray .int, 2)) (hw : Cond.arrayClass .int ∈ gT) (hn : (nn : Int) = n) (hn2 : nn * 4 ≤ 536870912) (hc : μ.length + 1 ≤ n0 + bc) (hs : szs μ + nn ≤ z0 + bs) (hq : ((pre.length + μ.length : Nat) : Int) = q) (k_ : K (pc + 2) ls (vR 0 q :: st) (μ ++ [(1, nn, fun _ => vI 0)])) : K pc ls (vI n :: st) μ := hN.2.2.1 hd hw hn hn2 hc hs hq k_
theorem n_anew2 (hN : StpN cc own nm pre n0 z0 bc bs Cal K) {pc : Nat} {ls : Lc} {st : List Vl} {μ : Al} {n q : Int} {nn idx : Nat} (hd : decode cc pc = .ok (.anewarray idx, 3)) (hw : Cond.classLink own idx RX2 ∈ gT) (hn : (nn : Int) = n) (hn2 : nn * 4 ≤ 536870912) (hc : μ.length + 1 ≤ n0 + bc) (hs : szs μ + nn ≤ z0 + bs) (hq : ((pre.length + μ.length : Nat) : Int) = q) (k_ : K (pc + 3) ls (vR 0 q :: st) (μ ++ [(2, nn, fun _ => vN)])) : K pc ls (vI n :: st) μ := hN.2.2.2.1 hd hw hn hn2 hc hs hq k_
theorem n_anew3 (hN : StpN cc own nm pre n0 z0 bc bs Cal K) {pc : Nat} {ls : Lc} {st : List Vl} {μ : Al} {n q : Int} {nn idx : Nat} (hd : decode cc pc = .ok (.anewarray idx, 3)) (hw : Cond.classLink own idx RX4 ∈ gT) (hn : (nn : Int) = n) (hn2 : nn * 4 ≤ 536870912) (hc : μ.length + 1 ≤ n0 + bc) (hs : szs μ + nn ≤ z0 + bs) (hq : ((pre.length + μ.length : Nat) : Int) = q) (k_ : K (pc + 3) ls (vR 0 q :: st) (μ ++ [(3, nn, fun _ => vN)])) : K pc ls (vI n :: st) μ := hN.2.2.2.2.1 hd hw hn hn2 hc hs hq k_
theorem n_anew4 (hN : StpN cc own nm pre n0 z0 bc bs Cal K) {pc : Nat} {ls : Lc} {st : List Vl} {μ : Al} {n q : Int} {nn idx : Nat} (hd : decode cc pc = .ok (.anewarray idx, 3)) (hw : Cond.classLink own idx RX3 ∈ gT) (hn : (nn : Int) = n) (hn2 : nn * 4 ≤ 536870912) (hc : μ.length + 1 ≤ n0 + bc) (hs : szs μ + nn ≤ z0 + bs) (hq : ((pre.length + μ.length : Nat) : Int) = q) (k_ : K (pc + 3) ls (vR 0 q :: st) (μ ++ [(4, nn, fun _ => vN)])) : K pc ls (vI n :: st) μ := hN.2.2.2.2.2.1 hd hw hn hn2 hc hs hq k_
theorem n_mna (hN : StpN cc own nm pre n0 z0 bc bs Cal K) {pc : Nat} {ls : Lc} {st : List Vl} {μ : Al} {n k q : Int} {N M idx : Nat} (hd : decode cc pc = .ok (.multianewarray idx 2, 4)) (hw : Cond.classLink own idx "[[I" ∈ gT ∧ Cond.arrayClass .int ∈ gT) (hn : (N : Int) = n) (hk : (M : Int) = k) (hb1 : N * 4 ≤ 536870912) (hb2 : M * 4 ≤ 536870912) (hc : μ.length + (1 + N) ≤ n0 + bc) (hs : szs μ + (N + N * M) ≤ z0 + bs) (hq : ((pre.length + μ.length : Nat) : Int) = q) (k_ : K (pc + 4) ls (vR 0 q :: st) (μ ++ ((5, N, fun j => if j < N then vR 0 (q + 1 + (j : Int)) else vN) :: List.replicate N (1, M, fun _ => vI 0)))) : K pc ls (vI k :: vI n :: st) μ := hN.2.2.2.2.2.2.1 hd hw hn hk hb1 hb2 hc hs hq k_
theorem n_getf (hN : StpN cc own nm pre n0 z0 bc bs Cal K) {pc : Nat} {ls : Lc} {st : List Vl} {μ : Al} {idx ci j k : Nat} {ty : FieldType} {q : Int} {f : Nat → Vl} {v : Vl} (hd : decode cc pc = .ok (.getfield idx, 3)) (hf : FLk own idx ci j ty) (hk : μ[k]? = some (0, ci, f)) (hq : ((pre.length + k : Nat) : Int) = q) (hv : f j = v) (hr : rV (vdA pre μ) v) (k_ : K (pc + 3) ls (v :: st) μ) : K pc ls (vR 0 q :: st) μ := hN.2.2.2.2.2.2.2.1 hd hf hk hq hv hr k_
theorem n_putI (hN : StpN cc own nm pre n0 z0 bc bs Cal K) {pc : Nat} {ls : Lc} {st : List Vl} {μ : Al} {idx ci j k : Nat} {q a : Int} {f : Nat → Vl} (hd : decode cc pc = .ok (.putfield idx, 3)) (hf : FLw own idx ci j .int) (hg : ∀ (C : String) (T : u_T) (N : Nat), vwCl[ci]? = some (C, T, N) → Cond.fieldLink own idx C (T j).2.1 (T j).2.2.1 ∈ gT) (hk : μ[k]? = some (0, ci, f)) (hq : ((pre.length + k : Nat) : Int) = q) (k_ : K (pc + 3) ls st (μ.set k (0, ci, updC f j (vI a)))) : K pc ls (vI a :: vR 0 q :: st) μ := hN.2.2.2.2.2.2.2.2.1 hd hf hg hk hq k_
theorem n_putR (hN : StpN cc own nm pre n0 z0 bc bs Cal K) {pc : Nat} {ls : Lc} {st : List Vl} {μ : Al} {idx ci j k : Nat} {ty : FieldType} {q a : Int} {f : Nat → Vl} (hd : decode cc pc = .ok (.putfield idx, 3)) (hf : FLf own idx ci j ty) (hm : nm = "<init>") (hg : ∀ (C : String) (T : u_T) (N : Nat), vwCl[ci]? = some (C, T, N) → Cond.fieldLink own idx C (T j).2.1 (T j).2.2.1 ∈ gT) (hk : μ[k]? = some (0, ci, f)) (hq : ((pre.length + k : Nat) : Int) = q) (hn : ∀ x : Nat, narrow ty (.ref x) = .ref x ∧ fits ty (.ref x) = true) (k_ : K (pc + 3) ls st (μ.set k (0, ci, updC f j (vR 0 a)))) : K pc ls (vR 0 a :: vR 0 q :: st) μ := hN.2.2.2.2.2.2.2.2.2.1 hd hf hm hg hk hq hn k_
theorem n_iast (hN : StpN cc own nm pre n0 z0 bc bs Cal K) {pc : Nat} {ls : Lc} {st : List Vl} {μ : Al} {k n : Nat} {q i a : Int} {f : Nat → Vl} (hd : decode cc pc = .ok (.iastore, 1)) (hk : μ[k]? = some (1, n, f)) (hq : ((pre.length + k : Nat) : Int) = q) (h0 : 0 ≤ i) (h1 : i < (n : Int)) (k_ : K (pc + 1) ls st (μ.set k (1, n, updC f i.toNat (vI a)))) : K pc ls (vI a :: vI i :: vR 0 q :: st) μ := hN.2.2.2.2.2.2.2.2.2.2.1 hd hk hq h0 h1 k_
theorem n_alen (hN : StpN cc own nm pre n0 z0 bc bs Cal K) {pc : Nat} {ls : Lc} {st : List Vl} {μ : Al} {k n : Nat} {q nz : Int} {f : Nat → Vl} (hd : decode cc pc = .ok (.arraylength, 1)) (hk : μ[k]? = some (1, n, f)) (hq : ((pre.length + k : Nat) : Int) = q) (hz : (n : Int) = nz) (hn : n < 2147483648) (k_ : K (pc + 1) ls (vI nz :: st) μ) : K pc ls (vR 0 q :: st) μ := hN.2.2.2.2.2.2.2.2.2.2.2.1 hd hk hq hz hn k_
theorem n_aast2 (hN : StpN cc own nm pre n0 z0 bc bs Cal K) {pc : Nat} {ls : Lc} {st : List Vl} {μ : Al} {k n kv : Nat} {q i qv : Int} {f fv : Nat → Vl} (hd : decode cc pc = .ok (.aastore, 1)) (hk : μ[k]? = some (2, n, f)) (hq : ((pre.length + k : Nat) : Int) = q) (h0 : 0 ≤ i) (h1 : i < (n : Int)) (hkv : μ[kv]? = some (0, 2, fv)) (hqv : ((pre.length + kv : Nat) : Int) = qv) (k_ : K (pc + 1) ls st (μ.set k (2, n, updC f i.toNat (vR 0 qv)))) : K pc ls (vR 0 qv :: vI i :: vR 0 q :: st) μ := hN.2.2.2.2.2.2.2.2.2.2.2.2.1 hd hk hq h0 h1 hkv hqv k_
theorem n_aast3 (hN : StpN cc own nm pre n0 z0 bc bs Cal K) {pc : Nat} {ls : Lc} {st : List Vl} {μ : Al} {k n kv : Nat} {q i qv : Int} {f fv : Nat → Vl} (hd : decode cc pc = .ok (.aastore, 1)) (hk : μ[k]? = some (3, n, f)) (hq : ((pre.length + k : Nat) : Int) = q) (h0 : 0 ≤ i) (h1 : i < (n : Int)) (hkv : μ[kv]? = some (0, 4, fv)) (hqv : ((pre.length + kv : Nat) : Int) = qv) (k_ : K (pc + 1) ls st (μ.set k (3, n, updC f i.toNat (vR 0 qv)))) : K pc ls (vR 0 qv :: vI i :: vR 0 q :: st) μ := hN.2.2.2.2.2.2.2.2.2.2.2.2.2.1 hd hk hq h0 h1 hkv hqv k_
theorem n_aast4 (hN : StpN cc own nm pre n0 z0 bc bs Cal K) {pc : Nat} {ls : Lc} {st : List Vl} {μ : Al} {k n kv : Nat} {q i qv : Int} {f fv : Nat → Vl} (hd : decode cc pc = .ok (.aastore, 1)) (hk : μ[k]? = some (4, n, f)) (hq : ((pre.length + k : Nat) : Int) = q) (h0 : 0 ≤ i) (h1 : i < (n : Int)) (hkv : μ[kv]? = some (0, 3, fv)) (hqv : ((pre.length + kv : Nat) : Int) = qv) (k_ : K (pc + 1) ls st (μ.set k (4, n, updC f i.toNat (vR 0 qv)))) : K pc ls (vR 0 qv :: vI i :: vR 0 q :: st) μ := hN.2.2.2.2.2.2.2.2.2.2.2.2.2.2.1 hd hk hq h0 h1 hkv hqv k_
theorem n_obj (hN : StpN cc own nm pre n0 z0 bc bs Cal K) {pc : Nat} {ls : Lc} {st : List Vl} {μ : Al} {idx : Nat} {q : Int} (hd : decode cc pc = .ok (.invokespecial idx, 3)) (hl : Cond.methodLink own idx Lib.objectInit ∈ gT ∧ Cond.instanceMethod Lib.objectInit ∈ gT ∧ Cond.code Lib.objectInit ⟨#[0xb1]⟩ 1 none ∈ gT) (hst : csum st ≤ 8) (k_ : K (pc + 3) ls st μ) : K pc ls (vR 0 q :: st) μ := hN.2.2.2.2.2.2.2.2.2.2.2.2.2.2.2.1 hd hl hst k_
theorem n_call (hN : StpN cc own nm pre n0 z0 bc bs Cal K) {pc : Nat} {ls : Lc} {rest as : List Vl} {l1 l0 : Al} {idx M : Nat} {q : Int} {mc ms : Nat} (hd : decode cc pc = .ok (.invokespecial idx, 3)) (hl : ILk own idx M) (hlen : as.length = mp M) (hcs : csum (vR 0 q :: as) ≤ ml M) (hst : csum rest ≤ 8) (hc : (l1 ++ l0).length + mc ≤ n0 + bc) (hs : szs (l1 ++ l0) + ms ≤ z0 + bs) (k_ : Cal M (vR 0 q :: as) (pre ++ l1) l0 mc ms (fun l2 => K (pc + 3) ls rest (l1 ++ l2))) : K pc ls (as.reverse ++ vR 0 q :: rest) (l1 ++ l0) := hN.2.2.2.2.2.2.2.2.2.2.2.2.2.2.2.2.1 hd hl hlen hcs hst hc hs k_
theorem n_fill (hN : StpN cc own nm pre n0 z0 bc bs Cal K) {pc : Nat} {ls : Lc} {rest as : List Vl} {l0 : Al} {idx M : Nat} (hd : decode cc pc = .ok (.invokestatic idx, 3)) (hl : TLk own idx M) (hret : mr M = none) (hlen : as.length = mp M) (hcs : csum as ≤ ml M) (hst : csum rest ≤ 8) (hc : l0.length ≤ n0 + bc) (hs : szs l0 ≤ z0 + bs) (k_ : Cal M as pre l0 0 0 (fun l2 => K (pc + 3) ls rest l2)) : K pc ls (as.reverse ++ rest) l0 := hN.2.2.2.2.2.2.2.2.2.2.2.2.2.2.2.2.2 hd hl hret hlen hcs hst hc hs k_
end AROWS
section ASND
variable {b0 n0 z0 bc bs : Nat} {cI : ClassId} {cR : Nat → ClassId} {D : va_G} {pre : Al}
variable {p : Program} {l : Launch} {e : Env} {R : Room} {s : State} {m : MethodId} {args : Array Value} {below : List Frame} {meth : Method} {c : Code} {Q : State → Prop} {nL : Nat} {cc : ByteArray} {own nm : String}
theorem stpN_Ga (CX : Cx p s m args meth c cc own nL) (CT : CAt cI cR D s) (hnm : meth.name = nm) {d : Nat} (hR : d + 1 ≤ R.frames ∧ 40 * (d + 1) ≤ R.locals) (hbc : bc ≤ R.cells) (hbs : bs ≤ R.slots) {Cal : Nat → List Vl → Al → Al → Nat → Nat → (Al → Prop) → Prop}
    (hCal : ∀ (M : Nat) (as : List Vl) (pre l0 : Al) (mc ms : Nat) (Post : Al → Prop), Cal M as pre l0 mc ms Post → csum as ≤ ml M → MOK M → mr M = none → Met l (my M) (wsM M) (rmA d mc ms) (PcA b0 cI cR D as pre l0) (QcA b0 cI cR D pre l0 mc ms Post) mc ms (Af b0)) :
    StpN cc own nm pre n0 z0 bc bs Cal (Ga b0 n0 z0 cI cR D pre p l e R s m args below meth c Q nL) := by
  have hR1 : 1 ≤ R.frames ∧ 40 ≤ R.locals := ⟨by omega, by omega⟩
  refine ⟨stpC_Gm CX, ?_, ?_, ?_, ?_, ?_, ?_, ?_, ?_, ?_, ?_, ?_, ?_, ?_, ?_, ?_, ?_, ?_⟩
  · intro pc ls st μ idx ci q hd hl hc hs hq k_
    exact ga_new CX CT hd hl (by omega) (by omega) hq k_
  · intro pc ls st μ n q nn hd hw hn hn2 hc hs hq k_
    exact ga_newa CX CT hd hw hn hn2 (by omega) (by omega) hq k_
  · intro pc ls st μ n q nn idx hd hw hn hn2 hc hs hq k_
    exact ga_anew (t := 0) CX CT hd hw CT.2.1 rfl hn hn2 (by omega) (by omega) hq k_
  · intro pc ls st μ n q nn idx hd hw hn hn2 hc hs hq k_
    exact ga_anew (t := 1) CX CT hd hw CT.2.2.1 rfl hn hn2 (by omega) (by omega) hq k_
  · intro pc ls st μ n q nn idx hd hw hn hn2 hc hs hq k_
    exact ga_anew (t := 2) CX CT hd hw CT.2.2.2.1 rfl hn hn2 (by omega) (by omega) hq k_
  · intro pc ls st μ n k q N M idx hd hw hn hk hb1 hb2 hc hs hq k_
    exact ga_mna CX CT hd hw hn hk hb1 hb2 (by omega) (by omega) hq k_
  · intro pc ls st μ idx ci j k ty q f v hd hf hk hq hv hr k_
    exact ga_getf CX CT hd hf hk hq hv hr k_
  · intro pc ls st μ idx ci j k q a f hd hf hg hk hq k_
    exact ga_put CX CT hd hf.1 (Or.inl hf.2) hk hq rfl rfl hg k_
  · intro pc ls st μ idx ci j k ty q a f hd hf hm hg hk hq hn k_
    exact ga_put CX CT hd hf.1 (Or.inr ⟨hnm.trans hm, hf.2⟩) hk hq (hn _).1 (hn _).2 hg k_
  · intro pc ls st μ k n q i a f hd hk hq h0 h1 k_
    exact ga_iast CX CT hd hk hq h0 h1 k_
  · intro pc ls st μ k n q nz f hd hk hq hz hn k_
    exact ga_alen CX CT hd hk hq hz hn k_
  · intro pc ls st μ k n kv q i qv f fv hd hk hq h0 h1 hkv hqv k_
    exact ga_aast (t := 0) CX CT hd hk hq h0 h1 hkv hqv rfl rfl k_
  · intro pc ls st μ k n kv q i qv f fv hd hk hq h0 h1 hkv hqv k_
    exact ga_aast (t := 1) CX CT hd hk hq h0 h1 hkv hqv rfl rfl k_
  · intro pc ls st μ k n kv q i qv f fv hd hk hq h0 h1 hkv hqv k_
    exact ga_aast (t := 2) CX CT hd hk hq h0 h1 hkv hqv rfl rfl k_
  · intro pc ls st μ idx q hd hl hst k_
    exact ga_obj CX hR1 hd hl hst k_
  · intro pc ls rest as l1 l0 idx M q mc ms hd hl hlen hcs hst hc hs k_
    exact ga_call CX CT hR hCal hd hl hlen hcs hst (by omega) (by omega) k_
  · intro pc ls rest as l0 idx M hd hl hret hlen hcs hst hc hs k_
    exact ga_fill CX CT hR hCal hd hl hret hlen hcs hst (by omega) (by omega) k_
end ASND
/-- what a constructor comes to: called with 'as' on cells 'pre' and then l0, it makes mc cells of ms slots -/
def WPA : Nat → Nat → List Vl → Al → Al → Nat → Nat → (Al → Prop) → Prop
  | 0, _, _, _, _, _, _, _ => False
  | d + 1, M, as, pre, l0, mc, ms, Post => ∀ K : Nat → Lc → List Vl → Al → Prop, StpA (mb M) (my M).cls (my M).name pre l0 mc ms (WPA d) Post K → K 0 (ent (ml M) as) [] l0
theorem WPA_met {b0 : Nat} {cI : ClassId} {cR : Nat → ClassId} {D : va_G} {l : Launch} : ∀ (d M : Nat) (as : List Vl) (pre l0 : Al) (mc ms : Nat) (Post : Al → Prop), WPA d M as pre l0 mc ms Post → csum as ≤ ml M → MOK M → mr M = none → Met l (my M) (wsM M) (rmA d mc ms) (PcA b0 cI cR D as pre l0) (QcA b0 cI cR D pre l0 mc ms Post) mc ms (Af b0)
  | 0, _, _, _, _, _, _, _, h, _, _, _ => h.elim
  | d + 1, M, as, pre, l0, mc, ms, Post, h, hcs, hmok, hret => by
    refine Met.ofWF (cc := mb M) (maxL := ml M) (ret := mr M) hmok.2.2.2.2.2 rfl ?_
    intro p e s m args below meth c s₁ B hml hv
    obtain ⟨rfl, hrs, hWf, hCT⟩ := hv
    have CX : Cx p s m (as.map (mv (adA b0))).toArray meth c (mb M) (my M).cls (ml M) := ⟨B.exec, B.bytes, hml, findClass_of_methodNamed B.named, fun w hw => atoms_spec (ws := wsM M) B.pre w (List.mem_cons_of_mem _ hw), hCT.2.2.2.2.2, B.notSynchronized⟩
    have hnm : meth.name = (my M).name := (name_of_methodNamed B.named B.method).1
    rw [lg_entry_eq]
    have k := h (Ga b0 l0.length (szs l0) cI cR D pre p l e (headSpec (wsM M) (rmA (d + 1) mc ms)).room s m (as.map (mv (adA b0))).toArray below meth c (MQ below (QcA b0 cI cR D pre l0 mc ms Post) (as.map (mv (adA b0))).toArray s mc ms (Af b0)) (ml M)) ⟨stpN_Ga CX hCT hnm (d := d) ⟨Nat.le_refl _, Nat.le_refl _⟩ (Nat.le_refl _) (Nat.le_refl _) (fun M as pre l0 mc ms Post h h1 h2 h3 => WPA_met d M as pre l0 mc ms Post h h1 h2 h3), fun hd hp h1 h2 => ga_ret CX (B.returns.trans hret) hd hp h1 h2⟩
      ⟨Nat.le_refl _, Nat.le_refl _⟩ (fun v hv => ent_rng hrs v hv) rS_nil s.heap [] _ hWf va_S.rf (ent_ok (adA b0) as hcs)
    have e1 : l0.length - l0.length = 0 := Nat.sub_self _
    have e2 : szs l0 - szs l0 = 0 := Nat.sub_self _
    simp only [e1, e2] at k
    exact k
-- links of the making
theorem arrI : Cond.arrayClass .int ∈ gT := List.mem_filter.mpr ⟨List.mem_append_right _ (List.mem_of_getElem? (i := 62) (by decide +kernel)), rfl⟩
theorem cl_RL_7 : Cond.classLink RL 7 RX5 ∈ gT := List.mem_filter.mpr ⟨List.mem_append_right _ (List.mem_of_getElem? (i := 12) (by decide +kernel)), rfl⟩
theorem nl_RL_7 : NLk RL 7 5 := ⟨RX5, TX5, 8, tyX5, rfl, rfl, cl_RL_7, List.mem_filter.mpr ⟨List.mem_append_right _ (List.mem_of_getElem? (i := 13) (by decide +kernel)), rfl⟩, List.mem_filter.mpr ⟨List.mem_append_right _ (List.mem_of_getElem? (i := 1) (by decide +kernel)), rfl⟩, inG5, tyX5_ok, fun j hj ad => by rcases (by omega : j = 0 ∨ j = 1 ∨ j = 2 ∨ j = 3 ∨ j = 4 ∨ j = 5 ∨ j = 6 ∨ j = 7) with rfl | rfl | rfl | rfl | rfl | rfl | rfl | rfl <;> rfl⟩
theorem ob_RX5_3 : Cond.methodLink RX5 3 Lib.objectInit ∈ gT ∧ Cond.instanceMethod Lib.objectInit ∈ gT ∧ Cond.code Lib.objectInit ⟨#[0xb1]⟩ 1 none ∈ gT := ⟨List.mem_filter.mpr ⟨List.mem_append_right _ (List.mem_of_getElem? (i := 17) (by decide +kernel)), rfl⟩, List.mem_filter.mpr ⟨List.mem_append_right _ (List.mem_of_getElem? (i := 18) (by decide +kernel)), rfl⟩, List.mem_filter.mpr ⟨List.mem_append_right _ (List.mem_of_getElem? (i := 19) (by decide +kernel)), rfl⟩⟩
theorem cl_RX5_11 : Cond.classLink RX5 11 RX2 ∈ gT := List.mem_filter.mpr ⟨List.mem_append_right _ (List.mem_of_getElem? (i := 20) (by decide +kernel)), rfl⟩
theorem nl_RX5_11 : NLk RX5 11 2 := ⟨RX2, TX2, 17, tyX2, rfl, rfl, cl_RX5_11, List.mem_filter.mpr ⟨List.mem_append_right _ (List.mem_of_getElem? (i := 24) (by decide +kernel)), rfl⟩, List.mem_filter.mpr ⟨List.mem_append_right _ (List.mem_of_getElem? (i := 2) (by decide +kernel)), rfl⟩, inG2, tyX2_ok, fun j hj ad => by rcases (by omega : j = 0 ∨ j = 1 ∨ j = 2 ∨ j = 3 ∨ j = 4 ∨ j = 5 ∨ j = 6 ∨ j = 7 ∨ j = 8 ∨ j = 9 ∨ j = 10 ∨ j = 11 ∨ j = 12 ∨ j = 13 ∨ j = 14 ∨ j = 15 ∨ j = 16) with rfl | rfl | rfl | rfl | rfl | rfl | rfl | rfl | rfl | rfl | rfl | rfl | rfl | rfl | rfl | rfl | rfl <;> rfl⟩
theorem cl_RX5_17 : Cond.classLink RX5 17 RX3 ∈ gT := List.mem_filter.mpr ⟨List.mem_append_right _ (List.mem_of_getElem? (i := 22) (by decide +kernel)), rfl⟩
theorem nl_RX5_17 : NLk RX5 17 3 := ⟨RX3, TX3, 4, tyX3, rfl, rfl, cl_RX5_17, List.mem_filter.mpr ⟨List.mem_append_right _ (List.mem_of_getElem? (i := 128) (by decide +kernel)), rfl⟩, List.mem_filter.mpr ⟨List.mem_append_right _ (List.mem_of_getElem? (i := 4) (by decide +kernel)), rfl⟩, inG3, tyX3_ok, fun j hj ad => by rcases (by omega : j = 0 ∨ j = 1 ∨ j = 2 ∨ j = 3) with rfl | rfl | rfl | rfl <;> rfl⟩
theorem ob_RX2_3 : Cond.methodLink RX2 3 Lib.objectInit ∈ gT ∧ Cond.instanceMethod Lib.objectInit ∈ gT ∧ Cond.code Lib.objectInit ⟨#[0xb1]⟩ 1 none ∈ gT := ⟨List.mem_filter.mpr ⟨List.mem_append_right _ (List.mem_of_getElem? (i := 28) (by decide +kernel)), rfl⟩, List.mem_filter.mpr ⟨List.mem_append_right _ (List.mem_of_getElem? (i := 18) (by decide +kernel)), rfl⟩, List.mem_filter.mpr ⟨List.mem_append_right _ (List.mem_of_getElem? (i := 19) (by decide +kernel)), rfl⟩⟩
theorem cl_RX2_25 : Cond.classLink RX2 25 RX0 ∈ gT := List.mem_filter.mpr ⟨List.mem_append_right _ (List.mem_of_getElem? (i := 29) (by decide +kernel)), rfl⟩
theorem nl_RX2_25 : NLk RX2 25 0 := ⟨RX0, TX0, 7, tyX0, rfl, rfl, cl_RX2_25, List.mem_filter.mpr ⟨List.mem_append_right _ (List.mem_of_getElem? (i := 30) (by decide +kernel)), rfl⟩, List.mem_filter.mpr ⟨List.mem_append_right _ (List.mem_of_getElem? (i := 3) (by decide +kernel)), rfl⟩, inG0, tyX0_ok, fun j hj ad => by rcases (by omega : j = 0 ∨ j = 1 ∨ j = 2 ∨ j = 3 ∨ j = 4 ∨ j = 5 ∨ j = 6) with rfl | rfl | rfl | rfl | rfl | rfl | rfl <;> rfl⟩
theorem ob_RX0_3 : Cond.methodLink RX0 3 Lib.objectInit ∈ gT ∧ Cond.instanceMethod Lib.objectInit ∈ gT ∧ Cond.code Lib.objectInit ⟨#[0xb1]⟩ 1 none ∈ gT := ⟨List.mem_filter.mpr ⟨List.mem_append_right _ (List.mem_of_getElem? (i := 34) (by decide +kernel)), rfl⟩, List.mem_filter.mpr ⟨List.mem_append_right _ (List.mem_of_getElem? (i := 18) (by decide +kernel)), rfl⟩, List.mem_filter.mpr ⟨List.mem_append_right _ (List.mem_of_getElem? (i := 19) (by decide +kernel)), rfl⟩⟩
theorem fg_RX0_9 : ∀ (C : String) (T : u_T) (N : Nat), vwCl[0]? = some (C, T, N) → Cond.fieldLink RX0 9 C (T 0).2.1 (T 0).2.2.1 ∈ gT := fun C T N h => by cases h; exact List.mem_filter.mpr ⟨List.mem_append_right _ (List.mem_of_getElem? (i := 35) (by decide +kernel)), rfl⟩
theorem fg_RX0_15 : ∀ (C : String) (T : u_T) (N : Nat), vwCl[0]? = some (C, T, N) → Cond.fieldLink RX0 15 C (T 1).2.1 (T 1).2.2.1 ∈ gT := fun C T N h => by cases h; exact List.mem_filter.mpr ⟨List.mem_append_right _ (List.mem_of_getElem? (i := 37) (by decide +kernel)), rfl⟩
theorem fg_RX0_18 : ∀ (C : String) (T : u_T) (N : Nat), vwCl[0]? = some (C, T, N) → Cond.fieldLink RX0 18 C (T 2).2.1 (T 2).2.2.1 ∈ gT := fun C T N h => by cases h; exact List.mem_filter.mpr ⟨List.mem_append_right _ (List.mem_of_getElem? (i := 38) (by decide +kernel)), rfl⟩
theorem fg_RX0_21 : ∀ (C : String) (T : u_T) (N : Nat), vwCl[0]? = some (C, T, N) → Cond.fieldLink RX0 21 C (T 3).2.1 (T 3).2.2.1 ∈ gT := fun C T N h => by cases h; exact List.mem_filter.mpr ⟨List.mem_append_right _ (List.mem_of_getElem? (i := 40) (by decide +kernel)), rfl⟩
theorem fg_RX0_24 : ∀ (C : String) (T : u_T) (N : Nat), vwCl[0]? = some (C, T, N) → Cond.fieldLink RX0 24 C (T 4).2.1 (T 4).2.2.1 ∈ gT := fun C T N h => by cases h; exact List.mem_filter.mpr ⟨List.mem_append_right _ (List.mem_of_getElem? (i := 42) (by decide +kernel)), rfl⟩
theorem fg_RX0_27 : ∀ (C : String) (T : u_T) (N : Nat), vwCl[0]? = some (C, T, N) → Cond.fieldLink RX0 27 C (T 5).2.1 (T 5).2.2.1 ∈ gT := fun C T N h => by cases h; exact List.mem_filter.mpr ⟨List.mem_append_right _ (List.mem_of_getElem? (i := 43) (by decide +kernel)), rfl⟩
theorem fg_RX0_30 : ∀ (C : String) (T : u_T) (N : Nat), vwCl[0]? = some (C, T, N) → Cond.fieldLink RX0 30 C (T 6).2.1 (T 6).2.2.1 ∈ gT := fun C T N h => by cases h; exact List.mem_filter.mpr ⟨List.mem_append_right _ (List.mem_of_getElem? (i := 45) (by decide +kernel)), rfl⟩
theorem fg_RX2_9 : ∀ (C : String) (T : u_T) (N : Nat), vwCl[2]? = some (C, T, N) → Cond.fieldLink RX2 9 C (T 0).2.1 (T 0).2.2.1 ∈ gT := fun C T N h => by cases h; exact List.mem_filter.mpr ⟨List.mem_append_right _ (List.mem_of_getElem? (i := 63) (by decide +kernel)), rfl⟩
theorem fg_RX2_32 : ∀ (C : String) (T : u_T) (N : Nat), vwCl[2]? = some (C, T, N) → Cond.fieldLink RX2 32 C (T 1).2.1 (T 1).2.2.1 ∈ gT := fun C T N h => by cases h; exact List.mem_filter.mpr ⟨List.mem_append_right _ (List.mem_of_getElem? (i := 65) (by decide +kernel)), rfl⟩
theorem fg_RX2_36 : ∀ (C : String) (T : u_T) (N : Nat), vwCl[2]? = some (C, T, N) → Cond.fieldLink RX2 36 C (T 2).2.1 (T 2).2.2.1 ∈ gT := fun C T N h => by cases h; exact List.mem_filter.mpr ⟨List.mem_append_right _ (List.mem_of_getElem? (i := 67) (by decide +kernel)), rfl⟩
theorem fg_RX2_39 : ∀ (C : String) (T : u_T) (N : Nat), vwCl[2]? = some (C, T, N) → Cond.fieldLink RX2 39 C (T 3).2.1 (T 3).2.2.1 ∈ gT := fun C T N h => by cases h; exact List.mem_filter.mpr ⟨List.mem_append_right _ (List.mem_of_getElem? (i := 69) (by decide +kernel)), rfl⟩
theorem fg_RX2_42 : ∀ (C : String) (T : u_T) (N : Nat), vwCl[2]? = some (C, T, N) → Cond.fieldLink RX2 42 C (T 4).2.1 (T 4).2.2.1 ∈ gT := fun C T N h => by cases h; exact List.mem_filter.mpr ⟨List.mem_append_right _ (List.mem_of_getElem? (i := 71) (by decide +kernel)), rfl⟩
theorem fg_RX2_45 : ∀ (C : String) (T : u_T) (N : Nat), vwCl[2]? = some (C, T, N) → Cond.fieldLink RX2 45 C (T 5).2.1 (T 5).2.2.1 ∈ gT := fun C T N h => by cases h; exact List.mem_filter.mpr ⟨List.mem_append_right _ (List.mem_of_getElem? (i := 72) (by decide +kernel)), rfl⟩
theorem fg_RX2_48 : ∀ (C : String) (T : u_T) (N : Nat), vwCl[2]? = some (C, T, N) → Cond.fieldLink RX2 48 C (T 6).2.1 (T 6).2.2.1 ∈ gT := fun C T N h => by cases h; exact List.mem_filter.mpr ⟨List.mem_append_right _ (List.mem_of_getElem? (i := 73) (by decide +kernel)), rfl⟩
theorem fg_RX2_15 : ∀ (C : String) (T : u_T) (N : Nat), vwCl[2]? = some (C, T, N) → Cond.fieldLink RX2 15 C (T 7).2.1 (T 7).2.2.1 ∈ gT := fun C T N h => by cases h; exact List.mem_filter.mpr ⟨List.mem_append_right _ (List.mem_of_getElem? (i := 75) (by decide +kernel)), rfl⟩
theorem ff_RX2_15 : FLf RX2 15 2 7 (.array .int) := ⟨fl_RX2_15, fun C T N h => by cases h; exact ⟨rfl, rfl⟩⟩
theorem fg_RX2_19 : ∀ (C : String) (T : u_T) (N : Nat), vwCl[2]? = some (C, T, N) → Cond.fieldLink RX2 19 C (T 8).2.1 (T 8).2.2.1 ∈ gT := fun C T N h => by cases h; exact List.mem_filter.mpr ⟨List.mem_append_right _ (List.mem_of_getElem? (i := 77) (by decide +kernel)), rfl⟩
theorem ff_RX2_19 : FLf RX2 19 2 8 (.array .int) := ⟨fl_RX2_19, fun C T N h => by cases h; exact ⟨rfl, rfl⟩⟩
theorem fg_RX2_22 : ∀ (C : String) (T : u_T) (N : Nat), vwCl[2]? = some (C, T, N) → Cond.fieldLink RX2 22 C (T 9).2.1 (T 9).2.2.1 ∈ gT := fun C T N h => by cases h; exact List.mem_filter.mpr ⟨List.mem_append_right _ (List.mem_of_getElem? (i := 79) (by decide +kernel)), rfl⟩
theorem ff_RX2_22 : FLf RX2 22 2 9 (.array .int) := ⟨fl_RX2_22, fun C T N h => by cases h; exact ⟨rfl, rfl⟩⟩
theorem fg_RX2_51 : ∀ (C : String) (T : u_T) (N : Nat), vwCl[2]? = some (C, T, N) → Cond.fieldLink RX2 51 C (T 10).2.1 (T 10).2.2.1 ∈ gT := fun C T N h => by cases h; exact List.mem_filter.mpr ⟨List.mem_append_right _ (List.mem_of_getElem? (i := 81) (by decide +kernel)), rfl⟩
theorem fg_RX2_54 : ∀ (C : String) (T : u_T) (N : Nat), vwCl[2]? = some (C, T, N) → Cond.fieldLink RX2 54 C (T 11).2.1 (T 11).2.2.1 ∈ gT := fun C T N h => by cases h; exact List.mem_filter.mpr ⟨List.mem_append_right _ (List.mem_of_getElem? (i := 83) (by decide +kernel)), rfl⟩
theorem fg_RX2_57 : ∀ (C : String) (T : u_T) (N : Nat), vwCl[2]? = some (C, T, N) → Cond.fieldLink RX2 57 C (T 12).2.1 (T 12).2.2.1 ∈ gT := fun C T N h => by cases h; exact List.mem_filter.mpr ⟨List.mem_append_right _ (List.mem_of_getElem? (i := 85) (by decide +kernel)), rfl⟩
theorem fg_RX2_60 : ∀ (C : String) (T : u_T) (N : Nat), vwCl[2]? = some (C, T, N) → Cond.fieldLink RX2 60 C (T 13).2.1 (T 13).2.2.1 ∈ gT := fun C T N h => by cases h; exact List.mem_filter.mpr ⟨List.mem_append_right _ (List.mem_of_getElem? (i := 86) (by decide +kernel)), rfl⟩
theorem fg_RX2_63 : ∀ (C : String) (T : u_T) (N : Nat), vwCl[2]? = some (C, T, N) → Cond.fieldLink RX2 63 C (T 14).2.1 (T 14).2.2.1 ∈ gT := fun C T N h => by cases h; exact List.mem_filter.mpr ⟨List.mem_append_right _ (List.mem_of_getElem? (i := 88) (by decide +kernel)), rfl⟩
theorem fg_RX2_66 : ∀ (C : String) (T : u_T) (N : Nat), vwCl[2]? = some (C, T, N) → Cond.fieldLink RX2 66 C (T 15).2.1 (T 15).2.2.1 ∈ gT := fun C T N h => by cases h; exact List.mem_filter.mpr ⟨List.mem_append_right _ (List.mem_of_getElem? (i := 89) (by decide +kernel)), rfl⟩
theorem fg_RX2_28 : ∀ (C : String) (T : u_T) (N : Nat), vwCl[2]? = some (C, T, N) → Cond.fieldLink RX2 28 C (T 16).2.1 (T 16).2.2.1 ∈ gT := fun C T N h => by cases h; exact List.mem_filter.mpr ⟨List.mem_append_right _ (List.mem_of_getElem? (i := 91) (by decide +kernel)), rfl⟩
theorem ff_RX2_28 : FLf RX2 28 2 16 (.object "SlideFold$Flip") := ⟨fl_RX2_28, fun C T N h => by cases h; exact ⟨rfl, rfl⟩⟩
theorem ob_RX3_3 : Cond.methodLink RX3 3 Lib.objectInit ∈ gT ∧ Cond.instanceMethod Lib.objectInit ∈ gT ∧ Cond.code Lib.objectInit ⟨#[0xb1]⟩ 1 none ∈ gT := ⟨List.mem_filter.mpr ⟨List.mem_append_right _ (List.mem_of_getElem? (i := 132) (by decide +kernel)), rfl⟩, List.mem_filter.mpr ⟨List.mem_append_right _ (List.mem_of_getElem? (i := 18) (by decide +kernel)), rfl⟩, List.mem_filter.mpr ⟨List.mem_append_right _ (List.mem_of_getElem? (i := 19) (by decide +kernel)), rfl⟩⟩
theorem fg_RX3_9 : ∀ (C : String) (T : u_T) (N : Nat), vwCl[3]? = some (C, T, N) → Cond.fieldLink RX3 9 C (T 0).2.1 (T 0).2.2.1 ∈ gT := fun C T N h => by cases h; exact List.mem_filter.mpr ⟨List.mem_append_right _ (List.mem_of_getElem? (i := 133) (by decide +kernel)), rfl⟩
theorem fg_RX3_15 : ∀ (C : String) (T : u_T) (N : Nat), vwCl[3]? = some (C, T, N) → Cond.fieldLink RX3 15 C (T 1).2.1 (T 1).2.2.1 ∈ gT := fun C T N h => by cases h; exact List.mem_filter.mpr ⟨List.mem_append_right _ (List.mem_of_getElem? (i := 135) (by decide +kernel)), rfl⟩
theorem fg_RX3_18 : ∀ (C : String) (T : u_T) (N : Nat), vwCl[3]? = some (C, T, N) → Cond.fieldLink RX3 18 C (T 2).2.1 (T 2).2.2.1 ∈ gT := fun C T N h => by cases h; exact List.mem_filter.mpr ⟨List.mem_append_right _ (List.mem_of_getElem? (i := 137) (by decide +kernel)), rfl⟩
theorem fg_RX3_21 : ∀ (C : String) (T : u_T) (N : Nat), vwCl[3]? = some (C, T, N) → Cond.fieldLink RX3 21 C (T 3).2.1 (T 3).2.2.1 ∈ gT := fun C T N h => by cases h; exact List.mem_filter.mpr ⟨List.mem_append_right _ (List.mem_of_getElem? (i := 139) (by decide +kernel)), rfl⟩
theorem cl_RX5_30 : Cond.classLink RX5 30 RX4 ∈ gT := List.mem_filter.mpr ⟨List.mem_append_right _ (List.mem_of_getElem? (i := 150) (by decide +kernel)), rfl⟩
theorem nl_RX5_30 : NLk RX5 30 4 := ⟨RX4, TX4, 6, tyX4, rfl, rfl, cl_RX5_30, List.mem_filter.mpr ⟨List.mem_append_right _ (List.mem_of_getElem? (i := 152) (by decide +kernel)), rfl⟩, List.mem_filter.mpr ⟨List.mem_append_right _ (List.mem_of_getElem? (i := 5) (by decide +kernel)), rfl⟩, inG4, tyX4_ok, fun j hj ad => by rcases (by omega : j = 0 ∨ j = 1 ∨ j = 2 ∨ j = 3 ∨ j = 4 ∨ j = 5) with rfl | rfl | rfl | rfl | rfl | rfl <;> rfl⟩
theorem ob_RX4_3 : Cond.methodLink RX4 3 Lib.objectInit ∈ gT ∧ Cond.instanceMethod Lib.objectInit ∈ gT ∧ Cond.code Lib.objectInit ⟨#[0xb1]⟩ 1 none ∈ gT := ⟨List.mem_filter.mpr ⟨List.mem_append_right _ (List.mem_of_getElem? (i := 156) (by decide +kernel)), rfl⟩, List.mem_filter.mpr ⟨List.mem_append_right _ (List.mem_of_getElem? (i := 18) (by decide +kernel)), rfl⟩, List.mem_filter.mpr ⟨List.mem_append_right _ (List.mem_of_getElem? (i := 19) (by decide +kernel)), rfl⟩⟩
theorem fg_RX4_9 : ∀ (C : String) (T : u_T) (N : Nat), vwCl[4]? = some (C, T, N) → Cond.fieldLink RX4 9 C (T 0).2.1 (T 0).2.2.1 ∈ gT := fun C T N h => by cases h; exact List.mem_filter.mpr ⟨List.mem_append_right _ (List.mem_of_getElem? (i := 157) (by decide +kernel)), rfl⟩
theorem fg_RX4_15 : ∀ (C : String) (T : u_T) (N : Nat), vwCl[4]? = some (C, T, N) → Cond.fieldLink RX4 15 C (T 1).2.1 (T 1).2.2.1 ∈ gT := fun C T N h => by cases h; exact List.mem_filter.mpr ⟨List.mem_append_right _ (List.mem_of_getElem? (i := 159) (by decide +kernel)), rfl⟩
theorem fg_RX4_18 : ∀ (C : String) (T : u_T) (N : Nat), vwCl[4]? = some (C, T, N) → Cond.fieldLink RX4 18 C (T 2).2.1 (T 2).2.2.1 ∈ gT := fun C T N h => by cases h; exact List.mem_filter.mpr ⟨List.mem_append_right _ (List.mem_of_getElem? (i := 161) (by decide +kernel)), rfl⟩
theorem fg_RX4_21 : ∀ (C : String) (T : u_T) (N : Nat), vwCl[4]? = some (C, T, N) → Cond.fieldLink RX4 21 C (T 3).2.1 (T 3).2.2.1 ∈ gT := fun C T N h => by cases h; exact List.mem_filter.mpr ⟨List.mem_append_right _ (List.mem_of_getElem? (i := 163) (by decide +kernel)), rfl⟩
theorem fg_RX4_25 : ∀ (C : String) (T : u_T) (N : Nat), vwCl[4]? = some (C, T, N) → Cond.fieldLink RX4 25 C (T 4).2.1 (T 4).2.2.1 ∈ gT := fun C T N h => by cases h; exact List.mem_filter.mpr ⟨List.mem_append_right _ (List.mem_of_getElem? (i := 164) (by decide +kernel)), rfl⟩
theorem fg_RX4_28 : ∀ (C : String) (T : u_T) (N : Nat), vwCl[4]? = some (C, T, N) → Cond.fieldLink RX4 28 C (T 5).2.1 (T 5).2.2.1 ∈ gT := fun C T N h => by cases h; exact List.mem_filter.mpr ⟨List.mem_append_right _ (List.mem_of_getElem? (i := 166) (by decide +kernel)), rfl⟩
theorem cl_RX5_37 : Cond.classLink RX5 37 RX1 ∈ gT := List.mem_filter.mpr ⟨List.mem_append_right _ (List.mem_of_getElem? (i := 181) (by decide +kernel)), rfl⟩
theorem nl_RX5_37 : NLk RX5 37 1 := ⟨RX1, TX1, 8, tyX1, rfl, rfl, cl_RX5_37, List.mem_filter.mpr ⟨List.mem_append_right _ (List.mem_of_getElem? (i := 182) (by decide +kernel)), rfl⟩, List.mem_filter.mpr ⟨List.mem_append_right _ (List.mem_of_getElem? (i := 6) (by decide +kernel)), rfl⟩, inG1, tyX1_ok, fun j hj ad => by rcases (by omega : j = 0 ∨ j = 1 ∨ j = 2 ∨ j = 3 ∨ j = 4 ∨ j = 5 ∨ j = 6 ∨ j = 7) with rfl | rfl | rfl | rfl | rfl | rfl | rfl | rfl <;> rfl⟩
theorem ob_RX1_3 : Cond.methodLink RX1 3 Lib.objectInit ∈ gT ∧ Cond.instanceMethod Lib.objectInit ∈ gT ∧ Cond.code Lib.objectInit ⟨#[0xb1]⟩ 1 none ∈ gT := ⟨List.mem_filter.mpr ⟨List.mem_append_right _ (List.mem_of_getElem? (i := 186) (by decide +kernel)), rfl⟩, List.mem_filter.mpr ⟨List.mem_append_right _ (List.mem_of_getElem? (i := 18) (by decide +kernel)), rfl⟩, List.mem_filter.mpr ⟨List.mem_append_right _ (List.mem_of_getElem? (i := 19) (by decide +kernel)), rfl⟩⟩
theorem fg_RX1_9 : ∀ (C : String) (T : u_T) (N : Nat), vwCl[1]? = some (C, T, N) → Cond.fieldLink RX1 9 C (T 0).2.1 (T 0).2.2.1 ∈ gT := fun C T N h => by cases h; exact List.mem_filter.mpr ⟨List.mem_append_right _ (List.mem_of_getElem? (i := 190) (by decide +kernel)), rfl⟩
theorem ff_RX1_9 : FLf RX1 9 1 0 (.array .int) := ⟨fl_RX1_9, fun C T N h => by cases h; exact ⟨rfl, rfl⟩⟩
theorem fg_RX1_15 : ∀ (C : String) (T : u_T) (N : Nat), vwCl[1]? = some (C, T, N) → Cond.fieldLink RX1 15 C (T 1).2.1 (T 1).2.2.1 ∈ gT := fun C T N h => by cases h; exact List.mem_filter.mpr ⟨List.mem_append_right _ (List.mem_of_getElem? (i := 192) (by decide +kernel)), rfl⟩
theorem ff_RX1_15 : FLf RX1 15 1 1 (.array .int) := ⟨fl_RX1_15, fun C T N h => by cases h; exact ⟨rfl, rfl⟩⟩
theorem fg_RX1_24 : ∀ (C : String) (T : u_T) (N : Nat), vwCl[1]? = some (C, T, N) → Cond.fieldLink RX1 24 C (T 2).2.1 (T 2).2.2.1 ∈ gT := fun C T N h => by cases h; exact List.mem_filter.mpr ⟨List.mem_append_right _ (List.mem_of_getElem? (i := 194) (by decide +kernel)), rfl⟩
theorem ff_RX1_24 : FLf RX1 24 1 2 (.array .int) := ⟨fl_RX1_24, fun C T N h => by cases h; exact ⟨rfl, rfl⟩⟩
theorem fg_RX1_27 : ∀ (C : String) (T : u_T) (N : Nat), vwCl[1]? = some (C, T, N) → Cond.fieldLink RX1 27 C (T 3).2.1 (T 3).2.2.1 ∈ gT := fun C T N h => by cases h; exact List.mem_filter.mpr ⟨List.mem_append_right _ (List.mem_of_getElem? (i := 195) (by decide +kernel)), rfl⟩
theorem ff_RX1_27 : FLf RX1 27 1 3 (.array .int) := ⟨fl_RX1_27, fun C T N h => by cases h; exact ⟨rfl, rfl⟩⟩
theorem fg_RX1_54 : ∀ (C : String) (T : u_T) (N : Nat), vwCl[1]? = some (C, T, N) → Cond.fieldLink RX1 54 C (T 4).2.1 (T 4).2.2.1 ∈ gT := fun C T N h => by cases h; exact List.mem_filter.mpr ⟨List.mem_append_right _ (List.mem_of_getElem? (i := 196) (by decide +kernel)), rfl⟩
theorem fg_RX1_30 : ∀ (C : String) (T : u_T) (N : Nat), vwCl[1]? = some (C, T, N) → Cond.fieldLink RX1 30 C (T 5).2.1 (T 5).2.2.1 ∈ gT := fun C T N h => by cases h; exact List.mem_filter.mpr ⟨List.mem_append_right _ (List.mem_of_getElem? (i := 197) (by decide +kernel)), rfl⟩
theorem fg_RX1_34 : ∀ (C : String) (T : u_T) (N : Nat), vwCl[1]? = some (C, T, N) → Cond.fieldLink RX1 34 C (T 6).2.1 (T 6).2.2.1 ∈ gT := fun C T N h => by cases h; exact List.mem_filter.mpr ⟨List.mem_append_right _ (List.mem_of_getElem? (i := 198) (by decide +kernel)), rfl⟩
theorem fg_RX1_37 : ∀ (C : String) (T : u_T) (N : Nat), vwCl[1]? = some (C, T, N) → Cond.fieldLink RX1 37 C (T 7).2.1 (T 7).2.2.1 ∈ gT := fun C T N h => by cases h; exact List.mem_filter.mpr ⟨List.mem_append_right _ (List.mem_of_getElem? (i := 199) (by decide +kernel)), rfl⟩
theorem cl_RX5_44 : Cond.classLink RX5 44 RX0 ∈ gT := List.mem_filter.mpr ⟨List.mem_append_right _ (List.mem_of_getElem? (i := 217) (by decide +kernel)), rfl⟩
theorem nl_RX5_44 : NLk RX5 44 0 := ⟨RX0, TX0, 7, tyX0, rfl, rfl, cl_RX5_44, List.mem_filter.mpr ⟨List.mem_append_right _ (List.mem_of_getElem? (i := 30) (by decide +kernel)), rfl⟩, List.mem_filter.mpr ⟨List.mem_append_right _ (List.mem_of_getElem? (i := 3) (by decide +kernel)), rfl⟩, inG0, tyX0_ok, fun j hj ad => by rcases (by omega : j = 0 ∨ j = 1 ∨ j = 2 ∨ j = 3 ∨ j = 4 ∨ j = 5 ∨ j = 6) with rfl | rfl | rfl | rfl | rfl | rfl | rfl <;> rfl⟩
theorem cl_RX5_51 : Cond.classLink RX5 51 "[[I" ∈ gT := List.mem_filter.mpr ⟨List.mem_append_right _ (List.mem_of_getElem? (i := 219) (by decide +kernel)), rfl⟩
theorem fg_RX5_13 : ∀ (C : String) (T : u_T) (N : Nat), vwCl[5]? = some (C, T, N) → Cond.fieldLink RX5 13 C (T 0).2.1 (T 0).2.2.1 ∈ gT := fun C T N h => by cases h; exact List.mem_filter.mpr ⟨List.mem_append_right _ (List.mem_of_getElem? (i := 221) (by decide +kernel)), rfl⟩
theorem ff_RX5_13 : FLf RX5 13 5 0 (.array (.object "SlideFold$Lane")) := ⟨fl_RX5_13, fun C T N h => by cases h; exact ⟨rfl, rfl⟩⟩
theorem fg_RX5_27 : ∀ (C : String) (T : u_T) (N : Nat), vwCl[5]? = some (C, T, N) → Cond.fieldLink RX5 27 C (T 1).2.1 (T 1).2.2.1 ∈ gT := fun C T N h => by cases h; exact List.mem_filter.mpr ⟨List.mem_append_right _ (List.mem_of_getElem? (i := 222) (by decide +kernel)), rfl⟩
theorem ff_RX5_27 : FLf RX5 27 5 1 (.array (.object "SlideFold$Lane")) := ⟨fl_RX5_27, fun C T N h => by cases h; exact ⟨rfl, rfl⟩⟩
theorem fg_RX5_32 : ∀ (C : String) (T : u_T) (N : Nat), vwCl[5]? = some (C, T, N) → Cond.fieldLink RX5 32 C (T 2).2.1 (T 2).2.2.1 ∈ gT := fun C T N h => by cases h; exact List.mem_filter.mpr ⟨List.mem_append_right _ (List.mem_of_getElem? (i := 223) (by decide +kernel)), rfl⟩
theorem ff_RX5_32 : FLf RX5 32 5 2 (.array (.object "SlideFold$Watch")) := ⟨fl_RX5_32, fun C T N h => by cases h; exact ⟨rfl, rfl⟩⟩
theorem fg_RX5_19 : ∀ (C : String) (T : u_T) (N : Nat), vwCl[5]? = some (C, T, N) → Cond.fieldLink RX5 19 C (T 3).2.1 (T 3).2.2.1 ∈ gT := fun C T N h => by cases h; exact List.mem_filter.mpr ⟨List.mem_append_right _ (List.mem_of_getElem? (i := 224) (by decide +kernel)), rfl⟩
theorem ff_RX5_19 : FLf RX5 19 5 3 (.array (.object "SlideFold$Link")) := ⟨fl_RX5_19, fun C T N h => by cases h; exact ⟨rfl, rfl⟩⟩
theorem fg_RX5_40 : ∀ (C : String) (T : u_T) (N : Nat), vwCl[5]? = some (C, T, N) → Cond.fieldLink RX5 40 C (T 4).2.1 (T 4).2.2.1 ∈ gT := fun C T N h => by cases h; exact List.mem_filter.mpr ⟨List.mem_append_right _ (List.mem_of_getElem? (i := 225) (by decide +kernel)), rfl⟩
theorem ff_RX5_40 : FLf RX5 40 5 4 (.object "SlideFold$Fold") := ⟨fl_RX5_40, fun C T N h => by cases h; exact ⟨rfl, rfl⟩⟩
theorem fg_RX5_47 : ∀ (C : String) (T : u_T) (N : Nat), vwCl[5]? = some (C, T, N) → Cond.fieldLink RX5 47 C (T 5).2.1 (T 5).2.2.1 ∈ gT := fun C T N h => by cases h; exact List.mem_filter.mpr ⟨List.mem_append_right _ (List.mem_of_getElem? (i := 226) (by decide +kernel)), rfl⟩
theorem ff_RX5_47 : FLf RX5 47 5 5 (.object "SlideFold$Flip") := ⟨fl_RX5_47, fun C T N h => by cases h; exact ⟨rfl, rfl⟩⟩
theorem fg_RX5_53 : ∀ (C : String) (T : u_T) (N : Nat), vwCl[5]? = some (C, T, N) → Cond.fieldLink RX5 53 C (T 6).2.1 (T 6).2.2.1 ∈ gT := fun C T N h => by cases h; exact List.mem_filter.mpr ⟨List.mem_append_right _ (List.mem_of_getElem? (i := 227) (by decide +kernel)), rfl⟩
theorem ff_RX5_53 : FLf RX5 53 5 6 (.array (.array .int)) := ⟨fl_RX5_53, fun C T N h => by cases h; exact ⟨rfl, rfl⟩⟩
theorem fg_RX5_56 : ∀ (C : String) (T : u_T) (N : Nat), vwCl[5]? = some (C, T, N) → Cond.fieldLink RX5 56 C (T 7).2.1 (T 7).2.2.1 ∈ gT := fun C T N h => by cases h; exact List.mem_filter.mpr ⟨List.mem_append_right _ (List.mem_of_getElem? (i := 228) (by decide +kernel)), rfl⟩
theorem ff_RX5_56 : FLf RX5 56 5 7 (.array (.array .int)) := ⟨fl_RX5_56, fun C T N h => by cases h; exact ⟨rfl, rfl⟩⟩
theorem cl_RL_10 : Cond.classLink RL 10 RX6 ∈ gT := List.mem_filter.mpr ⟨List.mem_append_right _ (List.mem_of_getElem? (i := 794) (by decide +kernel)), rfl⟩
theorem nl_RL_10 : NLk RL 10 6 := ⟨RX6, TX6, 23, tyX6, rfl, rfl, cl_RL_10, List.mem_filter.mpr ⟨List.mem_append_right _ (List.mem_of_getElem? (i := 795) (by decide +kernel)), rfl⟩, List.mem_filter.mpr ⟨List.mem_append_right _ (List.mem_of_getElem? (i := 8) (by decide +kernel)), rfl⟩, inG6, tyX6_ok, fun j hj ad => by rcases (by omega : j = 0 ∨ j = 1 ∨ j = 2 ∨ j = 3 ∨ j = 4 ∨ j = 5 ∨ j = 6 ∨ j = 7 ∨ j = 8 ∨ j = 9 ∨ j = 10 ∨ j = 11 ∨ j = 12 ∨ j = 13 ∨ j = 14 ∨ j = 15 ∨ j = 16 ∨ j = 17 ∨ j = 18 ∨ j = 19 ∨ j = 20 ∨ j = 21 ∨ j = 22) with rfl | rfl | rfl | rfl | rfl | rfl | rfl | rfl | rfl | rfl | rfl | rfl | rfl | rfl | rfl | rfl | rfl | rfl | rfl | rfl | rfl | rfl | rfl <;> rfl⟩
theorem ob_RX6_1 : Cond.methodLink RX6 1 Lib.objectInit ∈ gT ∧ Cond.instanceMethod Lib.objectInit ∈ gT ∧ Cond.code Lib.objectInit ⟨#[0xb1]⟩ 1 none ∈ gT := ⟨List.mem_filter.mpr ⟨List.mem_append_right _ (List.mem_of_getElem? (i := 799) (by decide +kernel)), rfl⟩, List.mem_filter.mpr ⟨List.mem_append_right _ (List.mem_of_getElem? (i := 18) (by decide +kernel)), rfl⟩, List.mem_filter.mpr ⟨List.mem_append_right _ (List.mem_of_getElem? (i := 19) (by decide +kernel)), rfl⟩⟩
theorem fg_RX6_7 : ∀ (C : String) (T : u_T) (N : Nat), vwCl[6]? = some (C, T, N) → Cond.fieldLink RX6 7 C (T 0).2.1 (T 0).2.2.1 ∈ gT := fun C T N h => by cases h; exact List.mem_filter.mpr ⟨List.mem_append_right _ (List.mem_of_getElem? (i := 800) (by decide +kernel)), rfl⟩
theorem ff_RX6_7 : FLf RX6 7 6 0 (.array .int) := ⟨fl_RX6_7, fun C T N h => by cases h; exact ⟨rfl, rfl⟩⟩
theorem fg_RX6_13 : ∀ (C : String) (T : u_T) (N : Nat), vwCl[6]? = some (C, T, N) → Cond.fieldLink RX6 13 C (T 1).2.1 (T 1).2.2.1 ∈ gT := fun C T N h => by cases h; exact List.mem_filter.mpr ⟨List.mem_append_right _ (List.mem_of_getElem? (i := 801) (by decide +kernel)), rfl⟩
theorem ff_RX6_13 : FLf RX6 13 6 1 (.array .int) := ⟨fl_RX6_13, fun C T N h => by cases h; exact ⟨rfl, rfl⟩⟩
theorem fg_RX6_16 : ∀ (C : String) (T : u_T) (N : Nat), vwCl[6]? = some (C, T, N) → Cond.fieldLink RX6 16 C (T 2).2.1 (T 2).2.2.1 ∈ gT := fun C T N h => by cases h; exact List.mem_filter.mpr ⟨List.mem_append_right _ (List.mem_of_getElem? (i := 802) (by decide +kernel)), rfl⟩
theorem ff_RX6_16 : FLf RX6 16 6 2 (.array .int) := ⟨fl_RX6_16, fun C T N h => by cases h; exact ⟨rfl, rfl⟩⟩
theorem fg_RX6_19 : ∀ (C : String) (T : u_T) (N : Nat), vwCl[6]? = some (C, T, N) → Cond.fieldLink RX6 19 C (T 3).2.1 (T 3).2.2.1 ∈ gT := fun C T N h => by cases h; exact List.mem_filter.mpr ⟨List.mem_append_right _ (List.mem_of_getElem? (i := 803) (by decide +kernel)), rfl⟩
theorem ff_RX6_19 : FLf RX6 19 6 3 (.array .int) := ⟨fl_RX6_19, fun C T N h => by cases h; exact ⟨rfl, rfl⟩⟩
theorem fg_RX6_22 : ∀ (C : String) (T : u_T) (N : Nat), vwCl[6]? = some (C, T, N) → Cond.fieldLink RX6 22 C (T 4).2.1 (T 4).2.2.1 ∈ gT := fun C T N h => by cases h; exact List.mem_filter.mpr ⟨List.mem_append_right _ (List.mem_of_getElem? (i := 804) (by decide +kernel)), rfl⟩
theorem ff_RX6_22 : FLf RX6 22 6 4 (.array .int) := ⟨fl_RX6_22, fun C T N h => by cases h; exact ⟨rfl, rfl⟩⟩
theorem fg_RX6_25 : ∀ (C : String) (T : u_T) (N : Nat), vwCl[6]? = some (C, T, N) → Cond.fieldLink RX6 25 C (T 5).2.1 (T 5).2.2.1 ∈ gT := fun C T N h => by cases h; exact List.mem_filter.mpr ⟨List.mem_append_right _ (List.mem_of_getElem? (i := 805) (by decide +kernel)), rfl⟩
theorem ff_RX6_25 : FLf RX6 25 6 5 (.array .int) := ⟨fl_RX6_25, fun C T N h => by cases h; exact ⟨rfl, rfl⟩⟩
theorem fg_RX6_28 : ∀ (C : String) (T : u_T) (N : Nat), vwCl[6]? = some (C, T, N) → Cond.fieldLink RX6 28 C (T 6).2.1 (T 6).2.2.1 ∈ gT := fun C T N h => by cases h; exact List.mem_filter.mpr ⟨List.mem_append_right _ (List.mem_of_getElem? (i := 806) (by decide +kernel)), rfl⟩
theorem ff_RX6_28 : FLf RX6 28 6 6 (.array .int) := ⟨fl_RX6_28, fun C T N h => by cases h; exact ⟨rfl, rfl⟩⟩
theorem fg_RX6_31 : ∀ (C : String) (T : u_T) (N : Nat), vwCl[6]? = some (C, T, N) → Cond.fieldLink RX6 31 C (T 7).2.1 (T 7).2.2.1 ∈ gT := fun C T N h => by cases h; exact List.mem_filter.mpr ⟨List.mem_append_right _ (List.mem_of_getElem? (i := 807) (by decide +kernel)), rfl⟩
theorem ff_RX6_31 : FLf RX6 31 6 7 (.array .int) := ⟨fl_RX6_31, fun C T N h => by cases h; exact ⟨rfl, rfl⟩⟩
theorem fg_RX6_105 : ∀ (C : String) (T : u_T) (N : Nat), vwCl[6]? = some (C, T, N) → Cond.fieldLink RX6 105 C (T 8).2.1 (T 8).2.2.1 ∈ gT := fun C T N h => by cases h; exact List.mem_filter.mpr ⟨List.mem_append_right _ (List.mem_of_getElem? (i := 808) (by decide +kernel)), rfl⟩
theorem fg_RX6_34 : ∀ (C : String) (T : u_T) (N : Nat), vwCl[6]? = some (C, T, N) → Cond.fieldLink RX6 34 C (T 9).2.1 (T 9).2.2.1 ∈ gT := fun C T N h => by cases h; exact List.mem_filter.mpr ⟨List.mem_append_right _ (List.mem_of_getElem? (i := 809) (by decide +kernel)), rfl⟩
theorem ff_RX6_34 : FLf RX6 34 6 9 (.array .int) := ⟨fl_RX6_34, fun C T N h => by cases h; exact ⟨rfl, rfl⟩⟩
theorem fg_RX6_37 : ∀ (C : String) (T : u_T) (N : Nat), vwCl[6]? = some (C, T, N) → Cond.fieldLink RX6 37 C (T 10).2.1 (T 10).2.2.1 ∈ gT := fun C T N h => by cases h; exact List.mem_filter.mpr ⟨List.mem_append_right _ (List.mem_of_getElem? (i := 810) (by decide +kernel)), rfl⟩
theorem ff_RX6_37 : FLf RX6 37 6 10 (.array .int) := ⟨fl_RX6_37, fun C T N h => by cases h; exact ⟨rfl, rfl⟩⟩
theorem fg_RX6_40 : ∀ (C : String) (T : u_T) (N : Nat), vwCl[6]? = some (C, T, N) → Cond.fieldLink RX6 40 C (T 11).2.1 (T 11).2.2.1 ∈ gT := fun C T N h => by cases h; exact List.mem_filter.mpr ⟨List.mem_append_right _ (List.mem_of_getElem? (i := 811) (by decide +kernel)), rfl⟩
theorem ff_RX6_40 : FLf RX6 40 6 11 (.array .int) := ⟨fl_RX6_40, fun C T N h => by cases h; exact ⟨rfl, rfl⟩⟩
theorem fg_RX6_43 : ∀ (C : String) (T : u_T) (N : Nat), vwCl[6]? = some (C, T, N) → Cond.fieldLink RX6 43 C (T 12).2.1 (T 12).2.2.1 ∈ gT := fun C T N h => by cases h; exact List.mem_filter.mpr ⟨List.mem_append_right _ (List.mem_of_getElem? (i := 812) (by decide +kernel)), rfl⟩
theorem ff_RX6_43 : FLf RX6 43 6 12 (.array .int) := ⟨fl_RX6_43, fun C T N h => by cases h; exact ⟨rfl, rfl⟩⟩
theorem fg_RX6_46 : ∀ (C : String) (T : u_T) (N : Nat), vwCl[6]? = some (C, T, N) → Cond.fieldLink RX6 46 C (T 13).2.1 (T 13).2.2.1 ∈ gT := fun C T N h => by cases h; exact List.mem_filter.mpr ⟨List.mem_append_right _ (List.mem_of_getElem? (i := 813) (by decide +kernel)), rfl⟩
theorem ff_RX6_46 : FLf RX6 46 6 13 (.array .int) := ⟨fl_RX6_46, fun C T N h => by cases h; exact ⟨rfl, rfl⟩⟩
theorem fg_RX6_49 : ∀ (C : String) (T : u_T) (N : Nat), vwCl[6]? = some (C, T, N) → Cond.fieldLink RX6 49 C (T 14).2.1 (T 14).2.2.1 ∈ gT := fun C T N h => by cases h; exact List.mem_filter.mpr ⟨List.mem_append_right _ (List.mem_of_getElem? (i := 814) (by decide +kernel)), rfl⟩
theorem ff_RX6_49 : FLf RX6 49 6 14 (.array .int) := ⟨fl_RX6_49, fun C T N h => by cases h; exact ⟨rfl, rfl⟩⟩
theorem fg_RX6_52 : ∀ (C : String) (T : u_T) (N : Nat), vwCl[6]? = some (C, T, N) → Cond.fieldLink RX6 52 C (T 15).2.1 (T 15).2.2.1 ∈ gT := fun C T N h => by cases h; exact List.mem_filter.mpr ⟨List.mem_append_right _ (List.mem_of_getElem? (i := 815) (by decide +kernel)), rfl⟩
theorem ff_RX6_52 : FLf RX6 52 6 15 (.array .int) := ⟨fl_RX6_52, fun C T N h => by cases h; exact ⟨rfl, rfl⟩⟩
theorem fg_RX6_55 : ∀ (C : String) (T : u_T) (N : Nat), vwCl[6]? = some (C, T, N) → Cond.fieldLink RX6 55 C (T 16).2.1 (T 16).2.2.1 ∈ gT := fun C T N h => by cases h; exact List.mem_filter.mpr ⟨List.mem_append_right _ (List.mem_of_getElem? (i := 816) (by decide +kernel)), rfl⟩
theorem ff_RX6_55 : FLf RX6 55 6 16 (.array .int) := ⟨fl_RX6_55, fun C T N h => by cases h; exact ⟨rfl, rfl⟩⟩
theorem fg_RX6_58 : ∀ (C : String) (T : u_T) (N : Nat), vwCl[6]? = some (C, T, N) → Cond.fieldLink RX6 58 C (T 17).2.1 (T 17).2.2.1 ∈ gT := fun C T N h => by cases h; exact List.mem_filter.mpr ⟨List.mem_append_right _ (List.mem_of_getElem? (i := 817) (by decide +kernel)), rfl⟩
theorem ff_RX6_58 : FLf RX6 58 6 17 (.array .int) := ⟨fl_RX6_58, fun C T N h => by cases h; exact ⟨rfl, rfl⟩⟩
theorem fg_RX6_61 : ∀ (C : String) (T : u_T) (N : Nat), vwCl[6]? = some (C, T, N) → Cond.fieldLink RX6 61 C (T 18).2.1 (T 18).2.2.1 ∈ gT := fun C T N h => by cases h; exact List.mem_filter.mpr ⟨List.mem_append_right _ (List.mem_of_getElem? (i := 818) (by decide +kernel)), rfl⟩
theorem ff_RX6_61 : FLf RX6 61 6 18 (.array .int) := ⟨fl_RX6_61, fun C T N h => by cases h; exact ⟨rfl, rfl⟩⟩
theorem fg_RX6_64 : ∀ (C : String) (T : u_T) (N : Nat), vwCl[6]? = some (C, T, N) → Cond.fieldLink RX6 64 C (T 19).2.1 (T 19).2.2.1 ∈ gT := fun C T N h => by cases h; exact List.mem_filter.mpr ⟨List.mem_append_right _ (List.mem_of_getElem? (i := 819) (by decide +kernel)), rfl⟩
theorem ff_RX6_64 : FLf RX6 64 6 19 (.array .int) := ⟨fl_RX6_64, fun C T N h => by cases h; exact ⟨rfl, rfl⟩⟩
theorem fg_RX6_67 : ∀ (C : String) (T : u_T) (N : Nat), vwCl[6]? = some (C, T, N) → Cond.fieldLink RX6 67 C (T 20).2.1 (T 20).2.2.1 ∈ gT := fun C T N h => by cases h; exact List.mem_filter.mpr ⟨List.mem_append_right _ (List.mem_of_getElem? (i := 820) (by decide +kernel)), rfl⟩
theorem ff_RX6_67 : FLf RX6 67 6 20 (.array .int) := ⟨fl_RX6_67, fun C T N h => by cases h; exact ⟨rfl, rfl⟩⟩
theorem fg_RX6_70 : ∀ (C : String) (T : u_T) (N : Nat), vwCl[6]? = some (C, T, N) → Cond.fieldLink RX6 70 C (T 21).2.1 (T 21).2.2.1 ∈ gT := fun C T N h => by cases h; exact List.mem_filter.mpr ⟨List.mem_append_right _ (List.mem_of_getElem? (i := 821) (by decide +kernel)), rfl⟩
theorem ff_RX6_70 : FLf RX6 70 6 21 (.array .int) := ⟨fl_RX6_70, fun C T N h => by cases h; exact ⟨rfl, rfl⟩⟩
theorem fg_RX6_73 : ∀ (C : String) (T : u_T) (N : Nat), vwCl[6]? = some (C, T, N) → Cond.fieldLink RX6 73 C (T 22).2.1 (T 22).2.2.1 ∈ gT := fun C T N h => by cases h; exact List.mem_filter.mpr ⟨List.mem_append_right _ (List.mem_of_getElem? (i := 822) (by decide +kernel)), rfl⟩
theorem ff_RX6_73 : FLf RX6 73 6 22 (.array .int) := ⟨fl_RX6_73, fun C T N h => by cases h; exact ⟨rfl, rfl⟩⟩
def sh (μ : Al) : List (Nat × Nat) := μ.map fun x => (x.1, x.2.1)
def szS (S : List (Nat × Nat)) : Nat := (S.map fun x => if x.1 = 0 then clN x.2 else x.2).sum
theorem szs_sh (μ : Al) : szs μ = szS (sh μ) := by
  unfold szs szS sh
  rw [List.map_map]
  rfl
theorem len_sh (μ : Al) : μ.length = (sh μ).length := by
  unfold sh
  rw [List.length_map]
theorem hs_sh {μ l0 : Al} {n b : Nat} (S S0 : List (Nat × Nat)) (h : sh μ = S) (h0 : sh l0 = S0) (hb : szS S + n ≤ szS S0 + b) : szs μ + n ≤ szs l0 + b := by
  rw [szs_sh, szs_sh, h, h0]
  exact hb
theorem hc_sh {μ l0 : Al} {n b : Nat} (S S0 : List (Nat × Nat)) (h : sh μ = S) (h0 : sh l0 = S0) (hb : S.length + n ≤ S0.length + b) : μ.length + n ≤ l0.length + b := by
  rw [len_sh, len_sh, h, h0]
  exact hb
theorem hq_sh {pre μ : Al} {q r : Int} (S : List (Nat × Nat)) (k : Nat) (h : sh μ = S) (hk : S.length = k) (hq : (pre.length : Int) = q) (hr : q + (k : Int) = r) : ((pre.length + μ.length : Nat) : Int) = r := by
  rw [len_sh μ, h, hk]
  omega
theorem hp_sh {pre : Al} {q r : Int} (k : Nat) (hq : (pre.length : Int) = q) (hr : q + (k : Int) = r) : ((pre.length + k : Nat) : Int) = r := by omega
theorem hl_sh {pre μ : Al} {q r : Int} (S : List (Nat × Nat)) (k : Nat) (h : sh μ = S) (hk : S.length = k) (hq : (pre.length : Int) = q) (hr : q + (k : Int) = r) : ((pre ++ μ).length : Int) = r := by
  rw [List.length_append]
  exact hq_sh S k h hk hq hr
theorem hv_sh {pre μ : Al} {q r : Int} (S : List (Nat × Nat)) (k : Nat) (h : sh μ = S) (hq : (pre.length : Int) = q) (hr : q + (k : Int) = r) (hk : k < S.length) : rV (vdA pre μ) (vR 0 r) := by
  refine Or.inr ⟨by show 0 ≤ r; omega, ?_⟩
  show r < ((pre.length + μ.length : Nat) : Int)
  rw [len_sh μ, h]
  omega
theorem r0_sh {μ l0 : Al} {n : Nat} (S S0 : List (Nat × Nat)) (h : sh μ = S) (h0 : sh l0 = S0) (hb : S.length = S0.length + n) : μ.length = l0.length + n := by
  rw [len_sh, len_sh, h, h0]
  exact hb
theorem r1_sh {μ l0 : Al} {n : Nat} (S S0 : List (Nat × Nat)) (h : sh μ = S) (h0 : sh l0 = S0) (hb : szS S = szS S0 + n) : szs μ = szs l0 + n := by
  rw [szs_sh, szs_sh, h, h0]
  exact hb
-- the constructors
theorem hs0_sh {μ l0 : Al} {b : Nat} (S S0 : List (Nat × Nat)) (h : sh μ = S) (h0 : sh l0 = S0) (hb : szS S ≤ szS S0 + b) : szs μ ≤ szs l0 + b := hs_sh (n := 0) S S0 h h0 hb
theorem hc0_sh {μ l0 : Al} {b : Nat} (S S0 : List (Nat × Nat)) (h : sh μ = S) (h0 : sh l0 = S0) (hb : S.length ≤ S0.length + b) : μ.length ≤ l0.length + b := hc_sh (n := 0) S S0 h h0 hb
theorem i_fill {d : Nat} {pre : Al} {Post : Al → Prop} {l0 : Al} {k n : Nat} {q v : Int} {f : Nat → Vl} (hk : l0[k]? = some (1, n, f)) (hq : ((pre.length + k : Nat) : Int) = q) (hn : n < 2147483648) (hp : Post (l0.set k (1, n, fun j => if j < n then vI v else f j))) : WPA (d + 1) 266 [vR 0 q, vI v] pre l0 0 0 Post := by
  intro K hK
  have hK : StpA cJ7_fill_53178 RJ7 "fill" pre l0 0 0 (WPA d) Post K := hK
  have hRet : ∀ {pc : Nat} {ls : Lc} {μ : Al}, decode cJ7_fill_53178 pc = .ok (.return_, 1) → Post μ → μ.length = l0.length + 0 → szs μ = szs l0 + 0 → K pc ls [] μ := hK.2
  have hN := hK.1
  have hC := hK.1.1
  have hlt : k < l0.length := (List.getElem?_eq_some_iff.mp hk).1
  show K 0 [some (vR 0 q), some (vI v), none, none] [] l0
  have L : ∀ (m : Nat) (i : Int) (h : Nat → Vl), 0 ≤ i → i ≤ n → (n : Int) - i < (m : Int) → (∀ j : Nat, h j = if (j : Int) < i then vI v else f j) → K 5 [some (vR 0 q), some (vI v), some (vI i), some (vI n)] [] (l0.set k (1, n, h)) := by
    intro m
    induction m with
    | zero => intro i h h0 h1 h2; omega
    | succ m ih =>
      intro i h h0 h1 h2 hh
      refine r_iload_n hC dJ7_fill_53178_5 rfl ?_
      refine r_iload_n hC dJ7_fill_53178_6 rfl ?_
      refine r_icmp_ge (tgt := 20) hC dJ7_fill_53178_7 rfl (fun hi => ?_) (fun hi => ?_)
      · have he : h = fun j => if j < n then vI v else f j := funext fun j => by
          rw [hh j]
          by_cases hj : j < n
          · rw [if_pos hj, if_pos (by omega)]
          · rw [if_neg hj, if_neg (by omega)]
        rw [he]
        exact hRet dJ7_fill_53178_20 hp (by rw [List.length_set]; rfl) (szs_set hk rfl)
      · refine r_aload_n hC dJ7_fill_53178_10 rfl ?_
        refine r_iload_n hC dJ7_fill_53178_11 rfl ?_
        refine r_iload_n hC dJ7_fill_53178_12 rfl ?_
        refine n_iast (k := k) (n := n) (f := h) hN dJ7_fill_53178_13 (List.getElem?_set_self hlt) hq h0 (by omega) ?_
        refine r_iincS hC dJ7_fill_53178_14 rfl rfl ⟨by omega, by omega⟩ ?_
        refine r_goto (tgt := 5) hC dJ7_fill_53178_17 rfl ?_
        rw [List.set_set]
        refine ih (i + 1) _ (by omega) (by omega) (by omega) (fun j => ?_)
        unfold updC
        by_cases hj : j = i.toNat
        · rw [if_pos hj, if_pos (by omega)]
        · rw [if_neg hj, hh j]
          by_cases hj2 : (j : Int) < i
          · rw [if_pos hj2, if_pos (by omega)]
          · rw [if_neg hj2, if_neg (by omega)]
  refine r_iconst hC dJ7_fill_53178_0 rfl ?_
  refine r_istore_n hC dJ7_fill_53178_1 rfl ?_
  refine r_aload_n hC dJ7_fill_53178_2 rfl ?_
  refine n_alen (nz := n) hN dJ7_fill_53178_3 hk hq rfl hn ?_
  refine r_istore_n hC dJ7_fill_53178_4 rfl ?_
  have h0 := L (n + 1) 0 f (by omega) (by omega) (by omega) (fun j => by rw [if_neg (by omega)])
  rw [show l0.set k (1, n, f) = l0 from by
    apply List.ext_getElem?
    intro j
    by_cases hj : k = j
    · subst hj; rw [List.getElem?_set_self hlt, hk]
    · rw [List.getElem?_set_ne hj]] at h0
  exact h0
theorem i_Flip {d : Nat} {pre : Al} {Post : Al → Prop} {q : Int} {f : Nat → Vl} (hq : (pre.length : Int) = q) (k : Post [(0, 0, f)]) : WPA (d + 1) 0 [vR 0 q] pre [(0, 0, f)] 0 0 Post := by
  intro K hK
  have hK : StpA cX0_init RX0 "<init>" pre [(0, 0, f)] 0 0 (WPA (d + 0)) Post K := hK
  have hRet : ∀ {pc : Nat} {ls : Lc} {μ : Al}, decode cX0_init pc = .ok (.return_, 1) → Post μ → μ.length = [((0, 0, f) : Ce)].length + 0 → szs μ = szs [((0, 0, f) : Ce)] + 0 → K pc ls [] μ := hK.2
  have hN := hK.1
  have hC := hK.1.1
  show K 0 [some (vR 0 q)] [] [(0, 0, f)]
  refine r_aload_n hC dX0_init_0 rfl ?_
  refine n_obj hN dX0_init_1 ob_RX0_3 (Nat.le_of_ble_eq_true rfl) ?_
  exact hRet dX0_init_4 k (r0_sh [(0, 0)] [(0, 0)] rfl rfl rfl) (r1_sh [(0, 0)] [(0, 0)] rfl rfl (by decide +kernel))
theorem i_Link {d : Nat} {pre : Al} {Post : Al → Prop} {q : Int} {f : Nat → Vl} (hq : (pre.length : Int) = q) (k : Post [(0, 3, updC (f) 0 (vI (-1)))]) : WPA (d + 1) 38 [vR 0 q] pre [(0, 3, f)] 0 0 Post := by
  intro K hK
  have hK : StpA cX3_init RX3 "<init>" pre [(0, 3, f)] 0 0 (WPA (d + 0)) Post K := hK
  have hRet : ∀ {pc : Nat} {ls : Lc} {μ : Al}, decode cX3_init pc = .ok (.return_, 1) → Post μ → μ.length = [((0, 3, f) : Ce)].length + 0 → szs μ = szs [((0, 3, f) : Ce)] + 0 → K pc ls [] μ := hK.2
  have hN := hK.1
  have hC := hK.1.1
  show K 0 [some (vR 0 q)] [] [(0, 3, f)]
  refine r_aload_n hC dX3_init_0 rfl ?_
  refine n_obj hN dX3_init_1 ob_RX3_3 (Nat.le_of_ble_eq_true rfl) ?_
  refine r_aload_n hC dX3_init_4 rfl ?_
  refine r_iconst hC dX3_init_5 rfl ?_
  refine n_putI (k := 0) hN dX3_init_6 fw_RX3_9 fg_RX3_9 rfl hq ?_
  exact hRet dX3_init_9 k (r0_sh [(0, 3)] [(0, 3)] rfl rfl rfl) (r1_sh [(0, 3)] [(0, 3)] rfl rfl (by decide +kernel))
theorem i_Watch {d : Nat} {pre : Al} {Post : Al → Prop} {q : Int} {f : Nat → Vl} (hq : (pre.length : Int) = q) (k : Post [(0, 4, updC (f) 0 (vI (-1)))]) : WPA (d + 1) 42 [vR 0 q] pre [(0, 4, f)] 0 0 Post := by
  intro K hK
  have hK : StpA cX4_init RX4 "<init>" pre [(0, 4, f)] 0 0 (WPA (d + 0)) Post K := hK
  have hRet : ∀ {pc : Nat} {ls : Lc} {μ : Al}, decode cX4_init pc = .ok (.return_, 1) → Post μ → μ.length = [((0, 4, f) : Ce)].length + 0 → szs μ = szs [((0, 4, f) : Ce)] + 0 → K pc ls [] μ := hK.2
  have hN := hK.1
  have hC := hK.1.1
  show K 0 [some (vR 0 q)] [] [(0, 4, f)]
  refine r_aload_n hC dX4_init_0 rfl ?_
  refine n_obj hN dX4_init_1 ob_RX4_3 (Nat.le_of_ble_eq_true rfl) ?_
  refine r_aload_n hC dX4_init_4 rfl ?_
  refine r_iconst hC dX4_init_5 rfl ?_
  refine n_putI (k := 0) hN dX4_init_6 fw_RX4_9 fg_RX4_9 rfl hq ?_
  exact hRet dX4_init_9 k (r0_sh [(0, 4)] [(0, 4)] rfl rfl rfl) (r1_sh [(0, 4)] [(0, 4)] rfl rfl (by decide +kernel))
theorem i_Lane {d : Nat} {pre : Al} {Post : Al → Prop} {q : Int} {a : Int} {f : Nat → Vl} (hq : (pre.length : Int) = q) (k : Post [(0, 2, updC (updC (updC (updC (updC (f) 0 (vI a)) 7 (vR 0 (q + 1))) 8 (vR 0 (q + 2))) 9 (vR 0 (q + 3))) 16 (vR 0 (q + 4))),
    (1, 121, fun _ => vI 0),
    (1, 121, fun _ => vI 0),
    (1, 121, fun _ => vI 0),
    (0, 0, dfl 0)]) : WPA (d + 2) 25 [vR 0 q, vI a] pre [(0, 2, f)] 4 370 Post := by
  intro K hK
  have hK : StpA cX2_init RX2 "<init>" pre [(0, 2, f)] 4 370 (WPA (d + 1)) Post K := hK
  have hRet : ∀ {pc : Nat} {ls : Lc} {μ : Al}, decode cX2_init pc = .ok (.return_, 1) → Post μ → μ.length = [((0, 2, f) : Ce)].length + 4 → szs μ = szs [((0, 2, f) : Ce)] + 370 → K pc ls [] μ := hK.2
  have hN := hK.1
  have hC := hK.1.1
  show K 0 [some (vR 0 q), some (vI a)] [] [(0, 2, f)]
  refine r_aload_n hC dX2_init_0 rfl ?_
  refine n_obj hN dX2_init_1 ob_RX2_3 (Nat.le_of_ble_eq_true rfl) ?_
  refine r_aload_n hC dX2_init_4 rfl ?_
  refine r_iload_n hC dX2_init_5 rfl ?_
  refine n_putI (k := 0) hN dX2_init_6 fw_RX2_9 fg_RX2_9 rfl hq ?_
  refine r_aload_n hC dX2_init_9 rfl ?_
  refine r_bipush hC dX2_init_10 rfl ?_
  refine n_newa (nn := 121) (q := q + 1) hN dX2_init_12 arrI rfl (by decide) (hc_sh [(0, 2)] [(0, 2)] rfl rfl (by decide)) (hs_sh [(0, 2)] [(0, 2)] rfl rfl (by decide +kernel)) (hq_sh [(0, 2)] 1 rfl rfl hq rfl) ?_
  refine n_putR (k := 0) hN dX2_init_14 ff_RX2_15 rfl fg_RX2_15 rfl hq (fun _ => ⟨rfl, rfl⟩) ?_
  refine r_aload_n hC dX2_init_17 rfl ?_
  refine r_bipush hC dX2_init_18 rfl ?_
  refine n_newa (nn := 121) (q := q + 2) hN dX2_init_20 arrI rfl (by decide) (hc_sh [(0, 2), (1, 121)] [(0, 2)] rfl rfl (by decide)) (hs_sh [(0, 2), (1, 121)] [(0, 2)] rfl rfl (by decide +kernel)) (hq_sh [(0, 2), (1, 121)] 2 rfl rfl hq rfl) ?_
  refine n_putR (k := 0) hN dX2_init_22 ff_RX2_19 rfl fg_RX2_19 rfl hq (fun _ => ⟨rfl, rfl⟩) ?_
  refine r_aload_n hC dX2_init_25 rfl ?_
  refine r_bipush hC dX2_init_26 rfl ?_
  refine n_newa (nn := 121) (q := q + 3) hN dX2_init_28 arrI rfl (by decide) (hc_sh [(0, 2), (1, 121), (1, 121)] [(0, 2)] rfl rfl (by decide)) (hs_sh [(0, 2), (1, 121), (1, 121)] [(0, 2)] rfl rfl (by decide +kernel)) (hq_sh [(0, 2), (1, 121), (1, 121)] 3 rfl rfl hq rfl) ?_
  refine n_putR (k := 0) hN dX2_init_30 ff_RX2_22 rfl fg_RX2_22 rfl hq (fun _ => ⟨rfl, rfl⟩) ?_
  refine r_aload_n hC dX2_init_33 rfl ?_
  refine n_new (q := q + 4) hN dX2_init_34 nl_RX2_25 (hc_sh [(0, 2), (1, 121), (1, 121), (1, 121)] [(0, 2)] rfl rfl (by decide)) (hs_sh [(0, 2), (1, 121), (1, 121), (1, 121)] [(0, 2)] rfl rfl (by decide +kernel)) (hq_sh [(0, 2), (1, 121), (1, 121), (1, 121)] 4 rfl rfl hq rfl) ?_
  refine r_dup hC dX2_init_37 rfl ?_
  refine n_call (as := []) (l0 := [_]) (mc := 0) (ms := 0) hN dX2_init_38 il_RX2_27 rfl (Nat.le_of_ble_eq_true rfl) (Nat.le_of_ble_eq_true rfl) (hc_sh [(0, 2), (1, 121), (1, 121), (1, 121), (0, 0)] [(0, 2)] rfl rfl (by decide)) (hs_sh [(0, 2), (1, 121), (1, 121), (1, 121), (0, 0)] [(0, 2)] rfl rfl (by decide +kernel)) ?_
  refine i_Flip (hl_sh [(0, 2), (1, 121), (1, 121), (1, 121)] 4 rfl rfl hq rfl) ?_
  refine n_putR (k := 0) hN dX2_init_41 ff_RX2_28 rfl fg_RX2_28 rfl hq (fun _ => ⟨rfl, rfl⟩) ?_
  exact hRet dX2_init_44 k (r0_sh [(0, 2), (1, 121), (1, 121), (1, 121), (0, 0)] [(0, 2)] rfl rfl rfl) (r1_sh [(0, 2), (1, 121), (1, 121), (1, 121), (0, 0)] [(0, 2)] rfl rfl (by decide +kernel))
theorem i_Fold {d : Nat} {pre : Al} {Post : Al → Prop} {q : Int} {f : Nat → Vl} (hq : (pre.length : Int) = q) (k : Post [(0, 1, updC (updC (updC (updC (f) 0 (vR 0 (q + 1))) 1 (vR 0 (q + 2))) 2 (vR 0 (q + 3))) 3 (vR 0 (q + 4))),
    (1, 16, fun _ => vI 0),
    (1, 8, fun j => if j < 8 then vI 228 else (fun _ => vI 0) j),
    (1, 7, fun _ => vI 0),
    (1, 7, fun _ => vI 0)]) : WPA (d + 2) 8 [vR 0 q] pre [(0, 1, f)] 4 38 Post := by
  intro K hK
  have hK : StpA cX1_init RX1 "<init>" pre [(0, 1, f)] 4 38 (WPA (d + 1)) Post K := hK
  have hRet : ∀ {pc : Nat} {ls : Lc} {μ : Al}, decode cX1_init pc = .ok (.return_, 1) → Post μ → μ.length = [((0, 1, f) : Ce)].length + 4 → szs μ = szs [((0, 1, f) : Ce)] + 38 → K pc ls [] μ := hK.2
  have hN := hK.1
  have hC := hK.1.1
  show K 0 [some (vR 0 q)] [] [(0, 1, f)]
  refine r_aload_n hC dX1_init_0 rfl ?_
  refine n_obj hN dX1_init_1 ob_RX1_3 (Nat.le_of_ble_eq_true rfl) ?_
  refine r_aload_n hC dX1_init_4 rfl ?_
  refine r_bipush hC dX1_init_5 rfl ?_
  refine n_newa (nn := 16) (q := q + 1) hN dX1_init_7 arrI rfl (by decide) (hc_sh [(0, 1)] [(0, 1)] rfl rfl (by decide)) (hs_sh [(0, 1)] [(0, 1)] rfl rfl (by decide +kernel)) (hq_sh [(0, 1)] 1 rfl rfl hq rfl) ?_
  refine n_putR (k := 0) hN dX1_init_9 ff_RX1_9 rfl fg_RX1_9 rfl hq (fun _ => ⟨rfl, rfl⟩) ?_
  refine r_aload_n hC dX1_init_12 rfl ?_
  refine r_bipush hC dX1_init_13 rfl ?_
  refine n_newa (nn := 8) (q := q + 2) hN dX1_init_15 arrI rfl (by decide) (hc_sh [(0, 1), (1, 16)] [(0, 1)] rfl rfl (by decide)) (hs_sh [(0, 1), (1, 16)] [(0, 1)] rfl rfl (by decide +kernel)) (hq_sh [(0, 1), (1, 16)] 2 rfl rfl hq rfl) ?_
  refine n_putR (k := 0) hN dX1_init_17 ff_RX1_15 rfl fg_RX1_15 rfl hq (fun _ => ⟨rfl, rfl⟩) ?_
  refine r_aload_n hC dX1_init_20 rfl ?_
  refine n_getf (k := 0) (v := vR 0 (q + 2)) hN dX1_init_21 fl_RX1_15 rfl hq rfl (hv_sh [(0, 1), (1, 16), (1, 8)] 2 rfl hq rfl (by decide)) ?_
  refine r_sipush hC dX1_init_24 rfl ?_
  refine n_fill (as := [vR 0 (q + 2), vI 228]) hN dX1_init_27 tl_RX1_18 rfl rfl (Nat.le_of_ble_eq_true rfl) (Nat.le_of_ble_eq_true rfl) (hc0_sh (b := 4) [(0, 1), (1, 16), (1, 8)] [(0, 1)] rfl rfl (by decide)) (hs0_sh (b := 38) [(0, 1), (1, 16), (1, 8)] [(0, 1)] rfl rfl (by decide +kernel)) ?_
  refine i_fill (k := 2) (q := q + 2) rfl (hp_sh 2 hq rfl) (by decide) ?_
  refine r_aload_n hC dX1_init_30 rfl ?_
  refine r_bipush hC dX1_init_31 rfl ?_
  refine n_newa (nn := 7) (q := q + 3) hN dX1_init_33 arrI rfl (by decide) (hc_sh [(0, 1), (1, 16), (1, 8)] [(0, 1)] rfl rfl (by decide)) (hs_sh [(0, 1), (1, 16), (1, 8)] [(0, 1)] rfl rfl (by decide +kernel)) (hq_sh [(0, 1), (1, 16), (1, 8)] 3 rfl rfl hq rfl) ?_
  refine n_putR (k := 0) hN dX1_init_35 ff_RX1_24 rfl fg_RX1_24 rfl hq (fun _ => ⟨rfl, rfl⟩) ?_
  refine r_aload_n hC dX1_init_38 rfl ?_
  refine r_bipush hC dX1_init_39 rfl ?_
  refine n_newa (nn := 7) (q := q + 4) hN dX1_init_41 arrI rfl (by decide) (hc_sh [(0, 1), (1, 16), (1, 8), (1, 7)] [(0, 1)] rfl rfl (by decide)) (hs_sh [(0, 1), (1, 16), (1, 8), (1, 7)] [(0, 1)] rfl rfl (by decide +kernel)) (hq_sh [(0, 1), (1, 16), (1, 8), (1, 7)] 4 rfl rfl hq rfl) ?_
  refine n_putR (k := 0) hN dX1_init_43 ff_RX1_27 rfl fg_RX1_27 rfl hq (fun _ => ⟨rfl, rfl⟩) ?_
  exact hRet dX1_init_46 k (r0_sh [(0, 1), (1, 16), (1, 8), (1, 7), (1, 7)] [(0, 1)] rfl rfl rfl) (r1_sh [(0, 1), (1, 16), (1, 8), (1, 7), (1, 7)] [(0, 1)] rfl rfl (by decide +kernel))
