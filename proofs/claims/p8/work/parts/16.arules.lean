-- the rules of making
theorem pre_get {pre l : Al} {k : Nat} : (pre ++ l)[pre.length + k]? = l[k]? := by
  rw [List.getElem?_append_right (Nat.le_add_right _ _), Nat.add_sub_cancel_left]
theorem pre_set {pre l : Al} {k : Nat} {y : Ce} : (pre ++ l).set (pre.length + k) y = pre ++ l.set k y := by
  rw [List.set_append_right _ _ (Nat.le_add_right _ _), Nat.add_sub_cancel_left]
theorem vdA_app {pre l l2 : Al} {q : Nat × Int} (h : vdA pre l q) : vdA pre (l ++ l2) q := h.imp id fun h => ⟨h.1, by have := h.2; simp only [List.length_append] at *; omega⟩
theorem vdA_set {pre l : Al} {k : Nat} {y : Ce} {q : Nat × Int} (h : vdA pre l q) : vdA pre (l.set k y) q := h.imp id fun h => ⟨h.1, by rw [List.length_set]; exact h.2⟩
theorem rV_mono {P P' : Nat × Int → Prop} (h : ∀ q, P q → P' q) {v : Vl} (hv : rV P v) : rV P' v := by
  rcases v with a | (_ | q) | a
  · exact hv
  · trivial
  · exact h q hv
  · exact hv
theorem rS_mono {P P' : Nat × Int → Prop} (h : ∀ q, P q → P' q) {st : List Vl} (hv : rS P st) : rS P' st := fun v hv2 => rV_mono h (hv v hv2)
def NLk (own : String) (idx ci : Nat) : Prop := ∃ (C : String) (T : u_T) (N : Nat) (ty : Nat → FieldType), vwCl[ci]? = some (C, T, N) ∧ N = clN ci ∧ Cond.classLink own idx C ∈ gT ∧ Cond.instantiable C N ∈ gT ∧ Cond.initialized C ∈ gT ∧ (∀ w ∈ u_ws C T N, w ∈ gT) ∧ (∀ k, k < N → parseFieldDescriptor (T k).2.2.1 = some (ty k)) ∧ ∀ j, j < N → ∀ ad : Nat → Int → Nat, defaultValue (ty j) = mv ad (dfl ci j)
def rmA (d mc ms : Nat) : Room := { frames := d, cells := mc, slots := ms, locals := 40 * d }
abbrev Af (b0 : Nat) : Nat → Prop := fun q => b0 ≤ q
def PcA (b0 : Nat) (cI : ClassId) (cR : Nat → ClassId) (D : va_G) (as : List Vl) (pre l : Al) : Array Value → State → Prop :=
  va_Pc (as.map (mv (adA b0))) (fun U => rS (vdA pre l) as ∧ WA b0 cI cR D pre l U.heap ∧ CAt cI cR D U)
def QcA (b0 : Nat) (cI : ClassId) (cR : Nat → ClassId) (D : va_G) (pre l : Al) (mc ms : Nat) (Post : Al → Prop) : Array Value → State → Outcome → State → Prop :=
  fun _ st oc t => (∃ l2 : Al, oc = .returned none ∧ Post l2 ∧ l2.length = l.length + mc ∧ szs l2 = szs l + ms ∧ WA b0 cI cR D pre l2 t.heap) ∧ va_F (Af b0) st t
theorem PcA_blind {b0 : Nat} {cI : ClassId} {cR : Nat → ClassId} {D : va_G} {as : List Vl} {pre l : Al} : FrameBlind (PcA b0 cI cR D as pre l) := by
  intro a U g mk h
  obtain ⟨h1, h2, h3, h4, h5, h6, h7, h8, h9⟩ := h
  have hr := Vm.Alike.refl U.vm
  exact ⟨h1, h2, h3, va_K.moved (u := U) (U := U.calling g mk a) hr h4, va_AO.moved (u := U) (U := U.calling g mk a) hr h5, va_AO.moved (u := U) (U := U.calling g mk a) hr h6, va_AO.moved (u := U) (U := U.calling g mk a) hr h7, aoA_moved (u := U) (U := U.calling g mk a) hr h8, nT_same h9 rfl⟩
section GAL
variable {b0 n0 z0 : Nat} {cI : ClassId} {cR : Nat → ClassId} {D : va_G} {pre : Al}
variable {p : Program} {l : Launch} {e : Env} {R : Room} {s : State} {m : MethodId} {args : Array Value} {below : List Frame} {meth : Method} {c : Code} {Q : State → Prop} {nL : Nat} {cc : ByteArray} {own : String}
abbrev Ga (b0 n0 z0 : Nat) (cI : ClassId) (cR : Nat → ClassId) (D : va_G) (pre : Al) (p : Program) (l : Launch) (e : Env) (R : Room) (s : State) (m : MethodId) (args : Array Value) (below : List Frame) (meth : Method) (c : Code) (Q : State → Prop) (nL : Nat) : Nat → Lc → List Vl → Al → Prop :=
  Gm (adA b0) (vdA pre) (WA b0 cI cR D pre) (fun μ => μ.length - n0) (fun μ => szs μ - z0) (fun μ => n0 ≤ μ.length ∧ z0 ≤ szs μ) p l e R s m args below meth c (Af b0) Q nL
/-- one cell more -/
theorem ga_push {H H1 : Heap} {locs : List Loc} {μ : Al} {x : Ce} {pc : Nat} {ls : Lc} {lsA : Array Slot} {st : List Vl} {q : Int} {cs ss : Nat}
    (g1 : n0 ≤ μ.length ∧ z0 ≤ szs μ) (g2 : ∀ v : Vl, some v ∈ ls → rV (vdA pre μ) v) (g3 : rS (vdA pre μ) st) (g4 : WA b0 cI cR D pre μ H) (g5 : va_S (Af b0) s.heap H locs) (g6 : lOK (adA b0) nL ls lsA)
    (hq : ((pre.length + μ.length : Nat) : Int) = q) (z1 : H1.size = H.size + 1) (o1 : ∀ a : Nat, a < H.size → H1[a]? = H[a]?) (hx : va_at D vwCl (H.size, cA b0 cI cR x) H1) (hc : cs = μ.length - n0 + 1) (hs : ss = szs μ - z0 + szC x)
    (kk : Ga b0 n0 z0 cI cR D pre p l e R s m args below meth c Q nL pc ls (vR 0 q :: st) (μ ++ [x])) : W p l e R s m args below meth c H1 locs cs ss Q (F0 m pc lsA (.ref H.size :: st.map (mv (adA b0)))) := by
  have hl : (μ ++ [x]).length = μ.length + 1 := by simp
  have hz : szs (μ ++ [x]) = szs μ + szC x := by simp [szs]
  have hHs := g4.2
  have k' := kk ⟨by omega, by omega⟩ (fun v hv => rV_mono (fun q h => vdA_app h) (g2 v hv)) (rS_cons.mpr ⟨(show vdA pre (μ ++ [x]) (0, q) from Or.inr ⟨by show 0 ≤ q; omega, by show q < _; rw [hl]; omega⟩), rS_mono (fun q h => vdA_app h) g3⟩) H1 locs lsA ⟨by
      rw [← List.append_assoc, wsA_app]
      refine va_P.app (g4.1.kept fun k y hy => o1 _ (g4.1 k y hy).lt) (fun k y hy => ?_)
      have hk : k < 1 := (List.getElem?_eq_some_iff.mp hy).1
      rw [show k = 0 by omega] at hy
      cases hy
      rw [List.length_append, ← g4.2]
      exact hx, by rw [z1, g4.2, hl]; omega⟩ ⟨Nat.le_trans g5.1 (by omega), fun a h1 h2 => (o1 a (Nat.lt_of_lt_of_le h1 g5.1)).trans (g5.2.1 a h1 h2), g5.2.2⟩ g6
  have e1 : (μ ++ [x]).length - n0 = cs := by rw [hl, hc]; omega
  have e2 : szs (μ ++ [x]) - z0 = ss := by rw [hz, hs]; omega
  have e3 : List.map (mv (adA b0)) (vR 0 q :: st) = Value.ref H.size :: st.map (mv (adA b0)) := by
    rw [List.map_cons]
    exact congrArg (fun z : Value => z :: st.map (mv (adA b0))) (congrArg Value.ref (by omega : b0 + q.toNat = H.size))
  rw [e3] at k'
  rw [← e1, ← e2]
  exact k'
theorem ga_new (CX : Cx p s m args meth c cc own nL) (CT : CAt cI cR D s) {pc : Nat} {ls : Lc} {st : List Vl} {μ : Al} {idx ci : Nat} {q : Int}
    (hd : decode cc pc = .ok (.new idx, 3)) (hl : NLk own idx ci) (hc : μ.length + 1 ≤ n0 + R.cells) (hs : szs μ + clN ci ≤ z0 + R.slots) (hq : ((pre.length + μ.length : Nat) : Int) = q)
    (kk : Ga b0 n0 z0 cI cR D pre p l e R s m args below meth c Q nL (pc + 3) ls (vR 0 q :: st) (μ ++ [(0, ci, dfl ci)])) : Ga b0 n0 z0 cI cR D pre p l e R s m args below meth c Q nL pc ls st μ := by
  obtain ⟨hx, hb, hml, hown, hts, hnest, hlk⟩ := CX
  obtain ⟨C, T, N, ty, hci, hN, hcl, hinst, hini, hin, hty, hdf⟩ := hl
  intro g1 g2 g3 H locs lsA g4 g5 g6
  have hKn := CT.1.1 ci _ hci
  refine W.newcK hx hb hown (hts _ hcl) (hts _ hinst) (hts _ hini) rfl hd (by show μ.length - n0 + 1 ≤ _; omega) (by show szs μ - z0 + N ≤ _; omega) hKn.2.1 rfl fun H1 kC hkC e1 z1 o1 => ?_
  refine ga_push g1 g2 g3 g4 g5 g6 hq z1 o1 ?_ rfl (by rw [hN]; rfl) kk
  exact ⟨_, hci, (u_born ty hts hin hKn hkC e1 hty).to fun j hj => by
    rw [hdf j hj (adA b0)]
    show _ = ((List.range (clN ci)).map fun k => mv (adA b0) (dfl ci k)).getD j .null
    rw [List.getD_eq_getElem?_getD, List.getElem?_map, List.getElem?_range (by rw [← hN]; exact hj)]
    rfl⟩
theorem ga_newa (CX : Cx p s m args meth c cc own nL) (CT : CAt cI cR D s) {pc : Nat} {ls : Lc} {st : List Vl} {μ : Al} {n q : Int} {nn : Nat}
    (hd : decode cc pc = .ok (.newarray .int, 2)) (hw : Cond.arrayClass .int ∈ gT) (hn : (nn : Int) = n) (hn2 : nn * 4 ≤ 536870912) (hc : μ.length + 1 ≤ n0 + R.cells) (hs : szs μ + nn ≤ z0 + R.slots) (hq : ((pre.length + μ.length : Nat) : Int) = q)
    (kk : Ga b0 n0 z0 cI cR D pre p l e R s m args below meth c Q nL (pc + 2) ls (vR 0 q :: st) (μ ++ [(1, nn, fun _ => vI 0)])) : Ga b0 n0 z0 cI cR D pre p l e R s m args below meth c Q nL pc ls (vI n :: st) μ := by
  obtain ⟨hx, hb, hml, hown, hts, hnest, hlk⟩ := CX
  subst hn
  intro g1 g2 g3 H locs lsA g4 g5 g6
  obtain ⟨q1, g3⟩ := rS_cons.mp g3
  have hnn : (i3 (nn : Int)).toNatClampNeg = nn := by rw [i3_nat q1]; omega
  refine va_newaK (atype := .int) hx hb (hts _ hw) rfl hd rfl (fun h => by have h2 := (i3_lt q1 (inR_lit rfl : inR 0)).mp h; omega) hnn hn2 (by show μ.length - n0 + 1 ≤ _; omega) (by show szs μ - z0 + nn ≤ _; omega) rfl fun H1 cA1 e1 z1 o1 hAr hNm => ?_
  have hcI : cA1 = cI := Option.some.inj (hNm.symm.trans (CT.1.2 0 _ rfl).2)
  subst hcI
  exact ga_push (x := (1, nn, fun _ => vI 0)) g1 g2 g3 g4 g5 g6 hq z1 o1 (show va_at D vwCl (H.size, cA b0 cA1 cR (1, nn, fun _ => vI 0)) H1 from e1) rfl rfl kk
theorem ga_anew (CX : Cx p s m args meth c cc own nL) (CT : CAt cI cR D s) {pc : Nat} {ls : Lc} {st : List Vl} {μ : Al} {n q : Int} {nn idx t : Nat} {C : String}
    (hd : decode cc pc = .ok (.anewarray idx, 3)) (hw : Cond.classLink own idx C ∈ gT) (hao : va_AO C s) (ht : (tysT cI cR)[t + 1]? = some (cR (t + 2), .object C)) (hn : (nn : Int) = n) (hn2 : nn * 4 ≤ 536870912) (hc : μ.length + 1 ≤ n0 + R.cells) (hs : szs μ + nn ≤ z0 + R.slots) (hq : ((pre.length + μ.length : Nat) : Int) = q)
    (kk : Ga b0 n0 z0 cI cR D pre p l e R s m args below meth c Q nL (pc + 3) ls (vR 0 q :: st) (μ ++ [(t + 2, nn, fun _ => vN)])) : Ga b0 n0 z0 cI cR D pre p l e R s m args below meth c Q nL pc ls (vI n :: st) μ := by
  obtain ⟨hx, hb, hml, hown, hts, hnest, hlk⟩ := CX
  subst hn
  intro g1 g2 g3 H locs lsA g4 g5 g6
  obtain ⟨q1, g3⟩ := rS_cons.mp g3
  have hnn : (i3 (nn : Int)).toNatClampNeg = nn := by rw [i3_nat q1]; omega
  refine W.anew hx hb hown (hts _ hw) (va_AO.use hao) rfl hd rfl (fun h => by have h2 := (i3_lt q1 (inR_lit rfl : inR 0)).mp h; omega) (by rw [hnn]; exact hn2) (by show μ.length - n0 + 1 ≤ _; omega) (by rw [hnn]; show szs μ - z0 + nn ≤ _; omega) fun cA1 kA comp f1 f2 f3 f4 => ?_
  obtain ⟨kA2, comp2, r1, r2, r3, r4⟩ := (CT.1.2 (t + 1) _ ht).2
  have hcR : cA1 = cR (t + 2) := Option.some.inj (f1.symm.trans r4)
  subst hcR
  rw [hnn]
  refine ga_push g1 g2 g3 g4 g5 g6 hq (by simp) (fun a ha => by rw [Array.getElem?_push, if_neg (Nat.ne_of_lt ha)]) ?_ rfl rfl kk
  show (H.push _)[H.size]? = some (vp_cell (cR (t + 2)) (nn, _))
  rw [vp_cell_q, Array.getElem?_push_size]
  exact congrArg some (arrV_new _ _ _)
theorem ga_getf (CX : Cx p s m args meth c cc own nL) (CT : CAt cI cR D s) {pc : Nat} {ls : Lc} {st : List Vl} {μ : Al} {idx ci j k : Nat} {ty : FieldType} {q : Int} {f : Nat → Vl} {v : Vl}
    (hd : decode cc pc = .ok (.getfield idx, 3)) (hf : FLk own idx ci j ty) (hk : μ[k]? = some (0, ci, f)) (hq : ((pre.length + k : Nat) : Int) = q) (hv : f j = v) (hr : rV (vdA pre μ) v)
    (kk : Ga b0 n0 z0 cI cR D pre p l e R s m args below meth c Q nL (pc + 3) ls (v :: st) μ) : Ga b0 n0 z0 cI cR D pre p l e R s m args below meth c Q nL pc ls (vR 0 q :: st) μ := by
  subst hq; subst hv
  obtain ⟨hx, hb, hml, hown, hts, hnest, hlk⟩ := CX
  obtain ⟨C, T, N, ty0, hci, hN, hj, hin, hty, hnm, hC, hty1, hlink⟩ := hf
  intro g1 g2 g3 H locs lsA g4 g5 g6
  obtain ⟨q1, g3⟩ := rS_cons.mp g3
  have he := wsA_at (b0 := b0) (cI := cI) (cR := cR) ((pre_get (pre := pre)).trans hk)
  have hv : ((List.range (clN ci)).map fun i => mv (adA b0) (f i))[j]? = some (mv (adA b0) (f j)) := by
    rw [List.getElem?_map, List.getElem?_range (by rw [← hN]; exact hj)]
    rfl
  have k' := kk g1 g2 (rS_cons.mpr ⟨hr, g3⟩) H locs lsA g4 g5 g6
  rw [List.map_cons] at k'
  have hst : List.map (mv (adA b0)) (vR 0 ((pre.length + k : Nat) : Int) :: st) = Value.ref (b0 + (pre.length + k)) :: st.map (mv (adA b0)) := rfl
  rw [hst]
  rcases hlink with hl | ⟨host, hl⟩
  · exact va_get hx hb hts hin hown CT.1 g4.1 (pre.length + k) he hci j hj (hts _ hl) (fun x h => by rw [hC] at h; exact h) hv hd k'
  · exact va_getN hx hb hts hin hown CT.1 g4.1 (pre.length + k) he hci j hj (va_Nw.use rfl (hnest _ hl)) (fun x h => by rw [hC] at h; exact h) hv hd k'
theorem cA_upd {ci j : Nat} {f : Nat → Vl} {v : Vl} (hj : j < clN ci) : (Sum.inr (ci, ((List.range (clN ci)).map fun i => mv (adA b0) (f i)).set j (mv (adA b0) v)) : va_E) = cA b0 cI cR (0, ci, updC f j v) := by
  show _ = (Sum.inr (ci, (List.range (clN ci)).map fun i => mv (adA b0) (updC f j v i)) : va_E)
  rw [map_set_at (f' := fun i => mv (adA b0) (updC f j v i)) hj (by simp [updC]) (fun i hi => by simp [updC, hi])]
theorem ga_store {H1 : Heap} {locs1 : List Loc} {μ : Al} {k : Nat} {x y : Ce} {pc : Nat} {ls : Lc} {lsA : Array Slot} {st : List Vl} {H : Heap}
    (g1 : n0 ≤ μ.length ∧ z0 ≤ szs μ) (g2 : ∀ v : Vl, some v ∈ ls → rV (vdA pre μ) v) (g3 : rS (vdA pre μ) st) (g4 : WA b0 cI cR D pre μ H) (g6 : lOK (adA b0) nL ls lsA) (hk : μ[k]? = some x) (hsz : szC y = szC x)
    (hP1 : va_P D vwCl ((wsA b0 cI cR (pre ++ μ)).set (pre.length + k) (b0 + (pre.length + k), cA b0 cI cR y)) H1) (hz : H1.size = H.size) (hS1 : va_S (Af b0) s.heap H1 locs1)
    (kk : Ga b0 n0 z0 cI cR D pre p l e R s m args below meth c Q nL pc ls st (μ.set k y)) : W p l e R s m args below meth c H1 locs1 (μ.length - n0) (szs μ - z0) Q (F0 m pc lsA (st.map (mv (adA b0)))) := by
  have hl : (μ.set k y).length = μ.length := List.length_set
  have hz2 := szs_set hk hsz
  have k' := kk ⟨by rw [hl]; exact g1.1, by rw [hz2]; exact g1.2⟩ (fun v hv => rV_mono (fun q h => vdA_set h) (g2 v hv)) (rS_mono (fun q h => vdA_set h) g3) H1 locs1 lsA ⟨by
      rw [wsA_set ((pre_get (pre := pre)).trans hk), pre_set] at hP1
      exact hP1, by rw [hz, g4.2, hl]⟩ hS1 g6
  rw [← hl, ← hz2]
  exact k'
end GAL
