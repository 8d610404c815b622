-- the rules of making, continued
def FLf (own : String) (idx ci k : Nat) (ty : FieldType) : Prop := FLk own idx ci k ty ∧ ∀ (C : String) (T : u_T) (N : Nat), vwCl[ci]? = some (C, T, N) → (T k).2.2.2 = true ∧ (T k).1 = own
section GA2
variable {b0 n0 z0 : Nat} {cI : ClassId} {cR : Nat → ClassId} {D : va_G} {pre : Al}
variable {p : Program} {l : Launch} {e : Env} {R : Room} {s : State} {m : MethodId} {args : Array Value} {below : List Frame} {meth : Method} {c : Code} {Q : State → Prop} {nL : Nat} {cc : ByteArray} {own : String}
theorem ga_put (CX : Cx p s m args meth c cc own nL) (CT : CAt cI cR D s) {pc : Nat} {ls : Lc} {st : List Vl} {μ : Al} {idx ci j k : Nat} {ty : FieldType} {q : Int} {f : Nat → Vl} {v : Vl}
    (hd : decode cc pc = .ok (.putfield idx, 3)) (hf : FLk own idx ci j ty) (hfin : (∀ (C : String) (T : u_T) (N : Nat), vwCl[ci]? = some (C, T, N) → (T j).2.2.2 = false) ∨ (meth.name = "<init>" ∧ ∀ (C : String) (T : u_T) (N : Nat), vwCl[ci]? = some (C, T, N) → (T j).2.2.2 = true ∧ (T j).1 = own))
    (hk : μ[k]? = some (0, ci, f)) (hq : ((pre.length + k : Nat) : Int) = q) (hn : narrow ty (mv (adA b0) v) = mv (adA b0) v) (hfit : fits ty (mv (adA b0) v) = true) (hlk2 : ∀ (C : String) (T : u_T) (N : Nat), vwCl[ci]? = some (C, T, N) → Cond.fieldLink own idx C (T j).2.1 (T j).2.2.1 ∈ gT)
    (kk : Ga b0 n0 z0 cI cR D pre p l e R s m args below meth c Q nL (pc + 3) ls st (μ.set k (0, ci, updC f j v))) : Ga b0 n0 z0 cI cR D pre p l e R s m args below meth c Q nL pc ls (v :: vR 0 q :: st) μ := by
  subst hq
  obtain ⟨hx, hb, hml, hown, hts, hnest, hlk⟩ := CX
  obtain ⟨C, T, N, ty0, hci, hN, hj, hin, hty, hnm, hC, hty1, -⟩ := hf
  have hlink := hts _ (hlk2 C T N hci)
  intro g1 g2 g3 H locs lsA g4 g5 g6
  obtain ⟨q0, g3⟩ := rS_cons.mp g3
  obtain ⟨q1, g3⟩ := rS_cons.mp g3
  have he := wsA_at (b0 := b0) (cI := cI) (cR := cR) ((pre_get (pre := pre)).trans hk)
  have hD := wsA_D (b0 := b0) (cI := cI) (cR := cR) (μ := pre ++ μ) (A := Af b0) (fun q h => h)
  have hjc : j < clN ci := by rw [← hN]; exact hj
  have hl : j < ((List.range (clN ci)).map fun i => mv (adA b0) (f i)).length := by rw [List.length_map, List.length_range]; exact hjc
  have hap := va_apart (own := own) hts hin ty0 hty hnm CT.1 hci
  obtain ⟨r, h1, cell, w1, w2, w3, w4⟩ := g4.1 _ _ he
  have hr : r = (C, T, N) := Option.some.inj (h1.symm.trans hci)
  subst hr
  obtain ⟨hS, hfc, kC, hkC, hkind⟩ := CT.1.1 ci _ hci
  obtain ⟨cf, kf, fi, fl, hi, hsl⟩ := hS j hj
  have hst := (u_facts hfc hkC (u_lays hts hin hj) hi).1
  have hd1 : parseFieldDescriptor (T j).2.2.1 = some ty := (hty j hj).trans (by rw [hty1])
  have hstk : List.map (mv (adA b0)) (v :: vR 0 ((pre.length + k : Nat) : Int) :: st) = mv (adA b0) v :: Value.ref (b0 + (pre.length + k)) :: st.map (mv (adA b0)) := rfl
  rw [hstk]
  have fin : ∀ (H1 : Heap), H1[b0 + (pre.length + k)]? = some (cell.setSlot fl.slot (mv (adA b0) v)) → H1.size = H.size → (∀ q : Nat, q ≠ b0 + (pre.length + k) → H1[q]? = H[q]?) → W p l e R s m args below meth c H1 (locs ++ [⟨b0 + (pre.length + k), fl.slot⟩]) (μ.length - n0) (szs μ - z0) Q (F0 m (pc + 3) lsA (st.map (mv (adA b0)))) := by
    intro H1 e1 e2 e3
    rw [hsl] at e1 ⊢
    have hP1 := g4.1.set hD he (H1 := H1) (e := .inr (ci, ((List.range (clN ci)).map fun i => mv (adA b0) (f i)).set j (mv (adA b0) v))) ⟨_, hci, t_OB.to (V := updV (vp_V ((List.range (clN ci)).map fun i => mv (adA b0) (f i))) j (mv (adA b0) v)) ⟨_, e1, w2, w3, t_set w4 hap hj (mv (adA b0) v)⟩ (fun i _ => vp_updV_set hl (mv (adA b0) v) i)⟩ e3
    rw [cA_upd (cI := cI) (cR := cR) hjc] at hP1
    exact ga_store (y := (0, ci, updC f j v)) g1 g2 g3 g4 g6 hk rfl hP1 e2 (g5.put e2 e3 (Nat.le_add_right _ _)) kk
  have hlay := hts _ (hin _ (u_in_lay hj))
  rcases hfin with hfin | ⟨hin2, hfin⟩
  · have hfin := hfin C T N hci
    unfold u_lay at hlay
    rw [if_neg (by rw [hfin]; decide)] at hlay
    have h6 := u_store hfc hkC hkind hlay hi hd1 hn hfit
    exact W.putK hx hb (f := fl) ⟨hown, hlink, ⟨_, _, _, by rw [hC] at hi; exact hi⟩, hst⟩ (by rw [w2]; exact h6) w1 w3 (by rw [hsl]; exact k2_hasslot (w4 j hj)) rfl rfl hd fin
  · obtain ⟨hfin, hdecl⟩ := hfin C T N hci
    unfold u_lay at hlay
    rw [if_pos hfin] at hlay
    have hcf : m.cls = cf := by
      obtain ⟨_, _, c', _, _, _, -, -, hf', -, -, -, hown2, -⟩ := Cond.laysFinal_spec hlay
      have e1 : c' = cf := by have := hi.symm.trans hf'; simp at this; exact this.1.symm
      rw [hdecl] at hown2
      rw [← e1]; exact Option.some.inj (hown.symm.trans hown2)
    have h6 := u_fits hfc hkC hkind (Or.inr hlay) hi hd1 hn hfit
    exact W.putFinK hx hb hown hlink (by rw [hC] at hi; exact hi) hst hcf hin2 (by rw [w2]; exact h6) w1 w3 (by rw [hsl]; exact k2_hasslot (w4 j hj)) rfl rfl hd fin
theorem ga_iast (CX : Cx p s m args meth c cc own nL) (CT : CAt cI cR D s) {pc : Nat} {ls : Lc} {st : List Vl} {μ : Al} {k n : Nat} {q i a : Int} {f : Nat → Vl}
    (hd : decode cc pc = .ok (.iastore, 1)) (hk : μ[k]? = some (1, n, f)) (hq : ((pre.length + k : Nat) : Int) = q) (h0 : 0 ≤ i) (h1 : i < (n : Int))
    (kk : Ga b0 n0 z0 cI cR D pre p l e R s m args below meth c Q nL (pc + 1) ls st (μ.set k (1, n, updC f i.toNat (vI a)))) : Ga b0 n0 z0 cI cR D pre p l e R s m args below meth c Q nL pc ls (vI a :: vI i :: vR 0 q :: st) μ := by
  subst hq
  obtain ⟨hx, hb, hml, hown, hts, hnest, hlk⟩ := CX
  intro g1 g2 g3 H locs lsA g4 g5 g6
  obtain ⟨qa, g3⟩ := rS_cons.mp g3
  obtain ⟨qi, g3⟩ := rS_cons.mp g3
  obtain ⟨q1, g3⟩ := rS_cons.mp g3
  have he := wsA_at (b0 := b0) (cI := cI) (cR := cR) ((pre_get (pre := pre)).trans hk)
  have hD := wsA_D (b0 := b0) (cI := cI) (cR := cR) (μ := pre ++ μ) (A := Af b0) (fun q h => h)
  have hin := gf_in h0 h1 qi
  have hstk : List.map (mv (adA b0)) (vI a :: vI i :: vR 0 ((pre.length + k : Nat) : Int) :: st) = Value.int (i3 a) :: Value.int (i3 i) :: Value.ref (b0 + (pre.length + k)) :: st.map (mv (adA b0)) := rfl
  rw [hstk]
  refine W.iast hx hb (g4.1 _ _ he) ((CT.1.2 0 _ rfl).1 n (fun j => .int (i3 (toI (f j))))) (fun q => by cases q) (by show ¬ (_ ∨ (arrV _ _ _).slots.size ≤ _); rw [arrV_size]; exact hin) rfl rfl hd fun H1 e1 z oq => ?_
  refine ga_store (y := (1, n, updC f i.toNat (vI a))) g1 g2 g3 g4 g6 hk rfl (g4.1.set hD he ?_ oq) z (g5.put z oq (Nat.le_add_right _ _)) kk
  show H1[b0 + (pre.length + k)]? = some (vp_cell cI (n, .inl (fun j => i3 (toI (updC f i.toNat (vI a) j)))))
  rw [e1]
  show some ((vp_cell cI (n, .inl (fun j => i3 (toI (f j))))).setSlot _ _) = _
  rw [vp_cell_i, vp_cell_i, arrV_store]
  congr 2
  funext j
  rw [i3_nat qi]
  by_cases hj : j = i.toNat
  · subst hj
    simp [updV, updC, toI]
  · simp [updV, updC, hj]
theorem ga_alen (CX : Cx p s m args meth c cc own nL) (CT : CAt cI cR D s) {pc : Nat} {ls : Lc} {st : List Vl} {μ : Al} {k n : Nat} {q nz : Int} {f : Nat → Vl}
    (hd : decode cc pc = .ok (.arraylength, 1)) (hk : μ[k]? = some (1, n, f)) (hq : ((pre.length + k : Nat) : Int) = q) (hz : (n : Int) = nz) (hn : n < 2147483648)
    (kk : Ga b0 n0 z0 cI cR D pre p l e R s m args below meth c Q nL (pc + 1) ls (vI nz :: st) μ) : Ga b0 n0 z0 cI cR D pre p l e R s m args below meth c Q nL pc ls (vR 0 q :: st) μ := by
  subst hq; subst hz
  obtain ⟨hx, hb, hml, hown, hts, hnest, hlk⟩ := CX
  intro g1 g2 g3 H locs lsA g4 g5 g6
  obtain ⟨q1, g3⟩ := rS_cons.mp g3
  have he := wsA_at (b0 := b0) (cI := cI) (cR := cR) ((pre_get (pre := pre)).trans hk)
  have k' := kk g1 g2 (rS_cons.mpr ⟨⟨by omega, by omega⟩, g3⟩) H locs lsA g4 g5 g6
  rw [List.map_cons] at k'
  have hstk : List.map (mv (adA b0)) (vR 0 ((pre.length + k : Nat) : Int) :: st) = Value.ref (b0 + (pre.length + k)) :: st.map (mv (adA b0)) := rfl
  rw [hstk]
  exact va_alen hx hb CT.1 g4.1 (pre.length + k) 0 he rfl (v := i3 n) rfl hd k'
theorem ga_aast (CX : Cx p s m args meth c cc own nL) (CT : CAt cI cR D s) {pc : Nat} {ls : Lc} {st : List Vl} {μ : Al} {k n t kv ci : Nat} {q i qv : Int} {f fv : Nat → Vl} {r : vw_C}
    (hd : decode cc pc = .ok (.aastore, 1)) (hk : μ[k]? = some (t + 2, n, f)) (hq : ((pre.length + k : Nat) : Int) = q) (h0 : 0 ≤ i) (h1 : i < (n : Int)) (hkv : μ[kv]? = some (0, ci, fv)) (hqv : ((pre.length + kv : Nat) : Int) = qv) (ht : (tysT cI cR)[t + 1]? = some (cR (t + 2), .object r.1)) (hci : vwCl[ci]? = some r)
    (kk : Ga b0 n0 z0 cI cR D pre p l e R s m args below meth c Q nL (pc + 1) ls st (μ.set k (t + 2, n, updC f i.toNat (vR 0 qv)))) : Ga b0 n0 z0 cI cR D pre p l e R s m args below meth c Q nL pc ls (vR 0 qv :: vI i :: vR 0 q :: st) μ := by
  subst hq; subst hqv
  obtain ⟨hx, hb, hml, hown, hts, hnest, hlk⟩ := CX
  intro g1 g2 g3 H locs lsA g4 g5 g6
  obtain ⟨qa, g3⟩ := rS_cons.mp g3
  obtain ⟨qi, g3⟩ := rS_cons.mp g3
  obtain ⟨q1, g3⟩ := rS_cons.mp g3
  have he := wsA_at (b0 := b0) (cI := cI) (cR := cR) ((pre_get (pre := pre)).trans hk)
  have hev := wsA_at (b0 := b0) (cI := cI) (cR := cR) ((pre_get (pre := pre)).trans hkv)
  have hD := wsA_D (b0 := b0) (cI := cI) (cR := cR) (μ := pre ++ μ) (A := Af b0) (fun q h => h)
  have hin := gf_in h0 h1 qi
  have hlt : (i3 i).toNatClampNeg < n := Nat.not_le.mp fun q => hin (Or.inr q)
  have hstk : List.map (mv (adA b0)) (vR 0 ((pre.length + kv : Nat) : Int) :: vI i :: vR 0 ((pre.length + k : Nat) : Int) :: st) = Value.ref (b0 + (pre.length + kv)) :: Value.int (i3 i) :: Value.ref (b0 + (pre.length + k)) :: st.map (mv (adA b0)) := rfl
  rw [hstk]
  obtain ⟨r', hr', cellV, w1, w2, w3, -⟩ := g4.1 _ _ hev
  have hcls := (CT.1.1 ci r hci).2
  obtain ⟨kA, comp, k1, k2, k3, -⟩ := (CT.1.2 (t + 1) _ ht).2
  have hcomp : comp = D.1 ci := Option.some.inj (k3.symm.trans hcls.1)
  subst hcomp
  obtain ⟨kC, hkC, -⟩ := hcls.2
  refine W.aast hx hb (g4.1 _ _ he) (fun q h => by cases h) (fun h => by cases h) k1 k2 rfl hkC ⟨fun q => hin (Or.inl q), by show _ < (arrV _ _ _).slots.size; rw [arrV_size]; exact hlt⟩ w1 (fun q h => by rw [w3] at h; cases h) (by rw [w2]; exact hkC) (by rw [w2]; exact va_assign hcls) rfl rfl hd fun H1 e1 z oq => ?_
  refine ga_store (y := (t + 2, n, updC f i.toNat (vR 0 ((pre.length + kv : Nat) : Int)))) g1 g2 g3 g4 g6 hk rfl (g4.1.set hD he ?_ oq) z (g5.put z oq (Nat.le_add_right _ _)) kk
  show H1[b0 + (pre.length + k)]? = some (vp_cell (cR (t + 2)) (n, .inr (.inr (.inr (.inr (fun j => toR b0 (updC f i.toNat (vR 0 ((pre.length + kv : Nat) : Int)) j)))))))
  rw [e1]
  show some ((vp_cell (cR (t + 2)) (n, .inr (.inr (.inr (.inr (fun j => toR b0 (f j))))))).setSlot _ _) = _
  rw [vp_cell_q, vp_cell_q, arrV_store]
  congr 2
  funext j
  rw [i3_nat qi]
  by_cases hj : j = i.toNat
  · subst hj
    simp [updV, updC, toR, va_rf]
    omega
  · simp [updV, updC, hj]
theorem ga_obj (CX : Cx p s m args meth c cc own nL) {pc : Nat} {ls : Lc} {st : List Vl} {μ : Al} {idx : Nat} {q : Int} (hR : 1 ≤ R.frames ∧ 40 ≤ R.locals)
    (hd : decode cc pc = .ok (.invokespecial idx, 3)) (hl : Cond.methodLink own idx Lib.objectInit ∈ gT ∧ Cond.instanceMethod Lib.objectInit ∈ gT ∧ Cond.code Lib.objectInit ⟨#[0xb1]⟩ 1 none ∈ gT) (hst : csum st ≤ 8)
    (kk : Ga b0 n0 z0 cI cR D pre p l e R s m args below meth c Q nL (pc + 3) ls st μ) : Ga b0 n0 z0 cI cR D pre p l e R s m args below meth c Q nL pc ls (vR 0 q :: st) μ := by
  obtain ⟨hx, hb, hml, hown, hts, hnest, hlk⟩ := CX
  intro g1 g2 g3 H locs lsA g4 g5 g6
  obtain ⟨q1, g3⟩ := rS_cons.mp g3
  have hms := mv_sum (adA b0) st
  exact W.objInit hx hb hown (hts _ hl.1) (hts _ hl.2.1) (hts _ hl.2.2) rfl (g6.2.1.trans hml.symm) rfl hd hR.1 (by show 2 * 0 + _ + 12 ≤ _; rw [hms]; omega) (kk g1 g2 g3 H locs lsA g4 g5 g6)
end GA2
