-- calls while the objects are made; what a constructor comes to
theorem vr_outer (c : ClassId) (N h0 : Nat) : ∀ i : Nat, Jvm.Free.Multi.outerC c N h0 i = arrV c N (fun j => va_rf (if j < i then some (h0 + 1 + j) else none))
  | 0 => by
    show ({ cls := c, slots := Array.replicate N .null, vm := .none } : Cell) = _
    rw [arrV_new]
    refine congrArg (arrV c N) (funext fun j => ?_)
    simp [va_rf]
  | i + 1 => by
    show (Jvm.Free.Multi.outerC c N h0 i).setSlot i (.ref (h0 + 1 + i)) = _
    rw [vr_outer c N h0 i, arrV_store]
    refine congrArg (arrV c N) (funext fun j => ?_)
    by_cases e : j = i
    · subst e
      simp [updV, va_rf]
    · by_cases h : j < i
      · simp [updV, e, h, Nat.lt_succ_of_lt h]
      · have h2 : ¬ j < i + 1 := by omega
        simp [updV, e, h, h2, va_rf]

theorem wsA_appL {b0 : Nat} {cI : ClassId} {cR : Nat → ClassId} {μ ν : Al} {k : Nat} {y : Nat × va_E} (h : (wsA b0 cI cR (μ ++ ν))[μ.length + k]? = some y) : ∃ x, ν[k]? = some x ∧ y = (b0 + (μ.length + k), cA b0 cI cR x) := by
  rw [wsA_get, List.getElem?_append_right (Nat.le_add_right _ _), Nat.add_sub_cancel_left] at h
  cases hx : ν[k]? with
  | none => rw [hx] at h; cases h
  | some x => rw [hx] at h; cases h; exact ⟨x, rfl, rfl⟩
theorem wsA_pre {b0 : Nat} {cI : ClassId} {cR : Nat → ClassId} {μ ν : Al} {k : Nat} (h : k < μ.length) : (wsA b0 cI cR (μ ++ ν))[k]? = (wsA b0 cI cR μ)[k]? := by
  rw [wsA_get, wsA_get, List.getElem?_append_left h]
section GA3
variable {b0 n0 z0 : Nat} {cI : ClassId} {cR : Nat → ClassId} {D : va_G} {pre : Al}
variable {p : Program} {l : Launch} {e : Env} {R : Room} {s : State} {m : MethodId} {args : Array Value} {below : List Frame} {meth : Method} {c : Code} {Q : State → Prop} {nL : Nat} {cc : ByteArray} {own : String}
theorem szs_rep (N : Nat) (x : Ce) : szs (List.replicate N x) = N * szC x := by
  unfold szs
  rw [List.map_replicate, List.sum_replicate_nat]
theorem ga_mna (CX : Cx p s m args meth c cc own nL) (CT : CAt cI cR D s) {pc : Nat} {ls : Lc} {st : List Vl} {μ : Al} {n k q : Int} {N M idx : Nat}
    (hd : decode cc pc = .ok (.multianewarray idx 2, 4)) (hw : Cond.classLink own idx "[[I" ∈ gT ∧ Cond.arrayClass .int ∈ gT) (hn : (N : Int) = n) (hk : (M : Int) = k) (hb1 : N * 4 ≤ 536870912) (hb2 : M * 4 ≤ 536870912) (hc : μ.length + (1 + N) ≤ n0 + R.cells) (hs : szs μ + (N + N * M) ≤ z0 + R.slots) (hq : ((pre.length + μ.length : Nat) : Int) = q)
    (kk : Ga b0 n0 z0 cI cR D pre p l e R s m args below meth c Q nL (pc + 4) ls (vR 0 q :: st) (μ ++ ((5, N, fun j => if j < N then vR 0 (q + 1 + (j : Int)) else vN) :: List.replicate N (1, M, fun _ => vI 0)))) : Ga b0 n0 z0 cI cR D pre p l e R s m args below meth c Q nL pc ls (vI k :: vI n :: st) μ := by
  obtain ⟨hx, hb, hml, hown, hts, hnest, hlk⟩ := CX
  subst hn; subst hk
  intro g1 g2 g3 H locs lsA g4 g5 g6
  obtain ⟨qk, g3⟩ := rS_cons.mp g3
  obtain ⟨qn, g3⟩ := rS_cons.mp g3
  have hN : (i3 (N : Int)).toNatClampNeg = N := by rw [i3_nat qn]; omega
  have hM : (i3 (M : Int)).toNatClampNeg = M := by rw [i3_nat qk]; omega
  have hHs := g4.2
  intro T hT Xs
  obtain ⟨vm₁, cA1, comp, -, fA, fC, hO, -, X', step⟩ := Jvm.Stand.multianewarray2F Xs hx hown (ty := .int) (hts _ hw.1) (show (Cond.arrayOver (.array .int)).before args s = true from CT.2.2.2.2.1) (hts _ hw.2) (g := F0 m pc lsA (Value.int (i3 (M : Int)) :: Value.int (i3 (N : Int)) :: st.map (mv (adA b0)))) rfl (by rw [hb]; exact hd) rfl
    (fun h => by have h2 := (i3_lt qn (inR_lit rfl : inR 0)).mp h; omega) (fun h => by have h2 := (i3_lt qk (inR_lit rfl : inR 0)).mp h; omega) (by rw [hN]; exact hb1) (by rw [hM]; exact hb2) (by rw [hM]; omega) rfl rfl (by rw [hN]; show μ.length - n0 + (1 + N) ≤ _; omega) (by rw [hN, hM]; show szs μ - z0 + (N + N * M) ≤ _; omega)
  have ec : comp = cI := Option.some.inj (fC.symm.trans (CT.1.2 0 _ rfl).2)
  subst ec
  have ecR : cA1 = cR 5 := Option.some.inj (fA.symm.trans (CT.1.2 4 _ rfl).2)
  subst ecR
  rw [hN, hM] at X' step
  generalize hF : Jvm.Free.Multi.fill (T.setVm vm₁) (cR 5) comp N M (defaultValue .int) N = F at X' step
  have hTh : (T.setVm vm₁).heap = H := hT
  obtain ⟨f1, f2, -, -⟩ := Jvm.Free.Multi.fill_facts (T.setVm vm₁) (cR 5) comp N M (defaultValue .int) N
  rw [hF, hTh] at f1 f2
  have hold : ∀ x : Nat, x < H.size → F.heap[x]? = H[x]? := fun x hx => by
    have := Jvm.Free.Multi.fill_old (T.setVm vm₁) (cR 5) comp N M (defaultValue .int) (a := x) (by rw [hTh]; exact hx) N
    rw [hF, hTh] at this
    exact this
  have hrow : ∀ j : Nat, j < N → F.heap[H.size + 1 + j]? = some (vp_cell comp (M, .inl (fun _ => 0))) := fun j hj => by
    have := Jvm.Free.Multi.fill_inner (T.setVm vm₁) (cR 5) comp N M (defaultValue .int) N j hj
    rw [hF, hTh] at this
    rw [this, vp_cell_i]
    exact congrArg some (arrV_new _ _ _)
  rw [vr_outer] at f2
  have hlen : (μ ++ ((5, N, fun j => if j < N then vR 0 (q + 1 + (j : Int)) else vN) :: List.replicate N (1, M, fun _ => vI 0)) : Al).length = μ.length + (1 + N) := by
    simp only [List.length_append, List.length_cons, List.length_replicate]
    omega
  have hsz : szs (μ ++ ((5, N, fun j => if j < N then vR 0 (q + 1 + (j : Int)) else vN) :: List.replicate N (1, M, fun _ => vI 0)) : Al) = szs μ + (N + N * M) := by
    rw [szs_app]
    have e1 : szs (((5, N, fun j => if j < N then vR 0 (q + 1 + (j : Int)) else vN) : Ce) :: List.replicate N (1, M, fun _ => vI 0)) = N + szs (List.replicate N ((1, M, fun _ => vI 0) : Ce)) := by
      unfold szs
      rw [List.map_cons, List.sum_cons]
      rfl
    rw [e1, szs_rep]
    rfl
  have hP1 : va_P D vwCl (wsA b0 comp cR (pre ++ (μ ++ ((5, N, fun j => if j < N then vR 0 (q + 1 + (j : Int)) else vN) :: List.replicate N (1, M, fun _ => vI 0))))) F.heap := by
    rw [← List.append_assoc]
    intro k0 y hy
    by_cases hk0 : k0 < (pre ++ μ).length
    · rw [wsA_pre hk0] at hy
      exact (g4.1 k0 y hy).kept (hold _ (g4.1 k0 y hy).lt)
    · obtain ⟨k1, rfl⟩ : ∃ k1, k0 = (pre ++ μ).length + k1 := ⟨k0 - (pre ++ μ).length, by omega⟩
      obtain ⟨x, hx1, rfl⟩ := wsA_appL hy
      have hpl : (pre ++ μ).length = pre.length + μ.length := List.length_append
      cases k1 with
      | zero =>
        simp only [List.getElem?_cons_zero, Option.some.injEq] at hx1
        subst hx1
        show F.heap[b0 + ((pre ++ μ).length + 0)]? = some (vp_cell (cR 5) (N, .inr (.inr (.inr (.inr (fun j => toR b0 (if j < N then vR 0 (q + 1 + (j : Int)) else vN)))))))
        rw [show b0 + ((pre ++ μ).length + 0) = H.size by rw [hpl, hHs]; omega, vp_cell_q]
        refine f2.trans (congrArg some (congrArg (arrV (cR 5) N) (funext fun j => ?_)))
        by_cases hj : j < N
        · rw [if_pos hj, if_pos hj]
          show va_rf _ = va_rf (some (b0 + (q + 1 + (j : Int)).toNat))
          congr 2
          rw [hHs]
          omega
        · rw [if_neg hj, if_neg hj]
          rfl
      | succ j =>
        simp only [List.getElem?_cons_succ] at hx1
        have hj : j < N := by
          have := (List.getElem?_eq_some_iff.mp hx1).1
          simpa using this
        rw [List.getElem?_replicate, if_pos hj] at hx1
        cases hx1
        show F.heap[b0 + ((pre ++ μ).length + (j + 1))]? = some (vp_cell comp (M, .inl (fun _ => i3 (toI (vI 0)))))
        rw [show b0 + ((pre ++ μ).length + (j + 1)) = H.size + 1 + j by rw [hpl, hHs]; omega]
        exact hrow j hj
  have k' := kk ⟨by rw [hlen]; omega, by rw [hsz]; omega⟩ (fun v hv => rV_mono (fun q h => vdA_app h) (g2 v hv)) (rS_cons.mpr ⟨(show vdA pre _ (0, q) from Or.inr ⟨by show 0 ≤ q; omega, by show q < _; rw [hlen]; omega⟩), rS_mono (fun q h => vdA_app h) g3⟩) F.heap locs lsA ⟨hP1, by rw [f1, hlen, hHs]; omega⟩
    ⟨by rw [f1]; have := g5.1; omega, fun x h1 h2 => (hold x (Nat.lt_of_lt_of_le h1 g5.1)).trans (g5.2.1 x h1 h2), g5.2.2⟩ g6
  have e3 : List.map (mv (adA b0)) (vR 0 q :: st) = Value.ref H.size :: st.map (mv (adA b0)) := by
    rw [List.map_cons]
    exact congrArg (fun z : Value => z :: st.map (mv (adA b0))) (congrArg Value.ref (by omega : b0 + q.toNat = H.size))
  rw [e3] at k'
  obtain ⟨t, a1, b1⟩ := k' F rfl (by
    show Stand _ _ _ _ _ _ _ _ _ _ _ _ (List.length _ - n0) (szs _ - z0)
    rw [hlen, hsz, show μ.length + (1 + N) - n0 = μ.length - n0 + 1 + N by omega, show szs μ + (N + N * M) - z0 = szs μ - z0 + N + N * M by omega]
    exact X')
  refine ⟨t, step t ?_, b1⟩
  have e : T.heap.size = H.size := by rw [hT]
  rw [e]
  exact a1
theorem gm_callA {H : Heap} {locs : List Loc} {cells slots pc mc ms : Nat} {ls : Array Slot} {st0 rest : List Value} {a : Array Value} {pre2 l0 : Al} {Post : Al → Prop}
    (hr : va_Run p l e R s m args below meth c H locs cells slots mc ms (F0 m pc ls st0) rest (QcA b0 cI cR D pre2 l0 mc ms Post a) (Af b0)) (hS : va_S (Af b0) s.heap H locs)
    (kk : ∀ (l2 : Al) (H1 : Heap) (locs1 : List Loc), Post l2 → l2.length = l0.length + mc → szs l2 = szs l0 + ms → WA b0 cI cR D pre2 l2 H1 → va_S (Af b0) s.heap H1 locs1 → W p l e R s m args below meth c H1 locs1 (cells + mc) (slots + ms) Q (F0 m (pc + 3) ls rest)) :
    W p l e R s m args below meth c H locs cells slots Q (F0 m pc ls st0) := by
  intro T hT X
  obtain ⟨v, st₀, t, T', L, h0, X', hL, e1, e2, ⟨⟨l2, hv, hp, hb, hg, hw⟩, hz, hk⟩, st⟩ := hr T hT X
  cases hv
  rw [h0] at hz hk
  obtain ⟨t2, a1, b1⟩ := kk l2 T'.heap (locs ++ L) hp hb hg (by rw [e1]; exact hw)
    ⟨Nat.le_trans hS.1 (by rw [e1]; exact hz), fun q h1 h2 => by rw [e1, hk q (Nat.lt_of_lt_of_le h1 hS.1) h2]; exact hS.2.1 q h1 h2, fun q hq => by
      rcases List.mem_append.mp hq with h | h
      · exact hS.2.2 q h
      · exact hL q h⟩ T' rfl X'
  exact ⟨t2, st t2 a1, b1⟩
theorem ga_call (CX : Cx p s m args meth c cc own nL) (CT : CAt cI cR D s) {d mc ms : Nat} (hR : d + 1 ≤ R.frames ∧ 40 * (d + 1) ≤ R.locals) {Cal : Nat → List Vl → Al → Al → Nat → Nat → (Al → Prop) → Prop}
    (hCal : ∀ (M : Nat) (as : List Vl) (pre l0 : Al) (mc ms : Nat) (Post : Al → Prop), Cal M as pre l0 mc ms Post → csum as ≤ ml M → MOK M → mr M = none → Met l (my M) (wsM M) (rmA d mc ms) (PcA b0 cI cR D as pre l0) (QcA b0 cI cR D pre l0 mc ms Post) mc ms (Af b0))
    {pc : Nat} {ls : Lc} {rest as : List Vl} {l1 l0 : Al} {idx M : Nat} {q : Int}
    (hd : decode cc pc = .ok (.invokespecial idx, 3)) (hl : ILk own idx M) (hlen : as.length = mp M) (hcs : csum (vR 0 q :: as) ≤ ml M) (hst : csum rest ≤ 8) (hc : (l1 ++ l0).length + mc ≤ n0 + R.cells) (hs : szs (l1 ++ l0) + ms ≤ z0 + R.slots)
    (kk : Cal M (vR 0 q :: as) (pre ++ l1) l0 mc ms (fun l2 => Ga b0 n0 z0 cI cR D pre p l e R s m args below meth c Q nL (pc + 3) ls rest (l1 ++ l2))) : Ga b0 n0 z0 cI cR D pre p l e R s m args below meth c Q nL pc ls (as.reverse ++ vR 0 q :: rest) (l1 ++ l0) := by
  intro g1 g2 g3 H locs lsA g4 g5 g6
  obtain ⟨hx, hb, hml, hown, hts, hnest, hlk⟩ := CX
  obtain ⟨hlink, hmok, hinst, hnm, hret⟩ := hl
  obtain ⟨ga, gr⟩ := rS_app.mp g3
  obtain ⟨q1, gr⟩ := rS_cons.mp gr
  have hvd : ∀ z, vdA pre (l1 ++ l0) z → vdA (pre ++ l1) l0 z := fun z h => h.imp id fun h => ⟨h.1, by have := h.2; simp only [List.length_append] at *; omega⟩
  have gas : rS (vdA (pre ++ l1) l0) (vR 0 q :: as) := rS_mono hvd (rS_cons.mpr ⟨q1, rS_rev.mp ga⟩)
  have hWA : WA b0 cI cR D (pre ++ l1) l0 H := ⟨by rw [List.append_assoc]; exact g4.1, by rw [g4.2]; simp only [List.length_append]; omega⟩
  have hM := hCal M (vR 0 q :: as) (pre ++ l1) l0 mc ms _ kk hcs hmok hret
  have hgood := wsM_good hmok
  have hR2 : (rmA d mc ms).frames + 1 ≤ R.frames ∧ 8 + (ml M + 11) + (rmA d mc ms).locals ≤ R.locals := ⟨hR.1, by have h1 := hmok.2.2.2.2.1; show 8 + (ml M + 11) + 40 * d ≤ R.locals; omega⟩
  have hdd : (my M).cls ≠ "java/lang/invoke/MethodHandle" ∧ (my M).cls ≠ "java/lang/invoke/VarHandle" ∧ (parseMethodDescriptor (my M).desc).map (fun d => d.parameters.length) = some (mp M) := ⟨hmok.2.2.1.1, hmok.2.2.1.2, hmok.2.2.2.1⟩
  have hp : PreS s H (PcA b0 cI cR D (vR 0 q :: as) (pre ++ l1) l0) (.ref (adA b0 0 q) :: as.map (mv (adA b0))) := ⟨PcA_blind, fun U hU hW => ⟨rfl, gas, by rw [hU]; exact hWA, CT.moved hW⟩⟩
  have hfin : ∀ hr : va_Run p l e R s m args below meth c H locs ((l1 ++ l0).length - n0) (szs (l1 ++ l0) - z0) mc ms (F0 m pc lsA (List.map (mv (adA b0)) (as.reverse ++ vR 0 q :: rest))) (rest.map (mv (adA b0))) (QcA b0 cI cR D (pre ++ l1) l0 mc ms (fun l2 => Ga b0 n0 z0 cI cR D pre p l e R s m args below meth c Q nL (pc + 3) ls rest (l1 ++ l2)) (Value.ref (adA b0 0 q) :: as.map (mv (adA b0))).toArray) (Af b0),
      W p l e R s m args below meth c H locs ((l1 ++ l0).length - n0) (szs (l1 ++ l0) - z0) Q (F0 m pc lsA (List.map (mv (adA b0)) (as.reverse ++ vR 0 q :: rest))) := fun hr => by
    refine gm_callA hr g5 (fun l2 H1 locs1 hpost h1 h2 hw hS1 => ?_)
    have e1 : (l1 ++ l2).length - n0 = (l1 ++ l0).length - n0 + mc := by
      have := g1.1
      simp only [List.length_append] at *
      omega
    have e2 : szs (l1 ++ l2) - z0 = szs (l1 ++ l0) - z0 + ms := by
      have := g1.2
      rw [szs_app] at *
      rw [szs_app]
      omega
    have hvd2 : ∀ z, vdA pre (l1 ++ l0) z → vdA pre (l1 ++ l2) z := fun z h => h.imp id fun h => ⟨h.1, by have := h.2; simp only [List.length_append] at *; omega⟩
    have k' := hpost ⟨by have := g1.1; simp only [List.length_append] at *; omega, by have := g1.2; rw [szs_app] at *; omega⟩ (fun v hv => rV_mono hvd2 (g2 v hv)) (rS_mono hvd2 gr) H1 locs1 lsA ⟨by rw [← List.append_assoc]; exact hw.1, by rw [hw.2]; simp only [List.length_append]; omega⟩ hS1 g6
    rw [← e1, ← e2]
    exact k'
  have hstack : List.map (mv (adA b0)) (as.reverse ++ vR 0 q :: rest) = (as.map (mv (adA b0))).reverse ++ .ref (adA b0 0 q) :: rest.map (mv (adA b0)) := by
    rw [List.map_append, List.map_reverse]
    rfl
  rcases hlink with hlnk | ⟨host, hlnk⟩
  · exact hfin (va_runI ⟨hx, hb, hml, hown, hts⟩ hM ⟨callB_of (mp M) hts hgood (by show Cond.code _ _ _ _ :: gT = _; rw [hret]) rfl rfl (hts _ hmok.2.1) (hts _ hlnk) hdd hR2, hnm, hts _ hinst⟩ hp rfl (by rw [List.length_map]; exact hlen) g6.2.1 hstack (lv_room (by rw [mv_sum]; exact hst)) hd ⟨by show (l1 ++ l0).length - n0 + mc ≤ _; have := g1.1; omega, by show szs (l1 ++ l0) - z0 + ms ≤ _; have := g1.2; omega⟩)
  · exact hfin (va_runIN ⟨hx, hb, hml, hown, hts⟩ hM ⟨va_cnB (mp M) hts hgood (by show Cond.code _ _ _ _ :: gT = _; rw [hret]) rfl rfl (hnest _ hlnk) (hts _ hmok.2.1) hdd hR2, hnm, hts _ hinst⟩ hp rfl (by rw [List.length_map]; exact hlen) g6.2.1 hstack (lv_room (by rw [mv_sum]; exact hst)) hd ⟨by show (l1 ++ l0).length - n0 + mc ≤ _; have := g1.1; omega, by show szs (l1 ++ l0) - z0 + ms ≤ _; have := g1.2; omega⟩)
theorem ga_fill (CX : Cx p s m args meth c cc own nL) (CT : CAt cI cR D s) {d : Nat} (hR : d + 1 ≤ R.frames ∧ 40 * (d + 1) ≤ R.locals) {Cal : Nat → List Vl → Al → Al → Nat → Nat → (Al → Prop) → Prop}
    (hCal : ∀ (M : Nat) (as : List Vl) (pre l0 : Al) (mc ms : Nat) (Post : Al → Prop), Cal M as pre l0 mc ms Post → csum as ≤ ml M → MOK M → mr M = none → Met l (my M) (wsM M) (rmA d mc ms) (PcA b0 cI cR D as pre l0) (QcA b0 cI cR D pre l0 mc ms Post) mc ms (Af b0))
    {pc : Nat} {ls : Lc} {rest as : List Vl} {l0 : Al} {idx M : Nat}
    (hd : decode cc pc = .ok (.invokestatic idx, 3)) (hl : TLk own idx M) (hret : mr M = none) (hlen : as.length = mp M) (hcs : csum as ≤ ml M) (hst : csum rest ≤ 8) (hc : l0.length ≤ n0 + R.cells) (hs : szs l0 ≤ z0 + R.slots)
    (kk : Cal M as pre l0 0 0 (fun l2 => Ga b0 n0 z0 cI cR D pre p l e R s m args below meth c Q nL (pc + 3) ls rest l2)) : Ga b0 n0 z0 cI cR D pre p l e R s m args below meth c Q nL pc ls (as.reverse ++ rest) l0 := by
  intro g1 g2 g3 H locs lsA g4 g5 g6
  obtain ⟨hx, hb, hml, hown, hts, hnest, hlk⟩ := CX
  obtain ⟨hlink, hmok, hstat⟩ := hl
  obtain ⟨ga, gr⟩ := rS_app.mp g3
  have gas : rS (vdA pre l0) as := rS_rev.mp ga
  have hM := hCal M as pre l0 0 0 _ kk hcs hmok hret
  have hgood := wsM_good hmok
  have hR2 : (rmA d 0 0).frames + 1 ≤ R.frames ∧ 8 + (ml M + 11) + (rmA d 0 0).locals ≤ R.locals := ⟨hR.1, by have h1 := hmok.2.2.2.2.1; show 8 + (ml M + 11) + 40 * d ≤ R.locals; omega⟩
  have hdd : (my M).cls ≠ "java/lang/invoke/MethodHandle" ∧ (my M).cls ≠ "java/lang/invoke/VarHandle" ∧ (parseMethodDescriptor (my M).desc).map (fun d => d.parameters.length) = some (mp M) := ⟨hmok.2.2.1.1, hmok.2.2.1.2, hmok.2.2.2.1⟩
  have hp : PreS s H (PcA b0 cI cR D as pre l0) (as.map (mv (adA b0))) := ⟨PcA_blind, fun U hU hW => ⟨rfl, gas, by rw [hU]; exact g4, CT.moved hW⟩⟩
  have hfin : ∀ hr : va_Run p l e R s m args below meth c H locs (l0.length - n0) (szs l0 - z0) 0 0 (F0 m pc lsA (List.map (mv (adA b0)) (as.reverse ++ rest))) (rest.map (mv (adA b0))) (QcA b0 cI cR D pre l0 0 0 (fun l2 => Ga b0 n0 z0 cI cR D pre p l e R s m args below meth c Q nL (pc + 3) ls rest l2) (as.map (mv (adA b0))).toArray) (Af b0),
      W p l e R s m args below meth c H locs (l0.length - n0) (szs l0 - z0) Q (F0 m pc lsA (List.map (mv (adA b0)) (as.reverse ++ rest))) := fun hr => by
    refine gm_callA hr g5 (fun l2 H1 locs1 hpost h1 h2 hw hS1 => ?_)
    have hvd2 : ∀ z, vdA pre l0 z → vdA pre l2 z := fun z h => h.imp id fun h => ⟨h.1, by rw [h1]; exact h.2⟩
    have k' := hpost ⟨by rw [h1]; exact g1.1, by rw [h2]; exact g1.2⟩ (fun v hv => rV_mono hvd2 (g2 v hv)) (rS_mono hvd2 gr) H1 locs1 lsA hw hS1 g6
    simp only [h1, h2, Nat.add_zero] at k' ⊢
    exact k'
  have hstack : List.map (mv (adA b0)) (as.reverse ++ rest) = (as.map (mv (adA b0))).reverse ++ rest.map (mv (adA b0)) := by
    rw [List.map_append, List.map_reverse]
  rcases hlink with hlnk | ⟨host, hlnk⟩
  · exact hfin (va_runS ⟨hx, hb, hml, hown, hts⟩ hM ⟨callB_of (mp M) hts hgood rfl rfl rfl (hts _ hmok.2.1) (hts _ hlnk) hdd hR2, hts _ hstat⟩ hp rfl (by rw [List.length_map]; exact hlen) g6.2.1 hstack (lv_room (by rw [mv_sum]; exact hst)) hd ⟨by show l0.length - n0 + 0 ≤ _; omega, by show szs l0 - z0 + 0 ≤ _; omega⟩)
  · exact hfin (va_runSN ⟨hx, hb, hml, hown, hts⟩ hM ⟨va_cnB (mp M) hts hgood rfl rfl rfl (hnest _ hlnk) (hts _ hmok.2.1) hdd hR2, hts _ hstat, trivial⟩ hp rfl (by rw [List.length_map]; exact hlen) g6.2.1 hstack (lv_room (by rw [mv_sum]; exact hst)) hd ⟨by show l0.length - n0 + 0 ≤ _; omega, by show szs l0 - z0 + 0 ≤ _; omega⟩)
theorem ga_ret (CX : Cx p s m args meth c cc own nL) {l0 : Al} {mc ms : Nat} {Post : Al → Prop} {pc : Nat} {ls : Lc} {μ : Al} (hr : meth.sig.returnType = none) (hd : decode cc pc = .ok (.return_, 1)) (hp : Post μ) (h1 : μ.length = l0.length + mc) (h2 : szs μ = szs l0 + ms) :
    Ga b0 l0.length (szs l0) cI cR D pre p l e R s m args below meth c (MQ below (QcA b0 cI cR D pre l0 mc ms Post) args s mc ms (Af b0)) nL pc ls [] μ := by
  intro g1 g2 g3 H locs lsA g4 g5 g6
  obtain ⟨hx, hb, hml, hown, hts, hnest, hlk⟩ := CX
  have e1 : μ.length - l0.length = mc := by omega
  have e2 : szs μ - szs l0 = ms := by omega
  show W p l e R s m args below meth c H locs (μ.length - l0.length) (szs μ - szs l0) _ _
  rw [e1, e2]
  exact W.vret hx hb hr (fun t ht hW => ⟨⟨μ, rfl, hp, h1, h2, by rw [ht]; exact g4⟩, g5.F ht⟩) g5.2.2 hd (hlocks := hlk)
end GA3

def A_new (cc : ByteArray) (own nm : String) (pre : Al) (n0 z0 bc bs : Nat) (Cal : Nat → List Vl → Al → Al → Nat → Nat → (Al → Prop) → Prop) (K : Nat → Lc → List Vl → Al → Prop) : Prop := ∀ {pc : Nat} {ls : Lc} {st : List Vl} {μ : Al} {idx ci : Nat} {q : Int}, (decode cc pc = .ok (.new idx, 3)) → (NLk own idx ci) → (μ.length + 1 ≤ n0 + bc) → (szs μ + clN ci ≤ z0 + bs) → (((pre.length + μ.length : Nat) : Int) = q) → (K (pc + 3) ls (vR 0 q :: st) (μ ++ [(0, ci, dfl ci)])) → K pc ls st μ
def A_newa (cc : ByteArray) (own nm : String) (pre : Al) (n0 z0 bc bs : Nat) (Cal : Nat → List Vl → Al → Al → Nat → Nat → (Al → Prop) → Prop) (K : Nat → Lc → List Vl → Al → Prop) : Prop := ∀ {pc : Nat} {ls : Lc} {st : List Vl} {μ : Al} {n q : Int} {nn : Nat}, (decode cc pc = .ok (.newarray .int, 2)) → (Cond.arrayClass .int ∈ gT) → ((nn : Int) = n) → (nn * 4 ≤ 536870912) → (μ.length + 1 ≤ n0 + bc) → (szs μ + nn ≤ z0 + bs) → (((pre.length + μ.length : Nat) : Int) = q) → (K (pc + 2) ls (vR 0 q :: st) (μ ++ [(1, nn, fun _ => vI 0)])) → K pc ls (vI n :: st) μ
def A_anew2 (cc : ByteArray) (own nm : String) (pre : Al) (n0 z0 bc bs : Nat) (Cal : Nat → List Vl → Al → Al → Nat → Nat → (Al → Prop) → Prop) (K : Nat → Lc → List Vl → Al → Prop) : Prop := ∀ {pc : Nat} {ls : Lc} {st : List Vl} {μ : Al} {n q : Int} {nn idx : Nat}, (decode cc pc = .ok (.anewarray idx, 3)) → (Cond.classLink own idx RX2 ∈ gT) → ((nn : Int) = n) → (nn * 4 ≤ 536870912) → (μ.length + 1 ≤ n0 + bc) → (szs μ + nn ≤ z0 + bs) → (((pre.length + μ.length : Nat) : Int) = q) → (K (pc + 3) ls (vR 0 q :: st) (μ ++ [(2, nn, fun _ => vN)])) → K pc ls (vI n :: st) μ
def A_anew3 (cc : ByteArray) (own nm : String) (pre : Al) (n0 z0 bc bs : Nat) (Cal : Nat → List Vl → Al → Al → Nat → Nat → (Al → Prop) → Prop) (K : Nat → Lc → List Vl → Al → Prop) : Prop := ∀ {pc : Nat} {ls : Lc} {st : List Vl} {μ : Al} {n q : Int} {nn idx : Nat}, (decode cc pc = .ok (.anewarray idx, 3)) → (Cond.classLink own idx RX4 ∈ gT) → ((nn : Int) = n) → (nn * 4 ≤ 536870912) → (μ.length + 1 ≤ n0 + bc) → (szs μ + nn ≤ z0 + bs) → (((pre.length + μ.length : Nat) : Int) = q) → (K (pc + 3) ls (vR 0 q :: st) (μ ++ [(3, nn, fun _ => vN)])) → K pc ls (vI n :: st) μ
def A_anew4 (cc : ByteArray) (own nm : String) (pre : Al) (n0 z0 bc bs : Nat) (Cal : Nat → List Vl → Al → Al → Nat → Nat → (Al → Prop) → Prop) (K : Nat → Lc → List Vl → Al → Prop) : Prop := ∀ {pc : Nat} {ls : Lc} {st : List Vl} {μ : Al} {n q : Int} {nn idx : Nat}, (decode cc pc = .ok (.anewarray idx, 3)) → (Cond.classLink own idx RX3 ∈ gT) → ((nn : Int) = n) → (nn * 4 ≤ 536870912) → (μ.length + 1 ≤ n0 + bc) → (szs μ + nn ≤ z0 + bs) → (((pre.length + μ.length : Nat) : Int) = q) → (K (pc + 3) ls (vR 0 q :: st) (μ ++ [(4, nn, fun _ => vN)])) → K pc ls (vI n :: st) μ
def A_mna (cc : ByteArray) (own nm : String) (pre : Al) (n0 z0 bc bs : Nat) (Cal : Nat → List Vl → Al → Al → Nat → Nat → (Al → Prop) → Prop) (K : Nat → Lc → List Vl → Al → Prop) : Prop := ∀ {pc : Nat} {ls : Lc} {st : List Vl} {μ : Al} {n k q : Int} {N M idx : Nat}, (decode cc pc = .ok (.multianewarray idx 2, 4)) → (Cond.classLink own idx "[[I" ∈ gT ∧ Cond.arrayClass .int ∈ gT) → ((N : Int) = n) → ((M : Int) = k) → (N * 4 ≤ 536870912) → (M * 4 ≤ 536870912) → (μ.length + (1 + N) ≤ n0 + bc) → (szs μ + (N + N * M) ≤ z0 + bs) → (((pre.length + μ.length : Nat) : Int) = q) → (K (pc + 4) ls (vR 0 q :: st) (μ ++ ((5, N, fun j => if j < N then vR 0 (q + 1 + (j : Int)) else vN) :: List.replicate N (1, M, fun _ => vI 0)))) → K pc ls (vI k :: vI n :: st) μ
def A_getf (cc : ByteArray) (own nm : String) (pre : Al) (n0 z0 bc bs : Nat) (Cal : Nat → List Vl → Al → Al → Nat → Nat → (Al → Prop) → Prop) (K : Nat → Lc → List Vl → Al → Prop) : Prop := ∀ {pc : Nat} {ls : Lc} {st : List Vl} {μ : Al} {idx ci j k : Nat} {ty : FieldType} {q : Int} {f : Nat → Vl} {v : Vl}, (decode cc pc = .ok (.getfield idx, 3)) → (FLk own idx ci j ty) → (μ[k]? = some (0, ci, f)) → (((pre.length + k : Nat) : Int) = q) → (f j = v) → (rV (vdA pre μ) v) → (K (pc + 3) ls (v :: st) μ) → K pc ls (vR 0 q :: st) μ
def A_putI (cc : ByteArray) (own nm : String) (pre : Al) (n0 z0 bc bs : Nat) (Cal : Nat → List Vl → Al → Al → Nat → Nat → (Al → Prop) → Prop) (K : Nat → Lc → List Vl → Al → Prop) : Prop := ∀ {pc : Nat} {ls : Lc} {st : List Vl} {μ : Al} {idx ci j k : Nat} {q a : Int} {f : Nat → Vl}, (decode cc pc = .ok (.putfield idx, 3)) → (FLw own idx ci j .int) → (∀ (C : String) (T : u_T) (N : Nat), vwCl[ci]? = some (C, T, N) → Cond.fieldLink own idx C (T j).2.1 (T j).2.2.1 ∈ gT) → (μ[k]? = some (0, ci, f)) → (((pre.length + k : Nat) : Int) = q) → (K (pc + 3) ls st (μ.set k (0, ci, updC f j (vI a)))) → K pc ls (vI a :: vR 0 q :: st) μ
def A_putR (cc : ByteArray) (own nm : String) (pre : Al) (n0 z0 bc bs : Nat) (Cal : Nat → List Vl → Al → Al → Nat → Nat → (Al → Prop) → Prop) (K : Nat → Lc → List Vl → Al → Prop) : Prop := ∀ {pc : Nat} {ls : Lc} {st : List Vl} {μ : Al} {idx ci j k : Nat} {ty : FieldType} {q a : Int} {f : Nat → Vl}, (decode cc pc = .ok (.putfield idx, 3)) → (FLf own idx ci j ty) → (nm = "<init>") → (∀ (C : String) (T : u_T) (N : Nat), vwCl[ci]? = some (C, T, N) → Cond.fieldLink own idx C (T j).2.1 (T j).2.2.1 ∈ gT) → (μ[k]? = some (0, ci, f)) → (((pre.length + k : Nat) : Int) = q) → (∀ x : Nat, narrow ty (.ref x) = .ref x ∧ fits ty (.ref x) = true) → (K (pc + 3) ls st (μ.set k (0, ci, updC f j (vR 0 a)))) → K pc ls (vR 0 a :: vR 0 q :: st) μ
def A_iast (cc : ByteArray) (own nm : String) (pre : Al) (n0 z0 bc bs : Nat) (Cal : Nat → List Vl → Al → Al → Nat → Nat → (Al → Prop) → Prop) (K : Nat → Lc → List Vl → Al → Prop) : Prop := ∀ {pc : Nat} {ls : Lc} {st : List Vl} {μ : Al} {k n : Nat} {q i a : Int} {f : Nat → Vl}, (decode cc pc = .ok (.iastore, 1)) → (μ[k]? = some (1, n, f)) → (((pre.length + k : Nat) : Int) = q) → (0 ≤ i) → (i < (n : Int)) → (K (pc + 1) ls st (μ.set k (1, n, updC f i.toNat (vI a)))) → K pc ls (vI a :: vI i :: vR 0 q :: st) μ
def A_alen (cc : ByteArray) (own nm : String) (pre : Al) (n0 z0 bc bs : Nat) (Cal : Nat → List Vl → Al → Al → Nat → Nat → (Al → Prop) → Prop) (K : Nat → Lc → List Vl → Al → Prop) : Prop := ∀ {pc : Nat} {ls : Lc} {st : List Vl} {μ : Al} {k n : Nat} {q nz : Int} {f : Nat → Vl}, (decode cc pc = .ok (.arraylength, 1)) → (μ[k]? = some (1, n, f)) → (((pre.length + k : Nat) : Int) = q) → ((n : Int) = nz) → (n < 2147483648) → (K (pc + 1) ls (vI nz :: st) μ) → K pc ls (vR 0 q :: st) μ
def A_aast2 (cc : ByteArray) (own nm : String) (pre : Al) (n0 z0 bc bs : Nat) (Cal : Nat → List Vl → Al → Al → Nat → Nat → (Al → Prop) → Prop) (K : Nat → Lc → List Vl → Al → Prop) : Prop := ∀ {pc : Nat} {ls : Lc} {st : List Vl} {μ : Al} {k n kv : Nat} {q i qv : Int} {f fv : Nat → Vl}, (decode cc pc = .ok (.aastore, 1)) → (μ[k]? = some (2, n, f)) → (((pre.length + k : Nat) : Int) = q) → (0 ≤ i) → (i < (n : Int)) → (μ[kv]? = some (0, 2, fv)) → (((pre.length + kv : Nat) : Int) = qv) → (K (pc + 1) ls st (μ.set k (2, n, updC f i.toNat (vR 0 qv)))) → K pc ls (vR 0 qv :: vI i :: vR 0 q :: st) μ
def A_aast3 (cc : ByteArray) (own nm : String) (pre : Al) (n0 z0 bc bs : Nat) (Cal : Nat → List Vl → Al → Al → Nat → Nat → (Al → Prop) → Prop) (K : Nat → Lc → List Vl → Al → Prop) : Prop := ∀ {pc : Nat} {ls : Lc} {st : List Vl} {μ : Al} {k n kv : Nat} {q i qv : Int} {f fv : Nat → Vl}, (decode cc pc = .ok (.aastore, 1)) → (μ[k]? = some (3, n, f)) → (((pre.length + k : Nat) : Int) = q) → (0 ≤ i) → (i < (n : Int)) → (μ[kv]? = some (0, 4, fv)) → (((pre.length + kv : Nat) : Int) = qv) → (K (pc + 1) ls st (μ.set k (3, n, updC f i.toNat (vR 0 qv)))) → K pc ls (vR 0 qv :: vI i :: vR 0 q :: st) μ
def A_aast4 (cc : ByteArray) (own nm : String) (pre : Al) (n0 z0 bc bs : Nat) (Cal : Nat → List Vl → Al → Al → Nat → Nat → (Al → Prop) → Prop) (K : Nat → Lc → List Vl → Al → Prop) : Prop := ∀ {pc : Nat} {ls : Lc} {st : List Vl} {μ : Al} {k n kv : Nat} {q i qv : Int} {f fv : Nat → Vl}, (decode cc pc = .ok (.aastore, 1)) → (μ[k]? = some (4, n, f)) → (((pre.length + k : Nat) : Int) = q) → (0 ≤ i) → (i < (n : Int)) → (μ[kv]? = some (0, 3, fv)) → (((pre.length + kv : Nat) : Int) = qv) → (K (pc + 1) ls st (μ.set k (4, n, updC f i.toNat (vR 0 qv)))) → K pc ls (vR 0 qv :: vI i :: vR 0 q :: st) μ
def A_obj (cc : ByteArray) (own nm : String) (pre : Al) (n0 z0 bc bs : Nat) (Cal : Nat → List Vl → Al → Al → Nat → Nat → (Al → Prop) → Prop) (K : Nat → Lc → List Vl → Al → Prop) : Prop := ∀ {pc : Nat} {ls : Lc} {st : List Vl} {μ : Al} {idx : Nat} {q : Int}, (decode cc pc = .ok (.invokespecial idx, 3)) → (Cond.methodLink own idx Lib.objectInit ∈ gT ∧ Cond.instanceMethod Lib.objectInit ∈ gT ∧ Cond.code Lib.objectInit ⟨#[0xb1]⟩ 1 none ∈ gT) → (csum st ≤ 8) → (K (pc + 3) ls st μ) → K pc ls (vR 0 q :: st) μ
def A_call (cc : ByteArray) (own nm : String) (pre : Al) (n0 z0 bc bs : Nat) (Cal : Nat → List Vl → Al → Al → Nat → Nat → (Al → Prop) → Prop) (K : Nat → Lc → List Vl → Al → Prop) : Prop := ∀ {pc : Nat} {ls : Lc} {rest as : List Vl} {l1 l0 : Al} {idx M : Nat} {q : Int} {mc ms : Nat}, (decode cc pc = .ok (.invokespecial idx, 3)) → (ILk own idx M) → (as.length = mp M) → (csum (vR 0 q :: as) ≤ ml M) → (csum rest ≤ 8) → ((l1 ++ l0).length + mc ≤ n0 + bc) → (szs (l1 ++ l0) + ms ≤ z0 + bs) → (Cal M (vR 0 q :: as) (pre ++ l1) l0 mc ms (fun l2 => K (pc + 3) ls rest (l1 ++ l2))) → K pc ls (as.reverse ++ vR 0 q :: rest) (l1 ++ l0)
def A_fill (cc : ByteArray) (own nm : String) (pre : Al) (n0 z0 bc bs : Nat) (Cal : Nat → List Vl → Al → Al → Nat → Nat → (Al → Prop) → Prop) (K : Nat → Lc → List Vl → Al → Prop) : Prop := ∀ {pc : Nat} {ls : Lc} {rest as : List Vl} {l0 : Al} {idx M : Nat}, (decode cc pc = .ok (.invokestatic idx, 3)) → (TLk own idx M) → (mr M = none) → (as.length = mp M) → (csum as ≤ ml M) → (csum rest ≤ 8) → (l0.length ≤ n0 + bc) → (szs l0 ≤ z0 + bs) → (Cal M as pre l0 0 0 (fun l2 => K (pc + 3) ls rest l2)) → K pc ls (as.reverse ++ rest) l0
def StpN (cc : ByteArray) (own nm : String) (pre : Al) (n0 z0 bc bs : Nat) (Cal : Nat → List Vl → Al → Al → Nat → Nat → (Al → Prop) → Prop) (K : Nat → Lc → List Vl → Al → Prop) : Prop := StpC (vdA pre) (fun μ : Al => n0 ≤ μ.length ∧ z0 ≤ szs μ) cc own K ∧ A_new cc own nm pre n0 z0 bc bs Cal K ∧ A_newa cc own nm pre n0 z0 bc bs Cal K ∧ A_anew2 cc own nm pre n0 z0 bc bs Cal K ∧ A_anew3 cc own nm pre n0 z0 bc bs Cal K ∧ A_anew4 cc own nm pre n0 z0 bc bs Cal K ∧ A_mna cc own nm pre n0 z0 bc bs Cal K ∧ A_getf cc own nm pre n0 z0 bc bs Cal K ∧ A_putI cc own nm pre n0 z0 bc bs Cal K ∧ A_putR cc own nm pre n0 z0 bc bs Cal K ∧ A_iast cc own nm pre n0 z0 bc bs Cal K ∧ A_alen cc own nm pre n0 z0 bc bs Cal K ∧ A_aast2 cc own nm pre n0 z0 bc bs Cal K ∧ A_aast3 cc own nm pre n0 z0 bc bs Cal K ∧ A_aast4 cc own nm pre n0 z0 bc bs Cal K ∧ A_obj cc own nm pre n0 z0 bc bs Cal K ∧ A_call cc own nm pre n0 z0 bc bs Cal K ∧ A_fill cc own nm pre n0 z0 bc bs Cal K
def StpA (cc : ByteArray) (own nm : String) (pre l0 : Al) (mc ms : Nat) (Cal : Nat → List Vl → Al → Al → Nat → Nat → (Al → Prop) → Prop) (Post : Al → Prop) (K : Nat → Lc → List Vl → Al → Prop) : Prop := StpN cc own nm pre l0.length (szs l0) mc ms Cal K ∧ ∀ {pc : Nat} {ls : Lc} {μ : Al}, decode cc pc = .ok (.return_, 1) → Post μ → μ.length = l0.length + mc → szs μ = szs l0 + ms → K pc ls [] μ
section AROWS
variable {cc : ByteArray} {own nm : String} {pre : Al} {n0 z0 bc bs : Nat} {Cal : Nat → List Vl → Al → Al → Nat → Nat → (Al → Prop) → Prop} {K : Nat → Lc → List Vl → Al → Prop}
theorem n_new (hN : StpN cc own nm pre n0 z0 bc bs Cal K) {pc : Nat} {ls : Lc} {st : List Vl} {μ : Al} {idx ci : Nat} {q : Int} (hd : decode cc pc = .ok (.new idx, 3)) (hl : NLk own idx ci) (hc : μ.length + 1 ≤ n0 + bc) (hs : szs μ + clN ci ≤ z0 + bs) (hq : ((pre.length + μ.length : Nat) : Int) = q) (k_ : K (pc + 3) ls (vR 0 q :: st) (μ ++ [(0, ci, dfl ci)])) : K pc ls st μ := hN.2.1 hd hl hc hs hq k_
theorem n_newa (hN : StpN cc own nm pre n0 z0 bc bs Cal K) {pc : Nat} {ls : Lc} {st : List Vl} {μ : Al} {n q : Int} {nn : Nat} (hd : decode cc pc = .ok (.newarray .int, 2)) (hw : Cond.arrayClass .int ∈ gT) (hn : (nn : Int) = n) (hn2 : nn * 4 ≤ 536870912) (hc : μ.length + 1 ≤ n0 + bc) (hs : szs μ + nn ≤ z0 + bs) (hq : ((pre.length + μ.length : Nat) : Int) = q) (k_ : K (pc + 2) ls (vR 0 q :: st) (μ ++ [(1, nn, fun _ => vI 0)])) : K pc ls (vI n :: st) μ := hN.2.2.1 hd hw hn hn2 hc hs hq k_
theorem n_anew2 (hN : StpN cc own nm pre n0 z0 bc bs Cal K) {pc : Nat} {ls : Lc} {st : List Vl} {μ : Al} {n q : Int} {nn idx : Nat} (hd : decode cc pc = .ok (.anewarray idx, 3)) (hw : Cond.classLink own idx RX2 ∈ gT) (hn : (nn : Int) = n) (hn2 : nn * 4 ≤ 536870912) (hc : μ.length + 1 ≤ n0 + bc) (hs : szs μ + nn ≤ z0 + bs) (hq : ((pre.length + μ.length : Nat) : Int) = q) (k_ : K (pc + 3) ls (vR 0 q :: st) (μ ++ [(2, nn, fun _ => vN)])) : K pc ls (vI n :: st) μ := hN.2.2.2.1 hd hw hn hn2 hc hs hq k_
theorem n_anew3 (hN : StpN cc own nm pre n0 z0 bc bs Cal K) {pc : Nat} {ls : Lc} {st : List Vl} {μ : Al} {n q : Int} {nn idx : Nat} (hd : decode cc pc = .ok (.anewarray idx, 3)) (hw : Cond.classLink own idx RX4 ∈ gT) (hn : (nn : Int) = n) (hn2 : nn * 4 ≤ 536870912) (hc : μ.length + 1 ≤ n0 + bc) (hs : szs μ + nn ≤ z0 + bs) (hq : ((pre.length + μ.length : Nat) : Int) = q) (k_ : K (pc + 3) ls (vR 0 q :: st) (μ ++ [(3, nn, fun _ => vN)])) : K pc ls (vI n :: st) μ := hN.2.2.2.2.1 hd hw hn hn2 hc hs hq k_
theorem n_anew4 (hN : StpN cc own nm pre n0 z0 bc bs Cal K) {pc : Nat} {ls : Lc} {st : List Vl} {μ : Al} {n q : Int} {nn idx : Nat} (hd : decode cc pc = .ok (.anewarray idx, 3)) (hw : Cond.classLink own idx RX3 ∈ gT) (hn : (nn : Int) = n) (hn2 : nn * 4 ≤ 536870912) (hc : μ.length + 1 ≤ n0 + bc) (hs : szs μ + nn ≤ z0 + bs) (hq : ((pre.length + μ.length : Nat) : Int) = q) (k_ : K (pc + 3) ls (vR 0 q :: st) (μ ++ [(4, nn, fun _ => vN)])) : K pc ls (vI n :: st) μ := hN.2.2.2.2.2.1 hd hw hn hn2 hc hs hq k_
theorem n_mna (hN : StpN cc own nm pre n0 z0 bc bs Cal K) {pc : Nat} {ls : Lc} {st : List Vl} {μ : Al} {n k q : Int} {N M idx : Nat} (hd : decode cc pc = .ok (.multianewarray idx 2, 4)) (hw : Cond.classLink own idx "[[I" ∈ gT ∧ Cond.arrayClass .int ∈ gT) (hn : (N : Int) = n) (hk : (M : Int) = k) (hb1 : N * 4 ≤ 536870912) (hb2 : M * 4 ≤ 536870912) (hc : μ.length + (1 + N) ≤ n0 + bc) (hs : szs μ + (N + N * M) ≤ z0 + bs) (hq : ((pre.length + μ.length : Nat) : Int) = q) (k_ : K (pc + 4) ls (vR 0 q :: st) (μ ++ ((5, N, fun j => if j < N then vR 0 (q + 1 + (j : Int)) else vN) :: List.replicate N (1, M, fun _ => vI 0)))) : K pc ls (vI k :: vI n :: st) μ := hN.2.2.2.2.2.2.1 hd hw hn hk hb1 hb2 hc hs hq k_
theorem n_getf (hN : StpN cc own nm pre n0 z0 bc bs Cal K) {pc : Nat} {ls : Lc} {st : List Vl} {μ : Al} {idx ci j k : Nat} {ty : FieldType} {q : Int} {f : Nat → Vl} {v : Vl} (hd : decode cc pc = .ok (.getfield idx, 3)) (hf : FLk own idx ci j ty) (hk : μ[k]? = some (0, ci, f)) (hq : ((pre.length + k : Nat) : Int) = q) (hv : f j = v) (hr : rV (vdA pre μ) v) (k_ : K (pc + 3) ls (v :: st) μ) : K pc ls (vR 0 q :: st) μ := hN.2.2.2.2.2.2.2.1 hd hf hk hq hv hr k_
theorem n_putI (hN : StpN cc own nm pre n0 z0 bc bs Cal K) {pc : Nat} {ls : Lc} {st : List Vl} {μ : Al} {idx ci j k : Nat} {q a : Int} {f : Nat → Vl} (hd : decode cc pc = .ok (.putfield idx, 3)) (hf : FLw own idx ci j .int) (hg : ∀ (C : String) (T : u_T) (N : Nat), vwCl[ci]? = some (C, T, N) → Cond.fieldLink own idx C (T j).2.1 (T j).2.2.1 ∈ gT) (hk : μ[k]? = some (0, ci, f)) (hq : ((pre.length + k : Nat) : Int) = q) (k_ : K (pc + 3) ls st (μ.set k (0, ci, updC f j (vI a)))) : K pc ls (vI a :: vR 0 q :: st) μ := hN.2.2.2.2.2.2.2.2.1 hd hf hg hk hq k_
theorem n_putR (hN : StpN cc own nm pre n0 z0 bc bs Cal K) {pc : Nat} {ls : Lc} {st : List Vl} {μ : Al} {idx ci j k : Nat} {ty : FieldType} {q a : Int} {f : Nat → Vl} (hd : decode cc pc = .ok (.putfield idx, 3)) (hf : FLf own idx ci j ty) (hm : nm = "<init>") (hg : ∀ (C : String) (T : u_T) (N : Nat), vwCl[ci]? = some (C, T, N) → Cond.fieldLink own idx C (T j).2.1 (T j).2.2.1 ∈ gT) (hk : μ[k]? = some (0, ci, f)) (hq : ((pre.length + k : Nat) : Int) = q) (hn : ∀ x : Nat, narrow ty (.ref x) = .ref x ∧ fits ty (.ref x) = true) (k_ : K (pc + 3) ls st (μ.set k (0, ci, updC f j (vR 0 a)))) : K pc ls (vR 0 a :: vR 0 q :: st) μ := hN.2.2.2.2.2.2.2.2.2.1 hd hf hm hg hk hq hn k_
theorem n_iast (hN : StpN cc own nm pre n0 z0 bc bs Cal K) {pc : Nat} {ls : Lc} {st : List Vl} {μ : Al} {k n : Nat} {q i a : Int} {f : Nat → Vl} (hd : decode cc pc = .ok (.iastore, 1)) (hk : μ[k]? = some (1, n, f)) (hq : ((pre.length + k : Nat) : Int) = q) (h0 : 0 ≤ i) (h1 : i < (n : Int)) (k_ : K (pc + 1) ls st (μ.set k (1, n, updC f i.toNat (vI a)))) : K pc ls (vI a :: vI i :: vR 0 q :: st) μ := hN.2.2.2.2.2.2.2.2.2.2.1 hd hk hq h0 h1 k_
theorem n_alen (hN : StpN cc own nm pre n0 z0 bc bs Cal K) {pc : Nat} {ls : Lc} {st : List Vl} {μ : Al} {k n : Nat} {q nz : Int} {f : Nat → Vl} (hd : decode cc pc = .ok (.arraylength, 1)) (hk : μ[k]? = some (1, n, f)) (hq : ((pre.length + k : Nat) : Int) = q) (hz : (n : Int) = nz) (hn : n < 2147483648) (k_ : K (pc + 1) ls (vI nz :: st) μ) : K pc ls (vR 0 q :: st) μ := hN.2.2.2.2.2.2.2.2.2.2.2.1 hd hk hq hz hn k_
theorem n_aast2 (hN : StpN cc own nm pre n0 z0 bc bs Cal K) {pc : Nat} {ls : Lc} {st : List Vl} {μ : Al} {k n kv : Nat} {q i qv : Int} {f fv : Nat → Vl} (hd : decode cc pc = .ok (.aastore, 1)) (hk : μ[k]? = some (2, n, f)) (hq : ((pre.length + k : Nat) : Int) = q) (h0 : 0 ≤ i) (h1 : i < (n : Int)) (hkv : μ[kv]? = some (0, 2, fv)) (hqv : ((pre.length + kv : Nat) : Int) = qv) (k_ : K (pc + 1) ls st (μ.set k (2, n, updC f i.toNat (vR 0 qv)))) : K pc ls (vR 0 qv :: vI i :: vR 0 q :: st) μ := hN.2.2.2.2.2.2.2.2.2.2.2.2.1 hd hk hq h0 h1 hkv hqv k_
theorem n_aast3 (hN : StpN cc own nm pre n0 z0 bc bs Cal K) {pc : Nat} {ls : Lc} {st : List Vl} {μ : Al} {k n kv : Nat} {q i qv : Int} {f fv : Nat → Vl} (hd : decode cc pc = .ok (.aastore, 1)) (hk : μ[k]? = some (3, n, f)) (hq : ((pre.length + k : Nat) : Int) = q) (h0 : 0 ≤ i) (h1 : i < (n : Int)) (hkv : μ[kv]? = some (0, 4, fv)) (hqv : ((pre.length + kv : Nat) : Int) = qv) (k_ : K (pc + 1) ls st (μ.set k (3, n, updC f i.toNat (vR 0 qv)))) : K pc ls (vR 0 qv :: vI i :: vR 0 q :: st) μ := hN.2.2.2.2.2.2.2.2.2.2.2.2.2.1 hd hk hq h0 h1 hkv hqv k_
theorem n_aast4 (hN : StpN cc own nm pre n0 z0 bc bs Cal K) {pc : Nat} {ls : Lc} {st : List Vl} {μ : Al} {k n kv : Nat} {q i qv : Int} {f fv : Nat → Vl} (hd : decode cc pc = .ok (.aastore, 1)) (hk : μ[k]? = some (4, n, f)) (hq : ((pre.length + k : Nat) : Int) = q) (h0 : 0 ≤ i) (h1 : i < (n : Int)) (hkv : μ[kv]? = some (0, 3, fv)) (hqv : ((pre.length + kv : Nat) : Int) = qv) (k_ : K (pc + 1) ls st (μ.set k (4, n, updC f i.toNat (vR 0 qv)))) : K pc ls (vR 0 qv :: vI i :: vR 0 q :: st) μ := hN.2.2.2.2.2.2.2.2.2.2.2.2.2.2.1 hd hk hq h0 h1 hkv hqv k_
theorem n_obj (hN : StpN cc own nm pre n0 z0 bc bs Cal K) {pc : Nat} {ls : Lc} {st : List Vl} {μ : Al} {idx : Nat} {q : Int} (hd : decode cc pc = .ok (.invokespecial idx, 3)) (hl : Cond.methodLink own idx Lib.objectInit ∈ gT ∧ Cond.instanceMethod Lib.objectInit ∈ gT ∧ Cond.code Lib.objectInit ⟨#[0xb1]⟩ 1 none ∈ gT) (hst : csum st ≤ 8) (k_ : K (pc + 3) ls st μ) : K pc ls (vR 0 q :: st) μ := hN.2.2.2.2.2.2.2.2.2.2.2.2.2.2.2.1 hd hl hst k_
theorem n_call (hN : StpN cc own nm pre n0 z0 bc bs Cal K) {pc : Nat} {ls : Lc} {rest as : List Vl} {l1 l0 : Al} {idx M : Nat} {q : Int} {mc ms : Nat} (hd : decode cc pc = .ok (.invokespecial idx, 3)) (hl : ILk own idx M) (hlen : as.length = mp M) (hcs : csum (vR 0 q :: as) ≤ ml M) (hst : csum rest ≤ 8) (hc : (l1 ++ l0).length + mc ≤ n0 + bc) (hs : szs (l1 ++ l0) + ms ≤ z0 + bs) (k_ : Cal M (vR 0 q :: as) (pre ++ l1) l0 mc ms (fun l2 => K (pc + 3) ls rest (l1 ++ l2))) : K pc ls (as.reverse ++ vR 0 q :: rest) (l1 ++ l0) := hN.2.2.2.2.2.2.2.2.2.2.2.2.2.2.2.2.1 hd hl hlen hcs hst hc hs k_
theorem n_fill (hN : StpN cc own nm pre n0 z0 bc bs Cal K) {pc : Nat} {ls : Lc} {rest as : List Vl} {l0 : Al} {idx M : Nat} (hd : decode cc pc = .ok (.invokestatic idx, 3)) (hl : TLk own idx M) (hret : mr M = none) (hlen : as.length = mp M) (hcs : csum as ≤ ml M) (hst : csum rest ≤ 8) (hc : l0.length ≤ n0 + bc) (hs : szs l0 ≤ z0 + bs) (k_ : Cal M as pre l0 0 0 (fun l2 => K (pc + 3) ls rest l2)) : K pc ls (as.reverse ++ rest) l0 := hN.2.2.2.2.2.2.2.2.2.2.2.2.2.2.2.2.2 hd hl hret hlen hcs hst hc hs k_
end AROWS
section ASND
variable {b0 n0 z0 bc bs : Nat} {cI : ClassId} {cR : Nat → ClassId} {D : va_G} {pre : Al}
variable {p : Program} {l : Launch} {e : Env} {R : Room} {s : State} {m : MethodId} {args : Array Value} {below : List Frame} {meth : Method} {c : Code} {Q : State → Prop} {nL : Nat} {cc : ByteArray} {own nm : String}
theorem stpN_Ga (CX : Cx p s m args meth c cc own nL) (CT : CAt cI cR D s) (hnm : meth.name = nm) {d : Nat} (hR : d + 1 ≤ R.frames ∧ 40 * (d + 1) ≤ R.locals) (hbc : bc ≤ R.cells) (hbs : bs ≤ R.slots) {Cal : Nat → List Vl → Al → Al → Nat → Nat → (Al → Prop) → Prop}
    (hCal : ∀ (M : Nat) (as : List Vl) (pre l0 : Al) (mc ms : Nat) (Post : Al → Prop), Cal M as pre l0 mc ms Post → csum as ≤ ml M → MOK M → mr M = none → Met l (my M) (wsM M) (rmA d mc ms) (PcA b0 cI cR D as pre l0) (QcA b0 cI cR D pre l0 mc ms Post) mc ms (Af b0)) :
    StpN cc own nm pre n0 z0 bc bs Cal (Ga b0 n0 z0 cI cR D pre p l e R s m args below meth c Q nL) := by
  have hR1 : 1 ≤ R.frames ∧ 40 ≤ R.locals := ⟨by omega, by omega⟩
  refine ⟨stpC_Gm CX, ?_, ?_, ?_, ?_, ?_, ?_, ?_, ?_, ?_, ?_, ?_, ?_, ?_, ?_, ?_, ?_, ?_⟩
  · intro pc ls st μ idx ci q hd hl hc hs hq k_
    exact ga_new CX CT hd hl (by omega) (by omega) hq k_
  · intro pc ls st μ n q nn hd hw hn hn2 hc hs hq k_
    exact ga_newa CX CT hd hw hn hn2 (by omega) (by omega) hq k_
  · intro pc ls st μ n q nn idx hd hw hn hn2 hc hs hq k_
    exact ga_anew (t := 0) CX CT hd hw CT.2.1 rfl hn hn2 (by omega) (by omega) hq k_
  · intro pc ls st μ n q nn idx hd hw hn hn2 hc hs hq k_
    exact ga_anew (t := 1) CX CT hd hw CT.2.2.1 rfl hn hn2 (by omega) (by omega) hq k_
  · intro pc ls st μ n q nn idx hd hw hn hn2 hc hs hq k_
    exact ga_anew (t := 2) CX CT hd hw CT.2.2.2.1 rfl hn hn2 (by omega) (by omega) hq k_
  · intro pc ls st μ n k q N M idx hd hw hn hk hb1 hb2 hc hs hq k_
    exact ga_mna CX CT hd hw hn hk hb1 hb2 (by omega) (by omega) hq k_
  · intro pc ls st μ idx ci j k ty q f v hd hf hk hq hv hr k_
    exact ga_getf CX CT hd hf hk hq hv hr k_
  · intro pc ls st μ idx ci j k q a f hd hf hg hk hq k_
    exact ga_put CX CT hd hf.1 (Or.inl hf.2) hk hq rfl rfl hg k_
  · intro pc ls st μ idx ci j k ty q a f hd hf hm hg hk hq hn k_
    exact ga_put CX CT hd hf.1 (Or.inr ⟨hnm.trans hm, hf.2⟩) hk hq (hn _).1 (hn _).2 hg k_
  · intro pc ls st μ k n q i a f hd hk hq h0 h1 k_
    exact ga_iast CX CT hd hk hq h0 h1 k_
  · intro pc ls st μ k n q nz f hd hk hq hz hn k_
    exact ga_alen CX CT hd hk hq hz hn k_
  · intro pc ls st μ k n kv q i qv f fv hd hk hq h0 h1 hkv hqv k_
    exact ga_aast (t := 0) CX CT hd hk hq h0 h1 hkv hqv rfl rfl k_
  · intro pc ls st μ k n kv q i qv f fv hd hk hq h0 h1 hkv hqv k_
    exact ga_aast (t := 1) CX CT hd hk hq h0 h1 hkv hqv rfl rfl k_
  · intro pc ls st μ k n kv q i qv f fv hd hk hq h0 h1 hkv hqv k_
    exact ga_aast (t := 2) CX CT hd hk hq h0 h1 hkv hqv rfl rfl k_
  · intro pc ls st μ idx q hd hl hst k_
    exact ga_obj CX hR1 hd hl hst k_
  · intro pc ls rest as l1 l0 idx M q mc ms hd hl hlen hcs hst hc hs k_
    exact ga_call CX CT hR hCal hd hl hlen hcs hst (by omega) (by omega) k_
  · intro pc ls rest as l0 idx M hd hl hret hlen hcs hst hc hs k_
    exact ga_fill CX CT hR hCal hd hl hret hlen hcs hst (by omega) (by omega) k_
end ASND
/-- what a constructor comes to: called with 'as' on cells 'pre' and then l0, it makes mc cells of ms slots -/
def WPA : Nat → Nat → List Vl → Al → Al → Nat → Nat → (Al → Prop) → Prop
  | 0, _, _, _, _, _, _, _ => False
  | d + 1, M, as, pre, l0, mc, ms, Post => ∀ K : Nat → Lc → List Vl → Al → Prop, StpA (mb M) (my M).cls (my M).name pre l0 mc ms (WPA d) Post K → K 0 (ent (ml M) as) [] l0
theorem WPA_met {b0 : Nat} {cI : ClassId} {cR : Nat → ClassId} {D : va_G} {l : Launch} : ∀ (d M : Nat) (as : List Vl) (pre l0 : Al) (mc ms : Nat) (Post : Al → Prop), WPA d M as pre l0 mc ms Post → csum as ≤ ml M → MOK M → mr M = none → Met l (my M) (wsM M) (rmA d mc ms) (PcA b0 cI cR D as pre l0) (QcA b0 cI cR D pre l0 mc ms Post) mc ms (Af b0)
  | 0, _, _, _, _, _, _, _, h, _, _, _ => h.elim
  | d + 1, M, as, pre, l0, mc, ms, Post, h, hcs, hmok, hret => by
    refine Met.ofWF (cc := mb M) (maxL := ml M) (ret := mr M) hmok.2.2.2.2.2 rfl ?_
    intro p e s m args below meth c s₁ B hml hv
    obtain ⟨rfl, hrs, hWf, hCT⟩ := hv
    have CX : Cx p s m (as.map (mv (adA b0))).toArray meth c (mb M) (my M).cls (ml M) := ⟨B.exec, B.bytes, hml, findClass_of_methodNamed B.named, fun w hw => atoms_spec (ws := wsM M) B.pre w (List.mem_cons_of_mem _ hw), hCT.2.2.2.2.2, B.notSynchronized⟩
    have hnm : meth.name = (my M).name := (name_of_methodNamed B.named B.method).1
    rw [lg_entry_eq]
    have k := h (Ga b0 l0.length (szs l0) cI cR D pre p l e (headSpec (wsM M) (rmA (d + 1) mc ms)).room s m (as.map (mv (adA b0))).toArray below meth c (MQ below (QcA b0 cI cR D pre l0 mc ms Post) (as.map (mv (adA b0))).toArray s mc ms (Af b0)) (ml M)) ⟨stpN_Ga CX hCT hnm (d := d) ⟨Nat.le_refl _, Nat.le_refl _⟩ (Nat.le_refl _) (Nat.le_refl _) (fun M as pre l0 mc ms Post h h1 h2 h3 => WPA_met d M as pre l0 mc ms Post h h1 h2 h3), fun hd hp h1 h2 => ga_ret CX (B.returns.trans hret) hd hp h1 h2⟩
      ⟨Nat.le_refl _, Nat.le_refl _⟩ (fun v hv => ent_rng hrs v hv) rS_nil s.heap [] _ hWf va_S.rf (ent_ok (adA b0) as hcs)
    have e1 : l0.length - l0.length = 0 := Nat.sub_self _
    have e2 : szs l0 - szs l0 = 0 := Nat.sub_self _
    simp only [e1, e2] at k
    exact k
