-- from the cells as they are made to the world
def LL : Al := LC ++ LM 70
/-- the place of a cell in the order of the making -/
def lb (i : Int) : Nat := if i < 4 then 3 + 6 * i.toNat else 28 + 5 * (i.toNat - 4)
def idn (c : Nat) (i : Int) : Nat := match c with
  | 2 => 0 | 3 => 1 | 6 => 2 | 4 => 27 | 5 => 43 | 14 => 52 | 19 => 58 | 20 => 64
  | 7 => lb i | 8 => lb i + 1 | 9 => lb i + 2 | 10 => lb i + 3 | 11 => if i = 7 then 57 else lb i + 4
  | 12 => 44 + i.toNat | 13 => 8 + 6 * i.toNat | 15 => 53 | 16 => 54 | 17 => 55 | 18 => 56
  | 21 => 59 + i.toNat | 22 => 65 + i.toNat
  | c => c + 40
def adF (b0 sc nm : Nat) (c : Nat) (i : Int) : Nat := if c = 0 then sc else if c = 1 then nm else b0 + idn c i
def t1 : Mm := fun c i j => wr (toI (((LL[idn c i]?).getD (0, 0, fun _ => vN)).2.2 j.toNat))
def t0 (L : Nat) (xs : Nat → Int32) : Mm := fun c i j => if c = 0 then (if j = -1 then (L : Int) else (xs j.toNat).toInt) else t1 c i j
def okR (v : Vl) (o : Option (Nat × Int)) : Bool := match v, o with
  | .inl _, none => true
  | .inr (.inl (some z)), some q => decide (z.1 ≠ 77) && decide (2 ≤ q.1) && decide (idn q.1 q.2 = z.2.toNat)
  | _, _ => false
def chk (q : Nat × Int) : Bool := match LL[idn q.1 q.2]? with
  | none => false
  | some x => decide (x.2.1 = (kd q.1).2) && decide (x.1 = (kd q.1).1) && decide ((kd q.1).1 < 9) && (List.range (if x.1 = 0 then clN x.2.1 else if x.1 = 1 then 0 else x.2.1)).all fun k => okR (x.2.2 k) (if x.1 = 0 then rff q.1 q.2 k else some (rfa q.1 (k : Int)))
theorem chk_all : cellsL.all chk = true := by decide +kernel
theorem cells_ge : cellsL.all (fun q => decide (2 ≤ q.1)) = true := by decide +kernel
theorem idn_nd : (cellsL.map fun q => idn q.1 q.2).Nodup := by decide +kernel
theorem adF_ge {b0 sc nm c : Nat} {i : Int} (h : 2 ≤ c) : adF b0 sc nm c i = b0 + idn c i := by
  unfold adF
  rw [if_neg (by omega), if_neg (by omega)]
theorem t0_ge {L : Nat} {xs : Nat → Int32} {c : Nat} {i j : Int} (h : 2 ≤ c) : t0 L xs c i j = t1 c i j := by
  unfold t0
  rw [if_neg (by omega)]
/-- a field's value out of the reference it holds, or the number -/
def vO (o : Option (Nat × Int)) (a : Int) : Vl := match o with
  | some q => Sum.inr (Sum.inl (some q))
  | none => vI a
theorem okR_int {b0 : Nat} {ad : Nat → Int → Nat} {v : Vl} {o : Option (Nat × Int)} {a : Int} (h : okR v o = true) (ha : a = wr (toI v)) (hr : ∀ q : Nat × Int, 2 ≤ q.1 → ad q.1 q.2 = b0 + idn q.1 q.2) : mv (adA b0) v = mv ad (vO o a) := by
  rcases v with z | (_ | z) | z
  · cases o with
    | none =>
      show Value.int (i3 z) = Value.int (i3 a)
      rw [ha]
      show _ = Value.int (i3 (wr z))
      rw [i3_wr]
    | some q => cases h
  · cases o <;> cases h
  · cases o with
    | none => cases h
    | some q =>
      simp only [okR, Bool.and_eq_true, decide_eq_true_eq] at h
      show Value.ref (adA b0 z.1 z.2) = Value.ref (ad q.1 q.2)
      rw [hr q h.1.2, h.2]
      refine congrArg Value.ref ?_
      unfold adA
      split
      · rename_i heq
        exact absurd heq h.1.1
      · rfl
  · cases o <;> cases h
theorem okR_ref {b0 : Nat} {v : Vl} {q : Nat × Int} (h : okR v (some q) = true) : toR b0 v = some (b0 + idn q.1 q.2) ∧ 2 ≤ q.1 := by
  rcases v with z | (_ | z) | z
  · cases h
  · cases h
  · simp only [okR, Bool.and_eq_true, decide_eq_true_eq] at h
    refine ⟨?_, h.1.2⟩
    show some (b0 + z.2.toNat) = _
    rw [h.2]
  · cases h
theorem arrV_cong {cA : ClassId} {n : Nat} {f g : Nat → Value} (h : ∀ j, j < n → f j = g j) : arrV cA n f = arrV cA n g := by
  unfold arrV
  congr 1
  apply Array.ext
  · simp
  · intro j h1 h2
    have hj : j < n := by simpa using h1
    simpa using h j hj
theorem wf_at {b0 sc nm L : Nat} {xs : Nat → Int32} {cI : ClassId} {cR : Nat → ClassId} {D : va_G} {H : Heap} {c : Nat} {i : Int} (hc : chk (c, i) = true) (h2 : 2 ≤ c) (hP : va_P D vwCl (wsA b0 cI cR LL) H) : va_at D vwCl (adF b0 sc nm c i, cE (adF b0 sc nm) cI cR (t0 L xs) c i) H := by
  unfold chk at hc
  cases hx : LL[idn c i]? with
  | none =>
    rw [show LL[idn (c, i).1 (c, i).2]? = none from hx] at hc
    cases hc
  | some x =>
    rw [show LL[idn (c, i).1 (c, i).2]? = some x from hx] at hc
    have hat := hP _ _ (wsA_at (b0 := b0) (cI := cI) (cR := cR) hx)
    rw [adF_ge h2]
    have hτ : ∀ j : Nat, t0 L xs c i (j : Int) = wr (toI (x.2.2 j)) := fun j => by
      rw [t0_ge h2]
      unfold t1
      rw [hx, Int.toNat_natCast]
      rfl
    have hr : ∀ q : Nat × Int, 2 ≤ q.1 → adF b0 sc nm q.1 q.2 = b0 + idn q.1 q.2 := fun q h => adF_ge h
    obtain ⟨x1, x2, f⟩ := x
    simp only [Bool.and_eq_true, decide_eq_true_eq, List.all_eq_true, List.mem_range] at hc
    obtain ⟨⟨⟨e2, e1⟩, e9⟩, hall⟩ := hc
    have hk : kd c = (x1, x2) := by rw [e1, e2]
    match x1, hat, hall, hk with
    | 0, hat, hall, hk =>
      rw [cE_obj hk]
      have he : ((List.range (clN x2)).map fun k => mv (adA b0) (f k)) = (List.range (clN x2)).map fun k => mv (adF b0 sc nm) (fval (t0 L xs) c i k) := by
        refine List.map_congr_left fun k hk2 => ?_
        have h5 : okR (f k) (rff c i k) = true := hall k (List.mem_range.mp hk2)
        exact (okR_int h5 (hτ k) hr).trans rfl
      rw [← he]
      exact hat
    | 1, hat, hall, hk =>
      rw [cE_int hk]
      have he : (fun j => i3 (t0 L xs c i ((j : Nat) : Int))) = fun j => i3 (toI (f j)) := by
        funext j
        rw [hτ j, i3_wr]
      rw [he]
      exact hat
    | t + 2, hat, hall, hk =>
      rw [cE_ref hk]
      show H[b0 + idn c i]? = some (vp_cell (cR (t + 2)) (x2, .inr (.inr (.inr (.inr (fun j => some (adF b0 sc nm (rfa c (j : Int)).1 (rfa c (j : Int)).2)))))))
      have hat2 : H[b0 + idn c i]? = some (vp_cell (cR (t + 2)) (x2, .inr (.inr (.inr (.inr (fun j => toR b0 (f j))))))) := hat
      rw [hat2, vp_cell_q, vp_cell_q]
      refine congrArg some (arrV_cong fun j hj => ?_)
      have h4 : okR (f j) (some (rfa c (j : Int))) = true := by
        have h5 := hall j (by rw [if_neg (by omega), if_neg (by omega)]; exact hj)
        rw [if_neg (by omega)] at h5
        exact h5
      obtain ⟨h6, h7⟩ := okR_ref (b0 := b0) h4
      rw [h6, hr _ h7]
theorem wf_of {b0 sc nm L : Nat} {xs : Nat → Int32} {cI : ClassId} {cR : Nat → ClassId} {D : va_G} {H : Heap} (hP : va_P D vwCl (wsA b0 cI cR LL) H) : va_P D vwCl (wsT (adF b0 sc nm) cI cR (t0 L xs)) H := by
  intro k y hy
  unfold wsT at hy
  rw [List.getElem?_map] at hy
  cases hq : cellsL[k]? with
  | none => rw [hq] at hy; cases hy
  | some q =>
    rw [hq] at hy
    obtain rfl := Option.some.inj hy
    have hm := List.mem_of_getElem? hq
    exact wf_at (List.all_eq_true.mp chk_all _ hm) (of_decide_eq_true (List.all_eq_true.mp cells_ge _ hm)) hP
theorem wsT_D {b0 sc nm : Nat} {A : Nat → Prop} {cI : ClassId} {cR : Nat → ClassId} {τ : Mm} (hA : ∀ q, b0 ≤ q → A q) : va_D A (wsT (adF b0 sc nm) cI cR τ) := by
  have key : ∀ (k : Nat) (y : Nat × va_E), (wsT (adF b0 sc nm) cI cR τ)[k]? = some y → ∃ q : Nat × Int, cellsL[k]? = some q ∧ y.1 = b0 + idn q.1 q.2 := fun k y hy => by
    unfold wsT at hy
    rw [List.getElem?_map] at hy
    cases hq : cellsL[k]? with
    | none => rw [hq] at hy; cases hy
    | some q =>
      rw [hq] at hy
      obtain rfl := Option.some.inj hy
      exact ⟨q, rfl, adF_ge (of_decide_eq_true (List.all_eq_true.mp cells_ge _ (List.mem_of_getElem? hq)))⟩
  refine ⟨fun i j x y hi hj he => ?_, fun k y h => ?_⟩
  · obtain ⟨q, h1, h2⟩ := key i x hi
    obtain ⟨r, h3, h4⟩ := key j y hj
    have e : idn q.1 q.2 = idn r.1 r.2 := by
      have : x.1 = y.1 := he
      omega
    have g1 : (cellsL.map fun q => idn q.1 q.2)[i]? = some (idn q.1 q.2) := by rw [List.getElem?_map, h1]; rfl
    have g2 : (cellsL.map fun q => idn q.1 q.2)[j]? = some (idn q.1 q.2) := by rw [List.getElem?_map, h3, e]; rfl
    have a1 := List.getElem?_eq_some_iff.mp g1
    have a2 := List.getElem?_eq_some_iff.mp g2
    exact List.getElem_inj (h₀ := a1.1) (h₁ := a2.1) idn_nd |>.mp (a1.2.trans a2.2.symm)
  · obtain ⟨q, -, h2⟩ := key k y h
    exact hA _ (by have : y.1 = b0 + idn q.1 q.2 := h2; omega)
theorem allI {n : Nat} {P : Int → Bool} (h : (List.range n).all (fun k => P (k : Int)) = true) {i : Int} (h0 : 0 ≤ i) (h1 : i < n) : P i = true := by
  have h2 := List.all_eq_true.mp h i.toNat (List.mem_range.mpr (by omega))
  rwa [Int.toNat_of_nonneg h0] at h2
theorem t0_rg {L : Nat} {xs : Nat → Int32} (hL : L ≤ 3072) : rgF (t0 L xs) := fun c i j => by
  unfold t0
  split
  · split
    · exact ⟨by omega, by omega⟩
    · exact inR_of _
  · exact inR_wr _
-- the world at the law's entry
theorem kn_of {own : String} {index ci : Nat} {args : Array Value} {s : State} (h : NLk own index ci) (hts : ∀ w ∈ gT, w.before args s = true) : ∃ (cC : ClassId) (iS : Nat → Nat), ∀ q : vw_C, vwCl[ci]? = some q → u_Kn s q.1 q.2.1 q.2.2 cC iS := by
  obtain ⟨C, T, N, ty, hci, hN, hcl, hinst, hini, hin, -⟩ := h
  obtain ⟨cC, iS, hk⟩ := u_known (C := C) (T := T) (N := N) (n := N) hts hin (hts _ hinst)
  refine ⟨cC, iS, fun q hq => ?_⟩
  cases hci.symm.trans hq
  exact hk
theorem aro_of {C : String} {args : Array Value} {s : State} (h : (Cond.arrayOver (.object C)).before args s = true) : ∃ cA : ClassId, ArrOfT s cA (.object C) ∧ va_RA s cA (.object C) := by
  obtain ⟨comp, c, k, h1, -, h3, h4, h5⟩ := Cond.arrayOver_spec h
  exact ⟨c, fun N z => ⟨(fun k h => by cases h), k, h3, comp, h4⟩, k, comp, h3, h4, h1, h5⟩
theorem world_of {b : Nat} {s : State} (hts : ∀ w ∈ lw_tbl, w.before #[Value.ref b] s = true) : ∃ (D : va_G) (cI : ClassId) (cR : Nat → ClassId), CAt cI cR D s := by
  have htg : ∀ w ∈ gT, w.before #[Value.ref b] s = true := fun w hw => hts w (List.mem_filter.mp hw).1
  have hN : ∀ w ∈ nT, va_Nw w s := fun w hw => by
    have h1 := hts w (List.mem_append_right _ (List.mem_filter.mp hw).1)
    have h2 := (List.mem_filter.mp hw).2
    cases w <;> first | (simp [isNest] at h2; done) | exact va_Nw.of rfl h1
  obtain ⟨c0, i0, k0⟩ := kn_of nl_RX2_25 htg
  obtain ⟨c1, i1, k1⟩ := kn_of nl_RX5_37 htg
  obtain ⟨c2, i2, k2⟩ := kn_of nl_RX5_11 htg
  obtain ⟨c3, i3_, k3⟩ := kn_of nl_RX5_17 htg
  obtain ⟨c4, i4, k4⟩ := kn_of nl_RX5_30 htg
  obtain ⟨c5, i5, k5⟩ := kn_of nl_RL_7 htg
  obtain ⟨c6, i6, k6⟩ := kn_of nl_RL_10 htg
  obtain ⟨cI, kI, compI, a1, a2, a3⟩ := Cond.arrayClass_spec (htg _ arrI)
  have o2 : (Cond.arrayOver (.object RX2)).before #[Value.ref b] s = true := hts _ (List.mem_append_right _ (List.mem_of_getElem? (i := 21) (by decide +kernel)))
  have o3 : (Cond.arrayOver (.object RX4)).before #[Value.ref b] s = true := hts _ (List.mem_append_right _ (List.mem_of_getElem? (i := 151) (by decide +kernel)))
  have o4 : (Cond.arrayOver (.object RX3)).before #[Value.ref b] s = true := hts _ (List.mem_append_right _ (List.mem_of_getElem? (i := 23) (by decide +kernel)))
  have o5 : (Cond.arrayOver (.array .int)).before #[Value.ref b] s = true := hts _ (List.mem_append_right _ (List.mem_of_getElem? (i := 220) (by decide +kernel)))
  obtain ⟨r2, p2⟩ := aro_of o2
  obtain ⟨r3, p3⟩ := aro_of o3
  obtain ⟨r4, p4⟩ := aro_of o4
  obtain ⟨comp5, r5, kA5, b1, b2, b3, b4⟩ := Jvm.Cond.arrayOver_specA o5
  refine ⟨(fun k => match k with | 0 => c0 | 1 => c1 | 2 => c2 | 3 => c3 | 4 => c4 | 5 => c5 | _ => c6, fun k => match k with | 0 => i0 | 1 => i1 | 2 => i2 | 3 => i3_ | 4 => i4 | 5 => i5 | _ => i6), cI, fun t => match t with | 2 => r2 | 3 => r3 | 4 => r4 | _ => r5, ⟨fun k q hq => ?_, fun k q hq => ?_⟩, va_AO.of o2, va_AO.of o3, va_AO.of o4, o5, hN⟩
  · match k, hq with
    | 0, hq => exact k0 q hq
    | 1, hq => exact k1 q hq
    | 2, hq => exact k2 q hq
    | 3, hq => exact k3 q hq
    | 4, hq => exact k4 q hq
    | 5, hq => exact k5 q hq
    | 6, hq => exact k6 q hq
    | k + 7, hq => cases hq
  · match k, hq with
    | 0, hq => cases hq; exact ⟨fun N z => ⟨(fun k h => by cases h), kI, a2, compI, a3⟩, a1⟩
    | 1, hq => cases hq; exact p2
    | 2, hq => cases hq; exact p3
    | 3, hq => cases hq; exact p4
    | 4, hq => cases hq; exact ⟨fun N z => ⟨(fun k h => by cases h), kA5, b2, comp5, b3⟩, b4⟩
    | k + 5, hq => cases hq
/-- the row NUMBERS at the start -/
theorem nums_of {b : Nat} {s : State} (hts : ∀ w ∈ lw_tbl, w.before #[Value.ref b] s = true) (hgv : (Jvm.Cond.and given_1 narrow_1).before #[Value.ref b] s = true) : ∃ nm : Nat, va_Z RX5 "NUMBERS" "[I" (.ref nm) (fun q : Nat => s.heap.size ≤ q) s s.heap ∧ va_T .int nm 10 (fun j => .int (i3 (numF (j : Int)))) (fun q : Nat => s.heap.size ≤ q) s s.heap := by
  have hs := flat_of_before _ hgv
  have hA : ∀ a : Nat, a < s.heap.size → ¬ (fun q : Nat => s.heap.size ≤ q) a := fun a h => Nat.not_le.mpr h
  have harr : (Cond.arrayOf (.static "SlideFold" "NUMBERS" "[I") .int).before #[Value.ref b] s = true := hs _ (by decide +kernel)
  have hlen : (Cond.eq (.length (.static "SlideFold" "NUMBERS" "[I")) (.int 10)).before #[Value.ref b] s = true := hs _ (by decide +kernel)
  have e0 : (Cond.eq (.elem (.static "SlideFold" "NUMBERS" "[I") (.int 0)) (.int 4)).before #[Value.ref b] s = true := hs _ (by decide +kernel)
  have e1 : (Cond.eq (.elem (.static "SlideFold" "NUMBERS" "[I") (.int 1)) (.int 2)).before #[Value.ref b] s = true := hs _ (by decide +kernel)
  have e2 : (Cond.eq (.elem (.static "SlideFold" "NUMBERS" "[I") (.int 2)) (.int 2)).before #[Value.ref b] s = true := hs _ (by decide +kernel)
  have e3 : (Cond.eq (.elem (.static "SlideFold" "NUMBERS" "[I") (.int 3)) (.int 4)).before #[Value.ref b] s = true := hs _ (by decide +kernel)
  have e4 : (Cond.eq (.elem (.static "SlideFold" "NUMBERS" "[I") (.int 4)) (.int 5)).before #[Value.ref b] s = true := hs _ (by decide +kernel)
  have e5 : (Cond.eq (.elem (.static "SlideFold" "NUMBERS" "[I") (.int 5)) (.int 4)).before #[Value.ref b] s = true := hs _ (by decide +kernel)
  have e6 : (Cond.eq (.elem (.static "SlideFold" "NUMBERS" "[I") (.int 6)) (.int 7)).before #[Value.ref b] s = true := hs _ (by decide +kernel)
  have e7 : (Cond.eq (.elem (.static "SlideFold" "NUMBERS" "[I") (.int 7)) (.int 5)).before #[Value.ref b] s = true := hs _ (by decide +kernel)
  have e8 : (Cond.eq (.elem (.static "SlideFold" "NUMBERS" "[I") (.int 8)) (.int 3)).before #[Value.ref b] s = true := hs _ (by decide +kernel)
  have e9 : (Cond.eq (.elem (.static "SlideFold" "NUMBERS" "[I") (.int 9)) (.int 1)).before #[Value.ref b] s = true := hs _ (by decide +kernel)
  obtain ⟨nm, hev, hT⟩ := va_Tof (tm := .static "SlideFold" "NUMBERS" "[I") (ty := .int) (N := 10) (f := fun j => .int (i3 (numF (j : Int)))) (A := fun q : Nat => s.heap.size ≤ q) (by decide) harr (va_eqt hlen) (fun j hj => by
    rcases (by omega : j = 0 ∨ j = 1 ∨ j = 2 ∨ j = 3 ∨ j = 4 ∨ j = 5 ∨ j = 6 ∨ j = 7 ∨ j = 8 ∨ j = 9) with rfl | rfl | rfl | rfl | rfl | rfl | rfl | rfl | rfl | rfl
    · exact va_eqt e0
    · exact va_eqt e1
    · exact va_eqt e2
    · exact va_eqt e3
    · exact va_eqt e4
    · exact va_eqt e5
    · exact va_eqt e6
    · exact va_eqt e7
    · exact va_eqt e8
    · exact va_eqt e9) hA
  exact ⟨nm, va_Zof (hts _ (List.mem_append_right _ (List.mem_of_getElem? (i := 440) (by decide +kernel)))) (hts _ (List.mem_append_right _ (List.mem_of_getElem? (i := 1) (by decide +kernel)))) hev hA, hT⟩
