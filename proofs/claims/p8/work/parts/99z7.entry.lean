-- the world at the law's entry
theorem kn_of {own : String} {index ci : Nat} {args : Array Value} {s : State} (h : NLk own index ci) (hts : ∀ w ∈ gT, w.before args s = true) : ∃ (cC : ClassId) (iS : Nat → Nat), ∀ q : vw_C, vwCl[ci]? = some q → u_Kn s q.1 q.2.1 q.2.2 cC iS := by
  obtain ⟨C, T, N, ty, hci, hN, hcl, hinst, hini, hin, -⟩ := h
  obtain ⟨cC, iS, hk⟩ := u_known (C := C) (T := T) (N := N) (n := N) hts hin (hts _ hinst)
  refine ⟨cC, iS, fun q hq => ?_⟩
  cases hci.symm.trans hq
  exact hk
theorem aro_of {C : String} {args : Array Value} {s : State} (h : (Cond.arrayOver (.object C)).before args s = true) : ∃ cA : ClassId, ArrOfT s cA (.object C) ∧ va_RA s cA (.object C) := by
  obtain ⟨comp, c, k, h1, -, h3, h4, h5⟩ := Cond.arrayOver_spec h
  exact ⟨c, fun N z => ⟨(fun k h => by cases h), k, h3, comp, h4⟩, k, comp, h3, h4, h1, h5⟩
theorem world_of {b : Nat} {s : State} (hts : ∀ w ∈ lw_tbl, w.before #[Value.ref b] s = true) : ∃ (D : va_G) (cI : ClassId) (cR : Nat → ClassId), CAt cI cR D s := by
  have htg : ∀ w ∈ gT, w.before #[Value.ref b] s = true := fun w hw => hts w (List.mem_filter.mp hw).1
  have hN : ∀ w ∈ nT, va_Nw w s := fun w hw => by
    have h1 := hts w (List.mem_append_right _ (List.mem_filter.mp hw).1)
    have h2 := (List.mem_filter.mp hw).2
    cases w <;> first | (simp [isNest] at h2; done) | exact va_Nw.of rfl h1
  obtain ⟨c0, i0, k0⟩ := kn_of nl_RX2_25 htg
  obtain ⟨c1, i1, k1⟩ := kn_of nl_RX5_37 htg
  obtain ⟨c2, i2, k2⟩ := kn_of nl_RX5_11 htg
  obtain ⟨c3, i3_, k3⟩ := kn_of nl_RX5_17 htg
  obtain ⟨c4, i4, k4⟩ := kn_of nl_RX5_30 htg
  obtain ⟨c5, i5, k5⟩ := kn_of nl_RL_7 htg
  obtain ⟨c6, i6, k6⟩ := kn_of nl_RL_10 htg
  obtain ⟨cI, kI, compI, a1, a2, a3⟩ := Cond.arrayClass_spec (htg _ arrI)
  have o2 : (Cond.arrayOver (.object RX2)).before #[Value.ref b] s = true := hts _ (List.mem_append_right _ (List.mem_of_getElem? (i := 21) (by decide +kernel)))
  have o3 : (Cond.arrayOver (.object RX4)).before #[Value.ref b] s = true := hts _ (List.mem_append_right _ (List.mem_of_getElem? (i := 151) (by decide +kernel)))
  have o4 : (Cond.arrayOver (.object RX3)).before #[Value.ref b] s = true := hts _ (List.mem_append_right _ (List.mem_of_getElem? (i := 23) (by decide +kernel)))
  have o5 : (Cond.arrayOver (.array .int)).before #[Value.ref b] s = true := hts _ (List.mem_append_right _ (List.mem_of_getElem? (i := 220) (by decide +kernel)))
  obtain ⟨r2, p2⟩ := aro_of o2
  obtain ⟨r3, p3⟩ := aro_of o3
  obtain ⟨r4, p4⟩ := aro_of o4
  obtain ⟨comp5, r5, kA5, b1, b2, b3, b4⟩ := Jvm.Cond.arrayOver_specA o5
  refine ⟨(fun k => match k with | 0 => c0 | 1 => c1 | 2 => c2 | 3 => c3 | 4 => c4 | 5 => c5 | _ => c6, fun k => match k with | 0 => i0 | 1 => i1 | 2 => i2 | 3 => i3_ | 4 => i4 | 5 => i5 | _ => i6), cI, fun t => match t with | 2 => r2 | 3 => r3 | 4 => r4 | _ => r5, ⟨fun k q hq => ?_, fun k q hq => ?_⟩, va_AO.of o2, va_AO.of o3, va_AO.of o4, o5, hN⟩
  · match k, hq with
    | 0, hq => exact k0 q hq
    | 1, hq => exact k1 q hq
    | 2, hq => exact k2 q hq
    | 3, hq => exact k3 q hq
    | 4, hq => exact k4 q hq
    | 5, hq => exact k5 q hq
    | 6, hq => exact k6 q hq
    | k + 7, hq => cases hq
  · match k, hq with
    | 0, hq => cases hq; exact ⟨fun N z => ⟨(fun k h => by cases h), kI, a2, compI, a3⟩, a1⟩
    | 1, hq => cases hq; exact p2
    | 2, hq => cases hq; exact p3
    | 3, hq => cases hq; exact p4
    | 4, hq => cases hq; exact ⟨fun N z => ⟨(fun k h => by cases h), kA5, b2, comp5, b3⟩, b4⟩
    | k + 5, hq => cases hq
/-- the row NUMBERS at the start -/
theorem nums_of {b : Nat} {s : State} (hts : ∀ w ∈ lw_tbl, w.before #[Value.ref b] s = true) (hgv : (Jvm.Cond.and given_1 narrow_1).before #[Value.ref b] s = true) : ∃ nm : Nat, va_Z RX5 "NUMBERS" "[I" (.ref nm) (fun q : Nat => s.heap.size ≤ q) s s.heap ∧ va_T .int nm 10 (fun j => .int (i3 (numF (j : Int)))) (fun q : Nat => s.heap.size ≤ q) s s.heap := by
  have hs := flat_of_before _ hgv
  have hA : ∀ a : Nat, a < s.heap.size → ¬ (fun q : Nat => s.heap.size ≤ q) a := fun a h => Nat.not_le.mpr h
  have harr : (Cond.arrayOf (.static "SlideFold" "NUMBERS" "[I") .int).before #[Value.ref b] s = true := hs _ (by decide +kernel)
  have hlen : (Cond.eq (.length (.static "SlideFold" "NUMBERS" "[I")) (.int 10)).before #[Value.ref b] s = true := hs _ (by decide +kernel)
  have e0 : (Cond.eq (.elem (.static "SlideFold" "NUMBERS" "[I") (.int 0)) (.int 4)).before #[Value.ref b] s = true := hs _ (by decide +kernel)
  have e1 : (Cond.eq (.elem (.static "SlideFold" "NUMBERS" "[I") (.int 1)) (.int 2)).before #[Value.ref b] s = true := hs _ (by decide +kernel)
  have e2 : (Cond.eq (.elem (.static "SlideFold" "NUMBERS" "[I") (.int 2)) (.int 2)).before #[Value.ref b] s = true := hs _ (by decide +kernel)
  have e3 : (Cond.eq (.elem (.static "SlideFold" "NUMBERS" "[I") (.int 3)) (.int 4)).before #[Value.ref b] s = true := hs _ (by decide +kernel)
  have e4 : (Cond.eq (.elem (.static "SlideFold" "NUMBERS" "[I") (.int 4)) (.int 5)).before #[Value.ref b] s = true := hs _ (by decide +kernel)
  have e5 : (Cond.eq (.elem (.static "SlideFold" "NUMBERS" "[I") (.int 5)) (.int 4)).before #[Value.ref b] s = true := hs _ (by decide +kernel)
  have e6 : (Cond.eq (.elem (.static "SlideFold" "NUMBERS" "[I") (.int 6)) (.int 7)).before #[Value.ref b] s = true := hs _ (by decide +kernel)
  have e7 : (Cond.eq (.elem (.static "SlideFold" "NUMBERS" "[I") (.int 7)) (.int 5)).before #[Value.ref b] s = true := hs _ (by decide +kernel)
  have e8 : (Cond.eq (.elem (.static "SlideFold" "NUMBERS" "[I") (.int 8)) (.int 3)).before #[Value.ref b] s = true := hs _ (by decide +kernel)
  have e9 : (Cond.eq (.elem (.static "SlideFold" "NUMBERS" "[I") (.int 9)) (.int 1)).before #[Value.ref b] s = true := hs _ (by decide +kernel)
  obtain ⟨nm, hev, hT⟩ := va_Tof (tm := .static "SlideFold" "NUMBERS" "[I") (ty := .int) (N := 10) (f := fun j => .int (i3 (numF (j : Int)))) (A := fun q : Nat => s.heap.size ≤ q) (by decide) harr (va_eqt hlen) (fun j hj => by
    rcases (by omega : j = 0 ∨ j = 1 ∨ j = 2 ∨ j = 3 ∨ j = 4 ∨ j = 5 ∨ j = 6 ∨ j = 7 ∨ j = 8 ∨ j = 9) with rfl | rfl | rfl | rfl | rfl | rfl | rfl | rfl | rfl | rfl
    · exact va_eqt e0
    · exact va_eqt e1
    · exact va_eqt e2
    · exact va_eqt e3
    · exact va_eqt e4
    · exact va_eqt e5
    · exact va_eqt e6
    · exact va_eqt e7
    · exact va_eqt e8
    · exact va_eqt e9) hA
  exact ⟨nm, va_Zof (hts _ (List.mem_append_right _ (List.mem_of_getElem? (i := 440) (by decide +kernel)))) (hts _ (List.mem_append_right _ (List.mem_of_getElem? (i := 1) (by decide +kernel)))) hev hA, hT⟩
