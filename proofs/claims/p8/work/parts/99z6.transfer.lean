-- from the cells as they are made to the world
def LL : Al := LC ++ LM 70
/-- the place of a cell in the order of the making -/
def lb (i : Int) : Nat := if i < 4 then 3 + 6 * i.toNat else 28 + 5 * (i.toNat - 4)
def idn (c : Nat) (i : Int) : Nat := match c with
  | 2 => 0 | 3 => 1 | 6 => 2 | 4 => 27 | 5 => 43 | 14 => 52 | 19 => 58 | 20 => 64
  | 7 => lb i | 8 => lb i + 1 | 9 => lb i + 2 | 10 => lb i + 3 | 11 => if i = 7 then 57 else lb i + 4
  | 12 => 44 + i.toNat | 13 => 8 + 6 * i.toNat | 15 => 53 | 16 => 54 | 17 => 55 | 18 => 56
  | 21 => 59 + i.toNat | 22 => 65 + i.toNat
  | c => c + 40
def adF (b0 sc nm : Nat) (c : Nat) (i : Int) : Nat := if c = 0 then sc else if c = 1 then nm else b0 + idn c i
def t1 : Mm := fun c i j => wr (toI (((LL[idn c i]?).getD (0, 0, fun _ => vN)).2.2 j.toNat))
def t0 (L : Nat) (xs : Nat → Int32) : Mm := fun c i j => if c = 0 then (if j = -1 then (L : Int) else (xs j.toNat).toInt) else t1 c i j
def okR (v : Vl) (o : Option (Nat × Int)) : Bool := match v, o with
  | .inl _, none => true
  | .inr (.inl (some z)), some q => decide (z.1 ≠ 77) && decide (2 ≤ q.1) && decide (idn q.1 q.2 = z.2.toNat)
  | _, _ => false
def chk (q : Nat × Int) : Bool := match LL[idn q.1 q.2]? with
  | none => false
  | some x => decide (x.2.1 = (kd q.1).2) && decide (x.1 = (kd q.1).1) && decide ((kd q.1).1 < 9) && (List.range (if x.1 = 0 then clN x.2.1 else if x.1 = 1 then 0 else x.2.1)).all fun k => okR (x.2.2 k) (if x.1 = 0 then rff q.1 q.2 k else some (rfa q.1 (k : Int)))
theorem chk_all : cellsL.all chk = true := by decide +kernel
theorem cells_ge : cellsL.all (fun q => decide (2 ≤ q.1)) = true := by decide +kernel
theorem idn_nd : (cellsL.map fun q => idn q.1 q.2).Nodup := by decide +kernel
theorem adF_ge {b0 sc nm c : Nat} {i : Int} (h : 2 ≤ c) : adF b0 sc nm c i = b0 + idn c i := by
  unfold adF
  rw [if_neg (by omega), if_neg (by omega)]
theorem t0_ge {L : Nat} {xs : Nat → Int32} {c : Nat} {i j : Int} (h : 2 ≤ c) : t0 L xs c i j = t1 c i j := by
  unfold t0
  rw [if_neg (by omega)]
/-- a field's value out of the reference it holds, or the number -/
def vO (o : Option (Nat × Int)) (a : Int) : Vl := match o with
  | some q => Sum.inr (Sum.inl (some q))
  | none => vI a
theorem okR_int {b0 : Nat} {ad : Nat → Int → Nat} {v : Vl} {o : Option (Nat × Int)} {a : Int} (h : okR v o = true) (ha : a = wr (toI v)) (hr : ∀ q : Nat × Int, 2 ≤ q.1 → ad q.1 q.2 = b0 + idn q.1 q.2) : mv (adA b0) v = mv ad (vO o a) := by
  rcases v with z | (_ | z) | z
  · cases o with
    | none =>
      show Value.int (i3 z) = Value.int (i3 a)
      rw [ha]
      show _ = Value.int (i3 (wr z))
      rw [i3_wr]
    | some q => cases h
  · cases o <;> cases h
  · cases o with
    | none => cases h
    | some q =>
      simp only [okR, Bool.and_eq_true, decide_eq_true_eq] at h
      show Value.ref (adA b0 z.1 z.2) = Value.ref (ad q.1 q.2)
      rw [hr q h.1.2, h.2]
      refine congrArg Value.ref ?_
      unfold adA
      split
      · rename_i heq
        exact absurd heq h.1.1
      · rfl
  · cases o <;> cases h
theorem okR_ref {b0 : Nat} {v : Vl} {q : Nat × Int} (h : okR v (some q) = true) : toR b0 v = some (b0 + idn q.1 q.2) ∧ 2 ≤ q.1 := by
  rcases v with z | (_ | z) | z
  · cases h
  · cases h
  · simp only [okR, Bool.and_eq_true, decide_eq_true_eq] at h
    refine ⟨?_, h.1.2⟩
    show some (b0 + z.2.toNat) = _
    rw [h.2]
  · cases h
theorem arrV_cong {cA : ClassId} {n : Nat} {f g : Nat → Value} (h : ∀ j, j < n → f j = g j) : arrV cA n f = arrV cA n g := by
  unfold arrV
  congr 1
  apply Array.ext
  · simp
  · intro j h1 h2
    have hj : j < n := by simpa using h1
    simpa using h j hj
theorem wf_at {b0 sc nm L : Nat} {xs : Nat → Int32} {cI : ClassId} {cR : Nat → ClassId} {D : va_G} {H : Heap} {c : Nat} {i : Int} (hc : chk (c, i) = true) (h2 : 2 ≤ c) (hP : va_P D vwCl (wsA b0 cI cR LL) H) : va_at D vwCl (adF b0 sc nm c i, cE (adF b0 sc nm) cI cR (t0 L xs) c i) H := by
  unfold chk at hc
  cases hx : LL[idn c i]? with
  | none =>
    rw [show LL[idn (c, i).1 (c, i).2]? = none from hx] at hc
    cases hc
  | some x =>
    rw [show LL[idn (c, i).1 (c, i).2]? = some x from hx] at hc
    have hat := hP _ _ (wsA_at (b0 := b0) (cI := cI) (cR := cR) hx)
    rw [adF_ge h2]
    have hτ : ∀ j : Nat, t0 L xs c i (j : Int) = wr (toI (x.2.2 j)) := fun j => by
      rw [t0_ge h2]
      unfold t1
      rw [hx, Int.toNat_natCast]
      rfl
    have hr : ∀ q : Nat × Int, 2 ≤ q.1 → adF b0 sc nm q.1 q.2 = b0 + idn q.1 q.2 := fun q h => adF_ge h
    obtain ⟨x1, x2, f⟩ := x
    simp only [Bool.and_eq_true, decide_eq_true_eq, List.all_eq_true, List.mem_range] at hc
    obtain ⟨⟨⟨e2, e1⟩, e9⟩, hall⟩ := hc
    have hk : kd c = (x1, x2) := by rw [e1, e2]
    match x1, hat, hall, hk with
    | 0, hat, hall, hk =>
      rw [cE_obj hk]
      have he : ((List.range (clN x2)).map fun k => mv (adA b0) (f k)) = (List.range (clN x2)).map fun k => mv (adF b0 sc nm) (fval (t0 L xs) c i k) := by
        refine List.map_congr_left fun k hk2 => ?_
        have h5 : okR (f k) (rff c i k) = true := hall k (List.mem_range.mp hk2)
        exact (okR_int h5 (hτ k) hr).trans rfl
      rw [← he]
      exact hat
    | 1, hat, hall, hk =>
      rw [cE_int hk]
      have he : (fun j => i3 (t0 L xs c i ((j : Nat) : Int))) = fun j => i3 (toI (f j)) := by
        funext j
        rw [hτ j, i3_wr]
      rw [he]
      exact hat
    | t + 2, hat, hall, hk =>
      rw [cE_ref hk]
      show H[b0 + idn c i]? = some (vp_cell (cR (t + 2)) (x2, .inr (.inr (.inr (.inr (fun j => some (adF b0 sc nm (rfa c (j : Int)).1 (rfa c (j : Int)).2)))))))
      have hat2 : H[b0 + idn c i]? = some (vp_cell (cR (t + 2)) (x2, .inr (.inr (.inr (.inr (fun j => toR b0 (f j))))))) := hat
      rw [hat2, vp_cell_q, vp_cell_q]
      refine congrArg some (arrV_cong fun j hj => ?_)
      have h4 : okR (f j) (some (rfa c (j : Int))) = true := by
        have h5 := hall j (by rw [if_neg (by omega), if_neg (by omega)]; exact hj)
        rw [if_neg (by omega)] at h5
        exact h5
      obtain ⟨h6, h7⟩ := okR_ref (b0 := b0) h4
      rw [h6, hr _ h7]
theorem wf_of {b0 sc nm L : Nat} {xs : Nat → Int32} {cI : ClassId} {cR : Nat → ClassId} {D : va_G} {H : Heap} (hP : va_P D vwCl (wsA b0 cI cR LL) H) : va_P D vwCl (wsT (adF b0 sc nm) cI cR (t0 L xs)) H := by
  intro k y hy
  unfold wsT at hy
  rw [List.getElem?_map] at hy
  cases hq : cellsL[k]? with
  | none => rw [hq] at hy; cases hy
  | some q =>
    rw [hq] at hy
    obtain rfl := Option.some.inj hy
    have hm := List.mem_of_getElem? hq
    exact wf_at (List.all_eq_true.mp chk_all _ hm) (of_decide_eq_true (List.all_eq_true.mp cells_ge _ hm)) hP
theorem wsT_D {b0 sc nm : Nat} {A : Nat → Prop} {cI : ClassId} {cR : Nat → ClassId} {τ : Mm} (hA : ∀ q, b0 ≤ q → A q) : va_D A (wsT (adF b0 sc nm) cI cR τ) := by
  have key : ∀ (k : Nat) (y : Nat × va_E), (wsT (adF b0 sc nm) cI cR τ)[k]? = some y → ∃ q : Nat × Int, cellsL[k]? = some q ∧ y.1 = b0 + idn q.1 q.2 := fun k y hy => by
    unfold wsT at hy
    rw [List.getElem?_map] at hy
    cases hq : cellsL[k]? with
    | none => rw [hq] at hy; cases hy
    | some q =>
      rw [hq] at hy
      obtain rfl := Option.some.inj hy
      exact ⟨q, rfl, adF_ge (of_decide_eq_true (List.all_eq_true.mp cells_ge _ (List.mem_of_getElem? hq)))⟩
  refine ⟨fun i j x y hi hj he => ?_, fun k y h => ?_⟩
  · obtain ⟨q, h1, h2⟩ := key i x hi
    obtain ⟨r, h3, h4⟩ := key j y hj
    have e : idn q.1 q.2 = idn r.1 r.2 := by
      have : x.1 = y.1 := he
      omega
    have g1 : (cellsL.map fun q => idn q.1 q.2)[i]? = some (idn q.1 q.2) := by rw [List.getElem?_map, h1]; rfl
    have g2 : (cellsL.map fun q => idn q.1 q.2)[j]? = some (idn q.1 q.2) := by rw [List.getElem?_map, h3, e]; rfl
    have a1 := List.getElem?_eq_some_iff.mp g1
    have a2 := List.getElem?_eq_some_iff.mp g2
    exact List.getElem_inj (h₀ := a1.1) (h₁ := a2.1) idn_nd |>.mp (a1.2.trans a2.2.symm)
  · obtain ⟨q, -, h2⟩ := key k y h
    exact hA _ (by have : y.1 = b0 + idn q.1 q.2 := h2; omega)
theorem allI {n : Nat} {P : Int → Bool} (h : (List.range n).all (fun k => P (k : Int)) = true) {i : Int} (h0 : 0 ≤ i) (h1 : i < n) : P i = true := by
  have h2 := List.all_eq_true.mp h i.toNat (List.mem_range.mpr (by omega))
  rwa [Int.toNat_of_nonneg h0] at h2
theorem t0_rg {L : Nat} {xs : Nat → Int32} (hL : L ≤ 3072) : rgF (t0 L xs) := fun c i j => by
  unfold t0
  split
  · split
    · exact ⟨by omega, by omega⟩
    · exact inR_of _
  · exact inR_wr _
