-- the rules of memory, over the machine
theorem kd_two {c a b : Nat} (h : kd c = (a, b)) (hx : a ≠ 9) : 2 ≤ c := by
  refine Nat.not_lt.mp fun hc => hx ?_
  rcases (by omega : c = 0 ∨ c = 1) with rfl | rfl <;> exact (congrArg Prod.fst h).symm
theorem map_set_at {α : Type} {N k : Nat} {f f' : Nat → α} {v : α} (hk : k < N) (h1 : f' k = v) (h2 : ∀ j, j ≠ k → f' j = f j) : ((List.range N).map f).set k v = (List.range N).map f' := by
  apply List.ext_getElem?
  intro n
  by_cases hn : k = n
  · subst hn
    rw [List.getElem?_set_self (by simpa using hk), List.getElem?_map, List.getElem?_range hk, ← h1]
    rfl
  · rw [List.getElem?_set_ne hn, List.getElem?_map, List.getElem?_map]
    by_cases h3 : n < N
    · rw [List.getElem?_range h3]
      simp [h2 n (fun h => hn h.symm)]
    · rw [List.getElem?_eq_none (by simpa using h3)]
      rfl
theorem gf_in {j : Int} {n : Nat} (h0 : 0 ≤ j) (h1 : j < n) (hr : inR j) : vp_in (i3 j) n := by
  rintro (h | h)
  · have h2 := (i3_lt hr (inR_lit rfl : inR 0)).mp h
    omega
  · rw [i3_nat hr] at h
    omega
section GMF
variable {ad : Nat → Int → Nat} {cI : ClassId} {cR : Nat → ClassId} {D : va_G} {scr num : Cell} {nc ns : Nat}
variable {p : Program} {l : Launch} {e : Env} {R : Room} {s : State} {m : MethodId} {args : Array Value} {below : List Frame} {meth : Method} {c : Code} {A : Nat → Prop} {Q : State → Prop} {nL : Nat} {cc : ByteArray} {own : String}
abbrev Gf (ad : Nat → Int → Nat) (cI : ClassId) (cR : Nat → ClassId) (D : va_G) (scr : Cell) (nc ns : Nat) (p : Program) (l : Launch) (e : Env) (R : Room) (s : State) (m : MethodId) (args : Array Value) (below : List Frame) (meth : Method) (c : Code) (A : Nat → Prop) (Q : State → Prop) (nL : Nat) : Nat → Lc → List Vl → Mm → Prop :=
  Gm ad (fun _ => vld) (Wf ad cI cR D scr) (fun _ => nc) (fun _ => ns) rgF p l e R s m args below meth c A Q nL
theorem cE_obj {τ : Mm} {k : Nat} {i : Int} {ci : Nat} (h : kd k = (0, ci)) : cE ad cI cR τ k i = .inr (ci, (List.range (clN ci)).map fun j => mv ad (fval τ k i j)) := by
  unfold cE
  rw [h]
  rfl
theorem cE_int {τ : Mm} {k : Nat} {i : Int} {n : Nat} (h : kd k = (1, n)) : cE ad cI cR τ k i = .inl (cI, n, .inl (fun j => i3 (τ k i (j : Int)))) := by
  unfold cE
  rw [h]
  rfl
theorem cE_ref {τ : Mm} {k : Nat} {i : Int} {t n : Nat} (h : kd k = (t + 2, n)) : cE ad cI cR τ k i = .inl (cR (t + 2), n, .inr (.inr (.inr (.inr (fun j => some (ad (rfa k j).1 (rfa k j).2)))))) := by
  unfold cE
  rw [h]
  rfl
/-- a field is read -/
theorem gf_get (CX : Cx p s m args meth c cc own nL) (CY : CF ad cI cR D scr num A s) {pc : Nat} {ls : Lc} {st : List Vl} {τ : Mm} {k : Nat} {i : Int} {idx ci j : Nat} {ty : FieldType}
    (hd : decode cc pc = .ok (.getfield idx, 3)) (hf : FLk own idx ci j ty) (hk : kd k = (0, ci)) (hr : ∀ q : Nat × Int, rff k i j = some q → vld q)
    (kk : Gf ad cI cR D scr nc ns p l e R s m args below meth c A Q nL (pc + 3) ls (fval τ k i j :: st) τ) : Gf ad cI cR D scr nc ns p l e R s m args below meth c A Q nL pc ls (vR k i :: st) τ := by
  obtain ⟨hx, hb, hml, hown, hts, hnest, hlk⟩ := CX
  obtain ⟨C, T, N, ty0, hci, hN, hj, hin, hty, hnm, hC, hty1, hlink⟩ := hf
  intro g1 g2 g3 H locs lsA g4 g5 g6
  obtain ⟨q1, g3⟩ := rS_cons.mp g3
  obtain ⟨k0, hk0, he⟩ := wsT_at (ad := ad) (cI := cI) (cR := cR) (τ := τ) q1 (kd_two hk (by decide))
  rw [cE_obj hk] at he
  have hv : ((List.range (clN ci)).map fun j => mv ad (fval τ k i j))[j]? = some (mv ad (fval τ k i j)) := by
    rw [List.getElem?_map, List.getElem?_range (by rw [← hN]; exact hj)]
    rfl
  have hrv : rV vld (fval τ k i j) := by
    unfold fval
    cases hq : rff k i j with
    | none => exact g1 _ _ _
    | some q => exact hr q hq
  have k' := kk g1 g2 (rS_cons.mpr ⟨hrv, g3⟩) H locs lsA g4 g5 g6
  rw [List.map_cons] at k'
  rcases hlink with hl | ⟨host, hl⟩
  · exact va_get hx hb hts hin hown CY.1 g4.1 k0 he hci j hj (hts _ hl) (fun x h => by rw [hC] at h; exact h) hv hd k'
  · exact va_getN hx hb hts hin hown CY.1 g4.1 k0 he hci j hj (va_Nw.use rfl (hnest _ hl)) (fun x h => by rw [hC] at h; exact h) hv hd k'
/-- a field of whole numbers is written -/
theorem gf_put (CX : Cx p s m args meth c cc own nL) (CY : CF ad cI cR D scr num A s) {pc : Nat} {ls : Lc} {st : List Vl} {τ : Mm} {k : Nat} {i a jz : Int} {idx ci j : Nat} {ty : FieldType}
    (hd : decode cc pc = .ok (.putfield idx, 3)) (hf : FLw own idx ci j ty) (hk : kd k = (0, ci)) (hr : rff k i j = none) (hz : (j : Int) = jz) (hn : narrow ty (.int (i3 a)) = .int (i3 a)) (hfit : fits ty (.int (i3 a)) = true)
    (kk : Gf ad cI cR D scr nc ns p l e R s m args below meth c A Q nL (pc + 3) ls st (mu τ k i jz a)) : Gf ad cI cR D scr nc ns p l e R s m args below meth c A Q nL pc ls (vI a :: vR k i :: st) τ := by
  obtain ⟨hx, hb, hml, hown, hts, hnest, hlk⟩ := CX
  obtain ⟨⟨C, T, N, ty0, hci, hN, hj, hin, hty, hnm, hC, hty1, hlink⟩, hfin⟩ := hf
  have hfin := hfin C T N hci
  intro g1 g2 g3 H locs lsA g4 g5 g6
  obtain ⟨q0, g3⟩ := rS_cons.mp g3
  obtain ⟨q1, g3⟩ := rS_cons.mp g3
  obtain ⟨k0, hk0, he⟩ := wsT_at (ad := ad) (cI := cI) (cR := cR) (τ := τ) q1 (kd_two hk (by decide))
  have hset : (wsT ad cI cR τ).set k0 (ad k i, .inr (ci, ((List.range (clN ci)).map fun j => mv ad (fval τ k i j)).set j (mv ad (vI a)))) = wsT ad cI cR (mu τ k i jz a) := by
    refine wsT_set hk0 ?_ (fun c' i' h j' => mu_ne fun h2 => h ⟨h2.1, h2.2.1⟩)
    rw [cE_obj hk]
    refine congrArg (fun z => Sum.inr (ci, z)) (map_set_at (by rw [← hN]; exact hj) ?_ ?_).symm
    · unfold fval
      rw [hr]
      show mv ad (vI (mu τ k i jz a k i j)) = _
      rw [hz, mu_self]
    · intro j2 hj2
      unfold fval
      cases rff k i j2 with
      | some q => rfl
      | none =>
        show mv ad (vI (mu τ k i jz a k i j2)) = mv ad (vI (τ k i j2))
        rw [mu_ne (fun h => hj2 (by have := h.2.2; omega))]
  rw [cE_obj hk] at he
  have hl2 : j < ((List.range (clN ci)).map fun j => mv ad (fval τ k i j)).length := by
    rw [List.length_map, List.length_range, ← hN]
    exact hj
  rcases hlink with hl | ⟨host, hl⟩
  · refine va_put (A := A) hx hb hts hin ty0 hty hnm hown CY.1 g4.1 (CY.2.1 τ) g5 k0 he hci j hj (hts _ hl) (fun x h => by rw [hC] at h; exact h) hfin ((hty j hj).trans (by rw [hty1])) hn hfit hl2 hd (fun H1 locs1 hP1 hD1 hS1 => ?_)
    have hP1 : va_P D vwCl ((wsT ad cI cR τ).set k0 (ad k i, .inr (ci, ((List.range (clN ci)).map fun j => mv ad (fval τ k i j)).set j (mv ad (vI a))))) H1 := hP1
    rw [hset] at hP1
    exact kk (rgF_mu g1 q0) g2 g3 H1 locs1 lsA ⟨hP1, by rw [mu_ne (fun h => by have h1 := kd_two hk (by decide); omega)]; exact g4.2.1, fun z hz2 => by rw [mu_ne (fun h => by have h1 := kd_two hk (by decide); omega)]; exact g4.2.2 z hz2⟩ hS1 g6
  · refine va_putN (A := A) hx hb hts hin ty0 hty hnm hown CY.1 g4.1 (CY.2.1 τ) g5 k0 he hci j hj (va_Nw.use rfl (hnest _ hl)) (fun x h => by rw [hC] at h; exact h) hfin ((hty j hj).trans (by rw [hty1])) hn hfit hl2 hd (fun H1 locs1 hP1 hD1 hS1 => ?_)
    have hP1 : va_P D vwCl ((wsT ad cI cR τ).set k0 (ad k i, .inr (ci, ((List.range (clN ci)).map fun j => mv ad (fval τ k i j)).set j (mv ad (vI a))))) H1 := hP1
    rw [hset] at hP1
    exact kk (rgF_mu g1 q0) g2 g3 H1 locs1 lsA ⟨hP1, by rw [mu_ne (fun h => by have h1 := kd_two hk (by decide); omega)]; exact g4.2.1, fun z hz2 => by rw [mu_ne (fun h => by have h1 := kd_two hk (by decide); omega)]; exact g4.2.2 z hz2⟩ hS1 g6
/-- a row of whole numbers is read -/
theorem gf_iald (CX : Cx p s m args meth c cc own nL) (CY : CF ad cI cR D scr num A s) {pc : Nat} {ls : Lc} {st : List Vl} {τ : Mm} {k : Nat} {i j : Int} {n : Nat}
    (hd : decode cc pc = .ok (.iaload, 1)) (hk : kd k = (1, n)) (h0 : 0 ≤ j) (h1 : j < n)
    (kk : Gf ad cI cR D scr nc ns p l e R s m args below meth c A Q nL (pc + 1) ls (vI (τ k i j) :: st) τ) : Gf ad cI cR D scr nc ns p l e R s m args below meth c A Q nL pc ls (vI j :: vR k i :: st) τ := by
  obtain ⟨hx, hb, hml, hown, hts, hnest, hlk⟩ := CX
  intro g1 g2 g3 H locs lsA g4 g5 g6
  obtain ⟨q0, g3⟩ := rS_cons.mp g3
  obtain ⟨q1, g3⟩ := rS_cons.mp g3
  obtain ⟨k0, hk0, he⟩ := wsT_at (ad := ad) (cI := cI) (cR := cR) (τ := τ) q1 (kd_two hk (by decide))
  rw [cE_int hk] at he
  have k' := kk g1 g2 (rS_cons.mpr ⟨g1 _ _ _, g3⟩) H locs lsA g4 g5 g6
  rw [List.map_cons] at k'
  refine va_iald hx hb CY.1 g4.1 k0 0 he rfl (gf_in h0 h1 q0) hd ?_
  rw [i3_nat q0, Int.toNat_of_nonneg h0]
  exact k'
/-- a row of whole numbers is written -/
theorem gf_iast (CX : Cx p s m args meth c cc own nL) (CY : CF ad cI cR D scr num A s) {pc : Nat} {ls : Lc} {st : List Vl} {τ : Mm} {k : Nat} {i j a : Int} {n : Nat}
    (hd : decode cc pc = .ok (.iastore, 1)) (hk : kd k = (1, n)) (h0 : 0 ≤ j) (h1 : j < n)
    (kk : Gf ad cI cR D scr nc ns p l e R s m args below meth c A Q nL (pc + 1) ls st (mu τ k i j a)) : Gf ad cI cR D scr nc ns p l e R s m args below meth c A Q nL pc ls (vI a :: vI j :: vR k i :: st) τ := by
  obtain ⟨hx, hb, hml, hown, hts, hnest, hlk⟩ := CX
  intro g1 g2 g3 H locs lsA g4 g5 g6
  obtain ⟨qa, g3⟩ := rS_cons.mp g3
  obtain ⟨q0, g3⟩ := rS_cons.mp g3
  obtain ⟨q1, g3⟩ := rS_cons.mp g3
  obtain ⟨k0, hk0, he⟩ := wsT_at (ad := ad) (cI := cI) (cR := cR) (τ := τ) q1 (kd_two hk (by decide))
  have hset : (wsT ad cI cR τ).set k0 (ad k i, .inl (cI, n, .inl (upd (fun z => i3 (τ k i (z : Int))) (i3 j).toNatClampNeg (i3 a)))) = wsT ad cI cR (mu τ k i j a) := by
    refine wsT_set hk0 ?_ (fun c' i' h j' => mu_ne fun h2 => h ⟨h2.1, h2.2.1⟩)
    rw [cE_int hk]
    refine congrArg (fun z => Sum.inl (cI, n, Sum.inl z)) (funext fun z => ?_)
    rw [i3_nat q0]
    unfold upd
    by_cases hz : z = j.toNat
    · rw [if_pos hz, hz, Int.toNat_of_nonneg h0, mu_self]
    · rw [if_neg hz, mu_ne (fun h => hz (by have := h.2.2; omega))]
  rw [cE_int hk] at he
  refine va_iast hx hb CY.1 g4.1 (CY.2.1 τ) g5 k0 0 he rfl (gf_in h0 h1 q0) hd (fun H1 locs1 hP1 hD1 hS1 => ?_)
  rw [hset] at hP1
  exact kk (rgF_mu g1 qa) g2 g3 H1 locs1 lsA ⟨hP1, by rw [mu_ne (fun h => by have h1 := kd_two hk (by decide); omega)]; exact g4.2.1, fun z hz2 => by rw [mu_ne (fun h => by have h1 := kd_two hk (by decide); omega)]; exact g4.2.2 z hz2⟩ hS1 g6
/-- a row of references is read -/
theorem gf_aald (CX : Cx p s m args meth c cc own nL) (CY : CF ad cI cR D scr num A s) {pc : Nat} {ls : Lc} {st : List Vl} {τ : Mm} {k : Nat} {i j : Int} {t n : Nat}
    (hd : decode cc pc = .ok (.aaload, 1)) (hk : kd k = (t + 2, n)) (ht : t < 4) (h0 : 0 ≤ j) (h1 : j < n) (hv : vld (rfa k j))
    (kk : Gf ad cI cR D scr nc ns p l e R s m args below meth c A Q nL (pc + 1) ls (Sum.inr (Sum.inl (some (rfa k j))) :: st) τ) : Gf ad cI cR D scr nc ns p l e R s m args below meth c A Q nL pc ls (vI j :: vR k i :: st) τ := by
  obtain ⟨hx, hb, hml, hown, hts, hnest, hlk⟩ := CX
  intro g1 g2 g3 H locs lsA g4 g5 g6
  obtain ⟨q0, g3⟩ := rS_cons.mp g3
  obtain ⟨q1, g3⟩ := rS_cons.mp g3
  obtain ⟨k0, hk0, he⟩ := wsT_at (ad := ad) (cI := cI) (cR := cR) (τ := τ) q1 (kd_two hk (by omega))
  rw [cE_ref hk] at he
  have k' := kk g1 g2 (rS_cons.mpr ⟨hv, g3⟩) H locs lsA g4 g5 g6
  rw [List.map_cons] at k'
  obtain ⟨ty, htt, hrf⟩ : ∃ ty : FieldType, (tysT cI cR)[t + 1]? = some (cR (t + 2), ty) ∧ ty.isReference = true := by
    rcases (by omega : t = 0 ∨ t = 1 ∨ t = 2 ∨ t = 3) with rfl | rfl | rfl | rfl <;> exact ⟨_, rfl, rfl⟩
  have hin := gf_in h0 h1 q0
  have hlt : (i3 j).toNatClampNeg < n := Nat.not_le.mp fun q => hin (Or.inr q)
  refine W.aald (v := mv ad (Sum.inr (Sum.inl (some (rfa k j))))) (ty := ty) hx hb (g4.1 k0 _ he) ((CY.1.2 (t + 1) _ htt).1 n (fun z => va_rf (some (ad (rfa k z).1 (rfa k z).2)))) hrf (fun q => by cases q) ?_ ?_ rfl rfl hd k'
  · show ¬ (_ ∨ (arrV _ _ _).slots.size ≤ _)
    rw [arrV_size]
    exact hin
  · show (arrV _ _ _).slots[_]? = _
    rw [arrV_read _ _ hlt, i3_nat q0]
    have e : ((j.toNat : Nat) : Int) = j := Int.toNat_of_nonneg h0
    show some (Value.ref (ad (rfa k ((j.toNat : Nat) : Int)).1 (rfa k ((j.toNat : Nat) : Int)).2)) = _
    rw [e]
    rfl
/-- a row's length -/
theorem gf_alen (CX : Cx p s m args meth c cc own nL) (CY : CF ad cI cR D scr num A s) {pc : Nat} {ls : Lc} {st : List Vl} {τ : Mm} {k : Nat} {i nz : Int} {n : Nat}
    (hd : decode cc pc = .ok (.arraylength, 1)) (hk : kd k = (1, n)) (hz : (n : Int) = nz) (hn : n < 2147483648)
    (kk : Gf ad cI cR D scr nc ns p l e R s m args below meth c A Q nL (pc + 1) ls (vI nz :: st) τ) : Gf ad cI cR D scr nc ns p l e R s m args below meth c A Q nL pc ls (vR k i :: st) τ := by
  obtain ⟨hx, hb, hml, hown, hts, hnest, hlk⟩ := CX
  subst hz
  intro g1 g2 g3 H locs lsA g4 g5 g6
  obtain ⟨q1, g3⟩ := rS_cons.mp g3
  obtain ⟨k0, hk0, he⟩ := wsT_at (ad := ad) (cI := cI) (cR := cR) (τ := τ) q1 (kd_two hk (by decide))
  rw [cE_int hk] at he
  have k' := kk g1 g2 (rS_cons.mpr ⟨⟨by omega, by omega⟩, g3⟩) H locs lsA g4 g5 g6
  rw [List.map_cons] at k'
  exact va_alen hx hb CY.1 g4.1 k0 0 he rfl (v := i3 n) rfl hd k'
/-- the script is read -/
theorem gf_sald (CX : Cx p s m args meth c cc own nL) (CY : CF ad cI cR D scr num A s) {pc : Nat} {ls : Lc} {st : List Vl} {τ : Mm} {j : Int}
    (hd : decode cc pc = .ok (.iaload, 1)) (h0 : 0 ≤ j) (h1 : j < τ 0 0 (-1))
    (kk : Gf ad cI cR D scr nc ns p l e R s m args below meth c A Q nL (pc + 1) ls (vI (τ 0 0 j) :: st) τ) : Gf ad cI cR D scr nc ns p l e R s m args below meth c A Q nL pc ls (vI j :: vR 0 0 :: st) τ := by
  obtain ⟨hx, hb, hml, hown, hts, hnest, hlk⟩ := CX
  intro g1 g2 g3 H locs lsA g4 g5 g6
  obtain ⟨q0, g3⟩ := rS_cons.mp g3
  obtain ⟨q1, g3⟩ := rS_cons.mp g3
  have k' := kk g1 g2 (rS_cons.mpr ⟨g1 _ _ _, g3⟩) H locs lsA g4 g5 g6
  rw [List.map_cons] at k'
  obtain ⟨z1, z2, z3, z4⟩ := CY.2.2.1
  have hsz : j < (scr.slots.size : Int) := by rw [g4.2.1]; exact h1
  refine W.iald hx hb (a := ad 0 0) (v := .int (i3 (τ 0 0 j))) (by rw [g5.2.1 _ (Array.getElem?_eq_some_iff.mp z1).1 z2]; exact z1) z3 z4 (gf_in h0 hsz q0) ?_ rfl rfl hd k'
  rw [i3_nat q0, g4.2.2 j.toNat (by omega), Int.toNat_of_nonneg h0]
theorem gf_slen (CX : Cx p s m args meth c cc own nL) (CY : CF ad cI cR D scr num A s) {pc : Nat} {ls : Lc} {st : List Vl} {τ : Mm}
    (hd : decode cc pc = .ok (.arraylength, 1))
    (kk : Gf ad cI cR D scr nc ns p l e R s m args below meth c A Q nL (pc + 1) ls (vI (τ 0 0 (-1)) :: st) τ) : Gf ad cI cR D scr nc ns p l e R s m args below meth c A Q nL pc ls (vR 0 0 :: st) τ := by
  obtain ⟨hx, hb, hml, hown, hts, hnest, hlk⟩ := CX
  intro g1 g2 g3 H locs lsA g4 g5 g6
  obtain ⟨q1, g3⟩ := rS_cons.mp g3
  have k' := kk g1 g2 (rS_cons.mpr ⟨g1 _ _ _, g3⟩) H locs lsA g4 g5 g6
  rw [List.map_cons] at k'
  obtain ⟨z1, z2, z3, z4⟩ := CY.2.2.1
  exact W.alen hx hb (a := ad 0 0) (n := i3 (τ 0 0 (-1))) (by rw [g5.2.1 _ (Array.getElem?_eq_some_iff.mp z1).1 z2]; exact z1) z3 (by rw [← g4.2.1]; rfl) rfl rfl hd k'
/-- the row NUMBERS -/
theorem gf_nums (CX : Cx p s m args meth c cc own nL) (CY : CF ad cI cR D scr num A s) {pc : Nat} {ls : Lc} {st : List Vl} {τ : Mm} {idx : Nat}
    (hd : decode cc pc = .ok (.getstatic idx, 3)) (hl : SLk own idx)
    (kk : Gf ad cI cR D scr nc ns p l e R s m args below meth c A Q nL (pc + 3) ls (vR 1 0 :: st) τ) : Gf ad cI cR D scr nc ns p l e R s m args below meth c A Q nL pc ls st τ := by
  obtain ⟨hx, hb, hml, hown, hts, hnest, hlk⟩ := CX
  intro g1 g2 g3 H locs lsA g4 g5 g6
  have k' := kk g1 g2 (rS_cons.mpr ⟨(show vld (1, 0) from ⟨Int.le_refl 0, by decide⟩), g3⟩) H locs lsA g4 g5 g6
  rw [List.map_cons] at k'
  rcases hl with hl | ⟨host, hl⟩
  · exact va_gets hx hb CY.2.2.2.2 g5 hown (hts _ hl) (fun x h => h) hd k'
  · exact va_getsN hx hb CY.2.2.2.2 g5 hown (va_Nw.use rfl (hnest _ hl)) (fun x h => h) hd k'
theorem gf_nald (CX : Cx p s m args meth c cc own nL) (CY : CF ad cI cR D scr num A s) {pc : Nat} {ls : Lc} {st : List Vl} {τ : Mm} {j : Int}
    (hd : decode cc pc = .ok (.iaload, 1)) (h0 : 0 ≤ j) (h1 : j < 10)
    (kk : Gf ad cI cR D scr nc ns p l e R s m args below meth c A Q nL (pc + 1) ls (vI (numF j) :: st) τ) : Gf ad cI cR D scr nc ns p l e R s m args below meth c A Q nL pc ls (vI j :: vR 1 0 :: st) τ := by
  obtain ⟨hx, hb, hml, hown, hts, hnest, hlk⟩ := CX
  intro g1 g2 g3 H locs lsA g4 g5 g6
  obtain ⟨q0, g3⟩ := rS_cons.mp g3
  obtain ⟨q1, g3⟩ := rS_cons.mp g3
  have hnr : inR (numF j) := by unfold numF; split <;> exact inR_lit rfl
  have k' := kk g1 g2 (rS_cons.mpr ⟨hnr, g3⟩) H locs lsA g4 g5 g6
  rw [List.map_cons] at k'
  obtain ⟨z1, z2, z3, z4, z5, z6⟩ := CY.2.2.2.1
  refine W.iald hx hb (a := ad 1 0) (v := .int (i3 (numF j))) (by rw [g5.2.1 _ (Array.getElem?_eq_some_iff.mp z1).1 z2]; exact z1) z3 z4 (gf_in h0 (by omega) q0) ?_ rfl rfl hd k'
  rw [i3_nat q0, z6 j.toNat (by omega), Int.toNat_of_nonneg h0]
/-- a stretch of a row is copied -/
theorem gf_copy (CX : Cx p s m args meth c cc own nL) (CY : CF ad cI cR D scr num A s) (hR : 1 ≤ R.frames ∧ 40 ≤ R.locals) {pc : Nat} {ls : Lc} {st : List Vl} {τ : Mm} {k0 k1 : Nat} {i0 i1 sp dp n : Int} {n0 n1 idx : Nat}
    (hd : decode cc pc = .ok (.invokestatic idx, 3)) (hl : Cond.methodLink own idx arraycopyName ∈ gT ∧ Cond.native arraycopyName ∈ gT ∧ Cond.static arraycopyName ∈ gT ∧ Cond.initialized "java/lang/System" ∈ gT)
    (hk0 : kd k0 = (1, n0)) (hk1 : kd k1 = (1, n1)) (h1 : 0 ≤ sp) (h2 : 0 ≤ dp) (h3 : 0 ≤ n) (h4 : sp + n ≤ n0) (h5 : dp + n ≤ n1) (hst : csum st ≤ 8)
    (kk : Gf ad cI cR D scr nc ns p l e R s m args below meth c A Q nL (pc + 3) ls st (cpy τ k0 i0 sp k1 i1 dp n)) : Gf ad cI cR D scr nc ns p l e R s m args below meth c A Q nL pc ls (vI n :: vI dp :: vR k1 i1 :: vI sp :: vR k0 i0 :: st) τ := by
  obtain ⟨hx, hb, hml, hown, hts, hnest, hlk⟩ := CX
  intro g1 g2 g3 H locs lsA g4 g5 g6
  obtain ⟨qn, g3⟩ := rS_cons.mp g3
  obtain ⟨qd, g3⟩ := rS_cons.mp g3
  obtain ⟨q1, g3⟩ := rS_cons.mp g3
  obtain ⟨qs, g3⟩ := rS_cons.mp g3
  obtain ⟨q0, g3⟩ := rS_cons.mp g3
  obtain ⟨p0, hp0, he0⟩ := wsT_at (ad := ad) (cI := cI) (cR := cR) (τ := τ) q0 (kd_two hk0 (by decide))
  obtain ⟨p1, hp1, he1⟩ := wsT_at (ad := ad) (cI := cI) (cR := cR) (τ := τ) q1 (kd_two hk1 (by decide))
  have hset : (wsT ad cI cR τ).set p1 (ad k1 i1, .inl (cI, n1, .inl (va_cpy (fun z => i3 (τ k0 i0 (z : Int))) (fun z => i3 (τ k1 i1 (z : Int))) (i3 sp).toNatClampNeg (i3 dp).toNatClampNeg (i3 n).toNatClampNeg))) = wsT ad cI cR (cpy τ k0 i0 sp k1 i1 dp n) := by
    refine wsT_set hp1 ?_ (fun c' i' h j' => if_neg fun h2 => h ⟨h2.1, h2.2.1⟩)
    rw [cE_int hk1]
    refine congrArg (fun z => Sum.inl (cI, n1, Sum.inl z)) (funext fun z => ?_)
    rw [i3_nat qs, i3_nat qd, i3_nat qn]
    unfold va_cpy cpy
    by_cases hz : dp.toNat ≤ z ∧ z < dp.toNat + n.toNat
    · rw [if_pos hz, if_pos ⟨rfl, rfl, by omega, by omega⟩]
      congr 2
      omega
    · rw [if_neg hz, if_neg (fun h => hz (by omega))]
  rw [cE_int hk0] at he0
  rw [cE_int hk1] at he1
  have hnl : ∀ z : Int, inR z → 0 ≤ z → ¬ i3 z < 0 := fun z hz h0 h => by
    have h2 := (i3_lt hz (inR_lit rfl : inR 0)).mp h
    omega
  refine va_copyi hx hb (hml.trans g6.2.1.symm) hown (hts _ hl.1) (hts _ hl.2.1) (hts _ hl.2.2.1) (hts _ hl.2.2.2) CY.1 g4.1 (CY.2.1 τ) g5 p0 p1 0 0 he0 he1 rfl rfl rfl (hnl _ qs h1) (hnl _ qd h2) (hnl _ qn h3) (by rw [i3_nat qs, i3_nat qn]; omega) (by rw [i3_nat qd, i3_nat qn]; omega) (fun _ _ => rfl) hR.1 ?_ hd (fun H1 locs1 hP1 hD1 hS1 => ?_)
  · have hw : nativeFrameWords "java/lang/System" "arraycopy" 5 + 11 ≤ 32 := by decide
    rw [mv_sum]
    omega
  · rw [hset] at hP1
    exact kk (rgF_cpy g1) g2 g3 H1 locs1 lsA ⟨hP1, by rw [show cpy τ k0 i0 sp k1 i1 dp n 0 0 (-1) = τ 0 0 (-1) from if_neg (fun h => by have h1 := kd_two hk1 (by decide); omega)]; exact g4.2.1, fun z hz2 => by rw [show cpy τ k0 i0 sp k1 i1 dp n 0 0 z = τ 0 0 z from if_neg (fun h => by have h1 := kd_two hk1 (by decide); omega)]; exact g4.2.2 z hz2⟩ hS1 g6
end GMF
