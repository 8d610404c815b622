-- contracts, calls, returns; what a method comes to
theorem nT_moved {s U : State} (h : ∀ w ∈ nT, va_Nw w s) (hW : s.WarmedH U.vm) : ∀ w ∈ nT, va_Nw w U := by
  intro w hw
  have h1 := h w hw
  have h2 := (List.mem_filter.mp hw).2
  cases w <;> first | (simp [isNest] at h2; done) | exact va_Nw.warmF hW h1 | exact va_Nw.warmM hW h1
theorem nT_same {u U : State} (h : ∀ w ∈ nT, va_Nw w u) (hv : u.vm = U.vm) : ∀ w ∈ nT, va_Nw w U := by
  intro w hw
  have h1 := h w hw
  have h2 := (List.mem_filter.mp hw).2
  cases w <;> first | (simp [isNest] at h2; done) | exact va_Nw.same rfl hv h1
theorem gT_good : ∀ w ∈ gT, (w.onTables && w.keeps) = true ∨ ∃ ty, w = .arrayClass ty := fun w hw => good_of_word (List.mem_filter.mp hw).2
theorem wsM_good {M : Nat} (h : MOK M) : GoodIn gT (wsM M) := by
  intro w hw
  rcases List.mem_cons.mp hw with rfl | hw
  · exact ⟨h.1, Or.inl rfl⟩
  · exact ⟨hw, gT_good w hw⟩
def rmd (d : Nat) : Room := { frames := d, cells := 0, slots := 0, locals := 40 * d }
/-- a method's start: its arguments, the world, the tables -/
def Pcm (ad : Nat → Int → Nat) (cI : ClassId) (cR : Nat → ClassId) (D : va_G) (scr num : Cell) (A : Nat → Prop) (as : List Vl) (τ : Mm) : Array Value → State → Prop :=
  va_Pc (as.map (mv ad)) (fun U => rS vld as ∧ Wf ad cI cR D scr τ U.heap ∧ CF ad cI cR D scr num A U ∧ (∀ w ∈ nT, va_Nw w U) ∧ rgF τ)
/-- and its end -/
def Qcm (ad : Nat → Int → Nat) (cI : ClassId) (cR : Nat → ClassId) (D : va_G) (scr : Cell) (A : Nat → Prop) (Post : Option Vl → Mm → Prop) : Array Value → State → Outcome → State → Prop :=
  fun _ st oc t => (∃ (r : Option Vl) (τ : Mm), oc = .returned (r.map (mv ad)) ∧ Post r τ ∧ (∀ v : Vl, r = some v → rV vld v) ∧ rgF τ ∧ Wf ad cI cR D scr τ t.heap) ∧ va_F A st t
theorem Pcm_blind {ad : Nat → Int → Nat} {cI : ClassId} {cR : Nat → ClassId} {D : va_G} {scr num : Cell} {A : Nat → Prop} {as : List Vl} {τ : Mm} : FrameBlind (Pcm ad cI cR D scr num A as τ) := by
  intro a U g mk h
  obtain ⟨h1, h2, h3, h4, h5, h6⟩ := h
  exact ⟨h1, h2, h3, CF.moved (u := U) (U := U.calling g mk a) h4 (Vm.Alike.refl U.vm) (fun _ _ _ => rfl), nT_same h5 rfl, h6⟩
section CALLF
variable {ad : Nat → Int → Nat} {cI : ClassId} {cR : Nat → ClassId} {D : va_G} {scr num : Cell} {nc ns : Nat}
variable {p : Program} {l : Launch} {e : Env} {R : Room} {s : State} {m : MethodId} {args : Array Value} {below : List Frame} {meth : Method} {c : Code} {A : Nat → Prop} {Q : State → Prop} {nL : Nat} {cc : ByteArray} {own : String}
theorem gm_call {H : Heap} {locs : List Loc} {cells slots pc : Nat} {ls : Array Slot} {st0 rest : List Value} {a : Array Value} {Post : Option Vl → Mm → Prop}
    (hr : va_Run p l e R s m args below meth c H locs cells slots 0 0 (F0 m pc ls st0) rest (Qcm ad cI cR D scr A Post a) A) (hS : va_S A s.heap H locs)
    (kk : ∀ (r : Option Vl) (τ : Mm) (H1 : Heap) (locs1 : List Loc), Post r τ → (∀ v : Vl, r = some v → rV vld v) → rgF τ → Wf ad cI cR D scr τ H1 → va_S A s.heap H1 locs1 → W p l e R s m args below meth c H1 locs1 cells slots Q (F0 m (pc + 3) ls ((r.map (mv ad)).toList ++ rest))) :
    W p l e R s m args below meth c H locs cells slots Q (F0 m pc ls st0) := by
  intro T hT X
  obtain ⟨v, st₀, t, T', L, h0, X', hL, e1, e2, ⟨⟨r, τ, hv, hp, hb, hg, hw⟩, hz, hk⟩, st⟩ := hr T hT X
  cases hv
  rw [h0] at hz hk
  obtain ⟨t2, a1, b1⟩ := kk r τ T'.heap (locs ++ L) hp hb hg (by rw [e1]; exact hw)
    ⟨Nat.le_trans hS.1 (by rw [e1]; exact hz), fun q h1 h2 => by rw [e1, hk q (Nat.lt_of_lt_of_le h1 hS.1) h2]; exact hS.2.1 q h1 h2, fun q hq => by
      rcases List.mem_append.mp hq with h | h
      · exact hS.2.2 q h
      · exact hL q h⟩ T' rfl X'
  exact ⟨t2, st t2 a1, b1⟩
theorem pcm_at (CX : Cx p s m args meth c cc own nL) (CY : CF ad cI cR D scr num A s) {as : List Vl} {τ : Mm} {H : Heap} {locs : List Loc} (g1 : rgF τ) (g4 : Wf ad cI cR D scr τ H) (g5 : va_S A s.heap H locs) (hrs : rS vld as) : ∀ U : State, U.heap = H → s.WarmedH U.vm → Pcm ad cI cR D scr num A as τ (as.map (mv ad)).toArray U :=
  fun U hU hW => ⟨rfl, hrs, by rw [hU]; exact g4, CY.moved hW.alike (fun q h1 h2 => by rw [hU]; exact g5.2.1 q h1 h2), nT_moved CX.2.2.2.2.2.1 hW, g1⟩
theorem gf_inv (CX : Cx p s m args meth c cc own nL) (CY : CF ad cI cR D scr num A s) {d : Nat} (hR : d + 1 ≤ R.frames ∧ 40 * (d + 1) ≤ R.locals) (hC0 : nc ≤ R.cells ∧ ns ≤ R.slots) {Cal : Nat → List Vl → Mm → (Option Vl → Mm → Prop) → Prop}
    (hCal : ∀ (M : Nat) (as : List Vl) (τ : Mm) (Post : Option Vl → Mm → Prop), Cal M as τ Post → csum as ≤ ml M → MOK M → Met l (my M) (wsM M) (rmd d) (Pcm ad cI cR D scr num A as τ) (Qcm ad cI cR D scr A Post) 0 0 A)
    {pc : Nat} {ls : Lc} {rest as : List Vl} {τ : Mm} {k idx M ci : Nat} {i : Int}
    (hd : decode cc pc = .ok (.invokevirtual idx, 3)) (hl : VLk own idx M) (hk : kd k = (0, ci)) (hn : (vwCl[ci]?).map (fun q => q.1) = some (my M).cls) (hlen : as.length = mp M) (hcs : csum (vR k i :: as) ≤ ml M) (hst : csum rest ≤ 8)
    (kk : Cal M (vR k i :: as) τ (fun r τ' => Gf ad cI cR D scr nc ns p l e R s m args below meth c A Q nL (pc + 3) ls (r.toList ++ rest) τ')) : Gf ad cI cR D scr nc ns p l e R s m args below meth c A Q nL pc ls (as.reverse ++ vR k i :: rest) τ := by
  intro g1 g2 g3 H locs lsA g4 g5 g6
  have CX' := CX
  obtain ⟨hx, hb, hml, hown, hts, hnest, hlk⟩ := CX
  obtain ⟨hlink, hmok, hinst, hsel⟩ := hl
  obtain ⟨ga, gr⟩ := rS_app.mp g3
  obtain ⟨q1, gr⟩ := rS_cons.mp gr
  have gas : rS vld (vR k i :: as) := rS_cons.mpr ⟨q1, rS_rev.mp ga⟩
  obtain ⟨k0, hk0, he⟩ := wsT_at (ad := ad) (cI := cI) (cR := cR) (τ := τ) q1 (kd_two hk (by decide))
  rw [cE_obj hk] at he
  obtain ⟨q, hq, hqn⟩ := Option.map_eq_some_iff.mp hn
  have hrec := va_recv CY.1 g4.1 hq he
  rw [hqn] at hrec
  have hM := hCal M (vR k i :: as) τ _ kk hcs hmok
  have hgood := wsM_good hmok
  have hR2 : (rmd d).frames + 1 ≤ R.frames ∧ 8 + (ml M + 11) + (rmd d).locals ≤ R.locals := ⟨hR.1, by have h1 := hmok.2.2.2.2.1; show 8 + (ml M + 11) + 40 * d ≤ R.locals; omega⟩
  have hdd : (my M).cls ≠ "java/lang/invoke/MethodHandle" ∧ (my M).cls ≠ "java/lang/invoke/VarHandle" ∧ (parseMethodDescriptor (my M).desc).map (fun d => d.parameters.length) = some (mp M) := ⟨hmok.2.2.1.1, hmok.2.2.1.2, hmok.2.2.2.1⟩
  have hp : PreV s H (my M).cls (ad k i) (Pcm ad cI cR D scr num A (vR k i :: as) τ) (as.map (mv ad)) := ⟨Pcm_blind, hrec, pcm_at CX' CY g1 g4 g5 gas⟩
  have hfin : ∀ hr : va_Run p l e R s m args below meth c H locs nc ns 0 0 (F0 m pc lsA (List.map (mv ad) (as.reverse ++ vR k i :: rest))) (rest.map (mv ad)) (Qcm ad cI cR D scr A (fun r τ' => Gf ad cI cR D scr nc ns p l e R s m args below meth c A Q nL (pc + 3) ls (r.toList ++ rest) τ') (Value.ref (ad k i) :: as.map (mv ad)).toArray) A,
      W p l e R s m args below meth c H locs nc ns Q (F0 m pc lsA (List.map (mv ad) (as.reverse ++ vR k i :: rest))) := fun hr => by
    refine gm_call hr g5 (fun r τ' H1 locs1 hpost hrv hrg hw hS1 => ?_)
    have k' := hpost hrg g2 (rS_app.mpr ⟨fun v hv => hrv v (by
      cases r with
      | none => simp at hv
      | some w => simp at hv; rw [hv]), gr⟩) H1 locs1 lsA hw hS1 g6
    rw [List.map_append] at k'
    cases r <;> exact k'
  have hstack : List.map (mv ad) (as.reverse ++ vR k i :: rest) = (as.map (mv ad)).reverse ++ .ref (ad k i) :: rest.map (mv ad) := by
    rw [List.map_append, List.map_reverse]
    rfl
  rcases hlink with hlnk | ⟨host, hlnk⟩
  · exact hfin (va_runV (mc := 0) (ms := 0) ⟨hx, hb, hml, hown, hts⟩ hM ⟨callB_of (mp M) hts hgood rfl rfl rfl (hts _ hmok.2.1) (hts _ hlnk) hdd hR2, hts _ hinst, hts _ hsel⟩ hp rfl (by rw [List.length_map]; exact hlen) g6.2.1 hstack (lv_room (by rw [mv_sum]; exact hst)) hd hC0)
  · exact hfin (va_runVN (mc := 0) (ms := 0) ⟨hx, hb, hml, hown, hts⟩ hM ⟨va_cnB (mp M) hts hgood rfl rfl rfl (hnest _ hlnk) (hts _ hmok.2.1) hdd hR2, hts _ hinst, hts _ hsel⟩ hp rfl (by rw [List.length_map]; exact hlen) g6.2.1 hstack (lv_room (by rw [mv_sum]; exact hst)) hd hC0)
theorem gf_ins (CX : Cx p s m args meth c cc own nL) (CY : CF ad cI cR D scr num A s) {d : Nat} (hR : d + 1 ≤ R.frames ∧ 40 * (d + 1) ≤ R.locals) (hC0 : nc ≤ R.cells ∧ ns ≤ R.slots) {Cal : Nat → List Vl → Mm → (Option Vl → Mm → Prop) → Prop}
    (hCal : ∀ (M : Nat) (as : List Vl) (τ : Mm) (Post : Option Vl → Mm → Prop), Cal M as τ Post → csum as ≤ ml M → MOK M → Met l (my M) (wsM M) (rmd d) (Pcm ad cI cR D scr num A as τ) (Qcm ad cI cR D scr A Post) 0 0 A)
    {pc : Nat} {ls : Lc} {rest as : List Vl} {τ : Mm} {idx M : Nat}
    (hd : decode cc pc = .ok (.invokestatic idx, 3)) (hl : TLk own idx M) (hlen : as.length = mp M) (hcs : csum as ≤ ml M) (hst : csum rest ≤ 8)
    (kk : Cal M as τ (fun r τ' => Gf ad cI cR D scr nc ns p l e R s m args below meth c A Q nL (pc + 3) ls (r.toList ++ rest) τ')) : Gf ad cI cR D scr nc ns p l e R s m args below meth c A Q nL pc ls (as.reverse ++ rest) τ := by
  intro g1 g2 g3 H locs lsA g4 g5 g6
  have CX' := CX
  obtain ⟨hx, hb, hml, hown, hts, hnest, hlk⟩ := CX
  obtain ⟨hlink, hmok, hstat⟩ := hl
  obtain ⟨ga, gr⟩ := rS_app.mp g3
  have gas : rS vld as := rS_rev.mp ga
  have hM := hCal M as τ _ kk hcs hmok
  have hgood := wsM_good hmok
  have hR2 : (rmd d).frames + 1 ≤ R.frames ∧ 8 + (ml M + 11) + (rmd d).locals ≤ R.locals := ⟨hR.1, by have h1 := hmok.2.2.2.2.1; show 8 + (ml M + 11) + 40 * d ≤ R.locals; omega⟩
  have hdd : (my M).cls ≠ "java/lang/invoke/MethodHandle" ∧ (my M).cls ≠ "java/lang/invoke/VarHandle" ∧ (parseMethodDescriptor (my M).desc).map (fun d => d.parameters.length) = some (mp M) := ⟨hmok.2.2.1.1, hmok.2.2.1.2, hmok.2.2.2.1⟩
  have hp : PreS s H (Pcm ad cI cR D scr num A as τ) (as.map (mv ad)) := ⟨Pcm_blind, pcm_at CX' CY g1 g4 g5 gas⟩
  have hfin : ∀ hr : va_Run p l e R s m args below meth c H locs nc ns 0 0 (F0 m pc lsA (List.map (mv ad) (as.reverse ++ rest))) (rest.map (mv ad)) (Qcm ad cI cR D scr A (fun r τ' => Gf ad cI cR D scr nc ns p l e R s m args below meth c A Q nL (pc + 3) ls (r.toList ++ rest) τ') (as.map (mv ad)).toArray) A,
      W p l e R s m args below meth c H locs nc ns Q (F0 m pc lsA (List.map (mv ad) (as.reverse ++ rest))) := fun hr => by
    refine gm_call hr g5 (fun r τ' H1 locs1 hpost hrv hrg hw hS1 => ?_)
    have k' := hpost hrg g2 (rS_app.mpr ⟨fun v hv => hrv v (by
      cases r with
      | none => simp at hv
      | some w => simp at hv; rw [hv]), gr⟩) H1 locs1 lsA hw hS1 g6
    rw [List.map_append] at k'
    cases r <;> exact k'
  have hstack : List.map (mv ad) (as.reverse ++ rest) = (as.map (mv ad)).reverse ++ rest.map (mv ad) := by
    rw [List.map_append, List.map_reverse]
  rcases hlink with hlnk | ⟨host, hlnk⟩
  · exact hfin (va_runS (mc := 0) (ms := 0) ⟨hx, hb, hml, hown, hts⟩ hM ⟨callB_of (mp M) hts hgood rfl rfl rfl (hts _ hmok.2.1) (hts _ hlnk) hdd hR2, hts _ hstat⟩ hp rfl (by rw [List.length_map]; exact hlen) g6.2.1 hstack (lv_room (by rw [mv_sum]; exact hst)) hd hC0)
  · exact hfin (va_runSN (mc := 0) (ms := 0) ⟨hx, hb, hml, hown, hts⟩ hM ⟨va_cnB (mp M) hts hgood rfl rfl rfl (hnest _ hlnk) (hts _ hmok.2.1) hdd hR2, hts _ hstat, trivial⟩ hp rfl (by rw [List.length_map]; exact hlen) g6.2.1 hstack (lv_room (by rw [mv_sum]; exact hst)) hd hC0)
theorem gf_iret (CX : Cx p s m args meth c cc own nL) {Post : Option Vl → Mm → Prop} {pc : Nat} {ls : Lc} {τ : Mm} {a : Int} (hr : meth.sig.returnType = some .int) (hd : decode cc pc = .ok (.ireturn, 1)) (hp : Post (some (vI a)) τ) :
    Gf ad cI cR D scr 0 0 p l e R s m args below meth c A (MQ below (Qcm ad cI cR D scr A Post) args s 0 0 A) nL pc ls [vI a] τ := by
  intro g1 g2 g3 H locs lsA g4 g5 g6
  obtain ⟨hx, hb, hml, hown, hts, hnest, hlk⟩ := CX
  exact W.iret (v := i3 a) hx hb hr (fun t ht hW => ⟨⟨some (vI a), τ, rfl, hp, fun v hv => by cases hv; exact (rS_cons.mp g3).1, g1, by rw [ht]; exact g4⟩, g5.F ht⟩) g5.2.2 hd (hlocks := hlk)
theorem gf_zret (CX : Cx p s m args meth c cc own nL) {Post : Option Vl → Mm → Prop} {pc : Nat} {ls : Lc} {τ : Mm} {a : Int} (hr : meth.sig.returnType = some .boolean) (hd : decode cc pc = .ok (.ireturn, 1)) (ha : a = 0 ∨ a = 1) (hp : Post (some (vI a)) τ) :
    Gf ad cI cR D scr 0 0 p l e R s m args below meth c A (MQ below (Qcm ad cI cR D scr A Post) args s 0 0 A) nL pc ls [vI a] τ := by
  intro g1 g2 g3 H locs lsA g4 g5 g6
  obtain ⟨hx, hb, hml, hown, hts, hnest, hlk⟩ := CX
  exact W.zret (v := i3 a) hx hb hr (by rcases ha with rfl | rfl <;> rfl) (fun t ht hW => ⟨⟨some (vI a), τ, rfl, hp, fun v hv => by cases hv; exact (rS_cons.mp g3).1, g1, by rw [ht]; exact g4⟩, g5.F ht⟩) g5.2.2 hd (hlocks := hlk)
theorem gf_vret (CX : Cx p s m args meth c cc own nL) {Post : Option Vl → Mm → Prop} {pc : Nat} {ls : Lc} {τ : Mm} (hr : meth.sig.returnType = none) (hd : decode cc pc = .ok (.return_, 1)) (hp : Post none τ) :
    Gf ad cI cR D scr 0 0 p l e R s m args below meth c A (MQ below (Qcm ad cI cR D scr A Post) args s 0 0 A) nL pc ls [] τ := by
  intro g1 g2 g3 H locs lsA g4 g5 g6
  obtain ⟨hx, hb, hml, hown, hts, hnest, hlk⟩ := CX
  exact W.vret hx hb hr (fun t ht hW => ⟨⟨none, τ, rfl, hp, fun v hv => by (cases hv), g1, by rw [ht]; exact g4⟩, g5.F ht⟩) g5.2.2 hd (hlocks := hlk)
theorem gf_aret (CX : Cx p s m args meth c cc own nL) {Post : Option Vl → Mm → Prop} {pc : Nat} {ls : Lc} {τ : Mm} {n : String} {q : Option (Nat × Int)} (hr : meth.sig.returnType = some (.object n)) (hd : decode cc pc = .ok (.areturn, 1)) (hp : Post (some (Sum.inr (Sum.inl q))) τ) :
    Gf ad cI cR D scr 0 0 p l e R s m args below meth c A (MQ below (Qcm ad cI cR D scr A Post) args s 0 0 A) nL pc ls [Sum.inr (Sum.inl q)] τ := by
  intro g1 g2 g3 H locs lsA g4 g5 g6
  obtain ⟨hx, hb, hml, hown, hts, hnest, hlk⟩ := CX
  exact W.aret (v := mv ad (Sum.inr (Sum.inl q))) hx hb hr (Or.inl ⟨n, rfl⟩) (by rcases q with _ | q; exact Or.inl rfl; exact Or.inr ⟨_, rfl⟩) (fun t ht hW => ⟨⟨some (Sum.inr (Sum.inl q)), τ, rfl, hp, fun v hv => by cases hv; exact (rS_cons.mp g3).1, g1, by rw [ht]; exact g4⟩, g5.F ht⟩) g5.2.2 hd (hlocks := hlk)
end CALLF
def M_getI (cc : ByteArray) (own : String) (Cal : Nat → List Vl → Mm → (Option Vl → Mm → Prop) → Prop) (K : Nat → Lc → List Vl → Mm → Prop) : Prop := ∀ {pc : Nat} {ls : Lc} {st : List Vl} {τ : Mm} {k : Nat} {i jz : Int} {idx ci j : Nat} {ty : FieldType}, (decode cc pc = .ok (.getfield idx, 3)) → (FLk own idx ci j ty) → (kd k = (0, ci)) → (rff k i j = none) → ((j : Int) = jz) → (K (pc + 3) ls (vI (τ k i jz) :: st) τ) → K pc ls (vR k i :: st) τ
def M_getR (cc : ByteArray) (own : String) (Cal : Nat → List Vl → Mm → (Option Vl → Mm → Prop) → Prop) (K : Nat → Lc → List Vl → Mm → Prop) : Prop := ∀ {pc : Nat} {ls : Lc} {st : List Vl} {τ : Mm} {k : Nat} {i : Int} {idx ci j : Nat} {ty : FieldType} {q : Nat × Int}, (decode cc pc = .ok (.getfield idx, 3)) → (FLk own idx ci j ty) → (kd k = (0, ci)) → (rff k i j = some q) → (vld q) → (K (pc + 3) ls (Sum.inr (Sum.inl (some q)) :: st) τ) → K pc ls (vR k i :: st) τ
def M_putI (cc : ByteArray) (own : String) (Cal : Nat → List Vl → Mm → (Option Vl → Mm → Prop) → Prop) (K : Nat → Lc → List Vl → Mm → Prop) : Prop := ∀ {pc : Nat} {ls : Lc} {st : List Vl} {τ : Mm} {k : Nat} {i a jz : Int} {idx ci j : Nat}, (decode cc pc = .ok (.putfield idx, 3)) → (FLw own idx ci j .int) → (kd k = (0, ci)) → (rff k i j = none) → ((j : Int) = jz) → (K (pc + 3) ls st (mu τ k i jz a)) → K pc ls (vI a :: vR k i :: st) τ
def M_putZ (cc : ByteArray) (own : String) (Cal : Nat → List Vl → Mm → (Option Vl → Mm → Prop) → Prop) (K : Nat → Lc → List Vl → Mm → Prop) : Prop := ∀ {pc : Nat} {ls : Lc} {st : List Vl} {τ : Mm} {k : Nat} {i a jz : Int} {idx ci j : Nat}, (decode cc pc = .ok (.putfield idx, 3)) → (FLw own idx ci j .boolean) → (kd k = (0, ci)) → (rff k i j = none) → ((j : Int) = jz) → (a = 0 ∨ a = 1) → (K (pc + 3) ls st (mu τ k i jz a)) → K pc ls (vI a :: vR k i :: st) τ
def M_iald (cc : ByteArray) (own : String) (Cal : Nat → List Vl → Mm → (Option Vl → Mm → Prop) → Prop) (K : Nat → Lc → List Vl → Mm → Prop) : Prop := ∀ {pc : Nat} {ls : Lc} {st : List Vl} {τ : Mm} {k : Nat} {i j : Int} {n : Nat}, (decode cc pc = .ok (.iaload, 1)) → (kd k = (1, n)) → (0 ≤ j) → (j < (n : Int)) → (K (pc + 1) ls (vI (τ k i j) :: st) τ) → K pc ls (vI j :: vR k i :: st) τ
def M_iast (cc : ByteArray) (own : String) (Cal : Nat → List Vl → Mm → (Option Vl → Mm → Prop) → Prop) (K : Nat → Lc → List Vl → Mm → Prop) : Prop := ∀ {pc : Nat} {ls : Lc} {st : List Vl} {τ : Mm} {k : Nat} {i j a : Int} {n : Nat}, (decode cc pc = .ok (.iastore, 1)) → (kd k = (1, n)) → (0 ≤ j) → (j < (n : Int)) → (K (pc + 1) ls st (mu τ k i j a)) → K pc ls (vI a :: vI j :: vR k i :: st) τ
def M_aald (cc : ByteArray) (own : String) (Cal : Nat → List Vl → Mm → (Option Vl → Mm → Prop) → Prop) (K : Nat → Lc → List Vl → Mm → Prop) : Prop := ∀ {pc : Nat} {ls : Lc} {st : List Vl} {τ : Mm} {k : Nat} {i j : Int} {t n : Nat}, (decode cc pc = .ok (.aaload, 1)) → (kd k = (t + 2, n)) → (t < 4) → (0 ≤ j) → (j < (n : Int)) → (vld (rfa k j)) → (K (pc + 1) ls (Sum.inr (Sum.inl (some (rfa k j))) :: st) τ) → K pc ls (vI j :: vR k i :: st) τ
def M_alen (cc : ByteArray) (own : String) (Cal : Nat → List Vl → Mm → (Option Vl → Mm → Prop) → Prop) (K : Nat → Lc → List Vl → Mm → Prop) : Prop := ∀ {pc : Nat} {ls : Lc} {st : List Vl} {τ : Mm} {k : Nat} {i nz : Int} {n : Nat}, (decode cc pc = .ok (.arraylength, 1)) → (kd k = (1, n)) → ((n : Int) = nz) → (n < 2147483648) → (K (pc + 1) ls (vI nz :: st) τ) → K pc ls (vR k i :: st) τ
def M_sald (cc : ByteArray) (own : String) (Cal : Nat → List Vl → Mm → (Option Vl → Mm → Prop) → Prop) (K : Nat → Lc → List Vl → Mm → Prop) : Prop := ∀ {pc : Nat} {ls : Lc} {st : List Vl} {τ : Mm} {j : Int}, (decode cc pc = .ok (.iaload, 1)) → (0 ≤ j) → (j < τ 0 0 (-1)) → (K (pc + 1) ls (vI (τ 0 0 j) :: st) τ) → K pc ls (vI j :: vR 0 0 :: st) τ
def M_slen (cc : ByteArray) (own : String) (Cal : Nat → List Vl → Mm → (Option Vl → Mm → Prop) → Prop) (K : Nat → Lc → List Vl → Mm → Prop) : Prop := ∀ {pc : Nat} {ls : Lc} {st : List Vl} {τ : Mm}, (decode cc pc = .ok (.arraylength, 1)) → (K (pc + 1) ls (vI (τ 0 0 (-1)) :: st) τ) → K pc ls (vR 0 0 :: st) τ
def M_nums (cc : ByteArray) (own : String) (Cal : Nat → List Vl → Mm → (Option Vl → Mm → Prop) → Prop) (K : Nat → Lc → List Vl → Mm → Prop) : Prop := ∀ {pc : Nat} {ls : Lc} {st : List Vl} {τ : Mm} {idx : Nat}, (decode cc pc = .ok (.getstatic idx, 3)) → (SLk own idx) → (K (pc + 3) ls (vR 1 0 :: st) τ) → K pc ls st τ
def M_nald (cc : ByteArray) (own : String) (Cal : Nat → List Vl → Mm → (Option Vl → Mm → Prop) → Prop) (K : Nat → Lc → List Vl → Mm → Prop) : Prop := ∀ {pc : Nat} {ls : Lc} {st : List Vl} {τ : Mm} {j : Int}, (decode cc pc = .ok (.iaload, 1)) → (0 ≤ j) → (j < 10) → (K (pc + 1) ls (vI (numF j) :: st) τ) → K pc ls (vI j :: vR 1 0 :: st) τ
def M_copy (cc : ByteArray) (own : String) (Cal : Nat → List Vl → Mm → (Option Vl → Mm → Prop) → Prop) (K : Nat → Lc → List Vl → Mm → Prop) : Prop := ∀ {pc : Nat} {ls : Lc} {st : List Vl} {τ : Mm} {k0 k1 : Nat} {i0 i1 sp dp n : Int} {n0 n1 idx : Nat}, (decode cc pc = .ok (.invokestatic idx, 3)) → (Cond.methodLink own idx arraycopyName ∈ gT ∧ Cond.native arraycopyName ∈ gT ∧ Cond.static arraycopyName ∈ gT ∧ Cond.initialized "java/lang/System" ∈ gT) → (kd k0 = (1, n0)) → (kd k1 = (1, n1)) → (0 ≤ sp) → (0 ≤ dp) → (0 ≤ n) → (sp + n ≤ (n0 : Int)) → (dp + n ≤ (n1 : Int)) → (csum st ≤ 8) → (K (pc + 3) ls st (cpy τ k0 i0 sp k1 i1 dp n)) → K pc ls (vI n :: vI dp :: vR k1 i1 :: vI sp :: vR k0 i0 :: st) τ
def M_inv (cc : ByteArray) (own : String) (Cal : Nat → List Vl → Mm → (Option Vl → Mm → Prop) → Prop) (K : Nat → Lc → List Vl → Mm → Prop) : Prop := ∀ {pc : Nat} {ls : Lc} {rest as : List Vl} {τ : Mm} {k idx M ci : Nat} {i : Int}, (decode cc pc = .ok (.invokevirtual idx, 3)) → (VLk own idx M) → (kd k = (0, ci)) → ((vwCl[ci]?).map (fun q => q.1) = some (my M).cls) → (as.length = mp M) → (csum (vR k i :: as) ≤ ml M) → (csum rest ≤ 8) → (Cal M (vR k i :: as) τ (fun r τ2 => K (pc + 3) ls (r.toList ++ rest) τ2)) → K pc ls (as.reverse ++ vR k i :: rest) τ
def M_ins (cc : ByteArray) (own : String) (Cal : Nat → List Vl → Mm → (Option Vl → Mm → Prop) → Prop) (K : Nat → Lc → List Vl → Mm → Prop) : Prop := ∀ {pc : Nat} {ls : Lc} {rest as : List Vl} {τ : Mm} {idx M : Nat}, (decode cc pc = .ok (.invokestatic idx, 3)) → (TLk own idx M) → (as.length = mp M) → (csum as ≤ ml M) → (csum rest ≤ 8) → (Cal M as τ (fun r τ2 => K (pc + 3) ls (r.toList ++ rest) τ2)) → K pc ls (as.reverse ++ rest) τ
def T_iret (cc : ByteArray) (ret : Option FieldType) (Post : Option Vl → Mm → Prop) (K : Nat → Lc → List Vl → Mm → Prop) : Prop := ∀ {pc : Nat} {ls : Lc} {τ : Mm} {a : Int}, (ret = some .int) → (decode cc pc = .ok (.ireturn, 1)) → (Post (some (vI a)) τ) → K pc ls [vI a] τ
def T_zret (cc : ByteArray) (ret : Option FieldType) (Post : Option Vl → Mm → Prop) (K : Nat → Lc → List Vl → Mm → Prop) : Prop := ∀ {pc : Nat} {ls : Lc} {τ : Mm} {a : Int}, (ret = some .boolean) → (decode cc pc = .ok (.ireturn, 1)) → (a = 0 ∨ a = 1) → (Post (some (vI a)) τ) → K pc ls [vI a] τ
def T_vret (cc : ByteArray) (ret : Option FieldType) (Post : Option Vl → Mm → Prop) (K : Nat → Lc → List Vl → Mm → Prop) : Prop := ∀ {pc : Nat} {ls : Lc} {τ : Mm}, (ret = none) → (decode cc pc = .ok (.return_, 1)) → (Post none τ) → K pc ls [] τ
def T_aret (cc : ByteArray) (ret : Option FieldType) (Post : Option Vl → Mm → Prop) (K : Nat → Lc → List Vl → Mm → Prop) : Prop := ∀ {pc : Nat} {ls : Lc} {τ : Mm} {n : String} {q : Option (Nat × Int)}, (ret = some (.object n)) → (decode cc pc = .ok (.areturn, 1)) → (Post (some (Sum.inr (Sum.inl q))) τ) → K pc ls [Sum.inr (Sum.inl q)] τ
def StpM (cc : ByteArray) (own : String) (Cal : Nat → List Vl → Mm → (Option Vl → Mm → Prop) → Prop) (K : Nat → Lc → List Vl → Mm → Prop) : Prop := StpC (fun _ => vld) rgF cc own K ∧ M_getI cc own Cal K ∧ M_getR cc own Cal K ∧ M_putI cc own Cal K ∧ M_putZ cc own Cal K ∧ M_iald cc own Cal K ∧ M_iast cc own Cal K ∧ M_aald cc own Cal K ∧ M_alen cc own Cal K ∧ M_sald cc own Cal K ∧ M_slen cc own Cal K ∧ M_nums cc own Cal K ∧ M_nald cc own Cal K ∧ M_copy cc own Cal K ∧ M_inv cc own Cal K ∧ M_ins cc own Cal K
def StpF (cc : ByteArray) (own : String) (ret : Option FieldType) (Cal : Nat → List Vl → Mm → (Option Vl → Mm → Prop) → Prop) (Post : Option Vl → Mm → Prop) (K : Nat → Lc → List Vl → Mm → Prop) : Prop := StpM cc own Cal K ∧ T_iret cc ret Post K ∧ T_zret cc ret Post K ∧ T_vret cc ret Post K ∧ T_aret cc ret Post K
section MROWS
variable {cc : ByteArray} {own : String} {ret : Option FieldType} {Cal : Nat → List Vl → Mm → (Option Vl → Mm → Prop) → Prop} {Post : Option Vl → Mm → Prop} {K : Nat → Lc → List Vl → Mm → Prop}
theorem m_getI (hK : StpM cc own Cal K) {pc : Nat} {ls : Lc} {st : List Vl} {τ : Mm} {k : Nat} {i jz : Int} {idx ci j : Nat} {ty : FieldType} (hd : decode cc pc = .ok (.getfield idx, 3)) (hf : FLk own idx ci j ty) (hk : kd k = (0, ci)) (hr : rff k i j = none) (hz : (j : Int) = jz) (k_ : K (pc + 3) ls (vI (τ k i jz) :: st) τ) : K pc ls (vR k i :: st) τ := hK.2.1 hd hf hk hr hz k_
theorem m_getR (hK : StpM cc own Cal K) {pc : Nat} {ls : Lc} {st : List Vl} {τ : Mm} {k : Nat} {i : Int} {idx ci j : Nat} {ty : FieldType} {q : Nat × Int} (hd : decode cc pc = .ok (.getfield idx, 3)) (hf : FLk own idx ci j ty) (hk : kd k = (0, ci)) (hr : rff k i j = some q) (hv : vld q) (k_ : K (pc + 3) ls (Sum.inr (Sum.inl (some q)) :: st) τ) : K pc ls (vR k i :: st) τ := hK.2.2.1 hd hf hk hr hv k_
theorem m_putI (hK : StpM cc own Cal K) {pc : Nat} {ls : Lc} {st : List Vl} {τ : Mm} {k : Nat} {i a jz : Int} {idx ci j : Nat} (hd : decode cc pc = .ok (.putfield idx, 3)) (hf : FLw own idx ci j .int) (hk : kd k = (0, ci)) (hr : rff k i j = none) (hz : (j : Int) = jz) (k_ : K (pc + 3) ls st (mu τ k i jz a)) : K pc ls (vI a :: vR k i :: st) τ := hK.2.2.2.1 hd hf hk hr hz k_
theorem m_putZ (hK : StpM cc own Cal K) {pc : Nat} {ls : Lc} {st : List Vl} {τ : Mm} {k : Nat} {i a jz : Int} {idx ci j : Nat} (hd : decode cc pc = .ok (.putfield idx, 3)) (hf : FLw own idx ci j .boolean) (hk : kd k = (0, ci)) (hr : rff k i j = none) (hz : (j : Int) = jz) (ha : a = 0 ∨ a = 1) (k_ : K (pc + 3) ls st (mu τ k i jz a)) : K pc ls (vI a :: vR k i :: st) τ := hK.2.2.2.2.1 hd hf hk hr hz ha k_
theorem m_iald (hK : StpM cc own Cal K) {pc : Nat} {ls : Lc} {st : List Vl} {τ : Mm} {k : Nat} {i j : Int} {n : Nat} (hd : decode cc pc = .ok (.iaload, 1)) (hk : kd k = (1, n)) (h0 : 0 ≤ j) (h1 : j < (n : Int)) (k_ : K (pc + 1) ls (vI (τ k i j) :: st) τ) : K pc ls (vI j :: vR k i :: st) τ := hK.2.2.2.2.2.1 hd hk h0 h1 k_
theorem m_iast (hK : StpM cc own Cal K) {pc : Nat} {ls : Lc} {st : List Vl} {τ : Mm} {k : Nat} {i j a : Int} {n : Nat} (hd : decode cc pc = .ok (.iastore, 1)) (hk : kd k = (1, n)) (h0 : 0 ≤ j) (h1 : j < (n : Int)) (k_ : K (pc + 1) ls st (mu τ k i j a)) : K pc ls (vI a :: vI j :: vR k i :: st) τ := hK.2.2.2.2.2.2.1 hd hk h0 h1 k_
theorem m_aald (hK : StpM cc own Cal K) {pc : Nat} {ls : Lc} {st : List Vl} {τ : Mm} {k : Nat} {i j : Int} {t n : Nat} (hd : decode cc pc = .ok (.aaload, 1)) (hk : kd k = (t + 2, n)) (ht : t < 4) (h0 : 0 ≤ j) (h1 : j < (n : Int)) (hv : vld (rfa k j)) (k_ : K (pc + 1) ls (Sum.inr (Sum.inl (some (rfa k j))) :: st) τ) : K pc ls (vI j :: vR k i :: st) τ := hK.2.2.2.2.2.2.2.1 hd hk ht h0 h1 hv k_
theorem m_alen (hK : StpM cc own Cal K) {pc : Nat} {ls : Lc} {st : List Vl} {τ : Mm} {k : Nat} {i nz : Int} {n : Nat} (hd : decode cc pc = .ok (.arraylength, 1)) (hk : kd k = (1, n)) (hz : (n : Int) = nz) (hn : n < 2147483648) (k_ : K (pc + 1) ls (vI nz :: st) τ) : K pc ls (vR k i :: st) τ := hK.2.2.2.2.2.2.2.2.1 hd hk hz hn k_
theorem m_sald (hK : StpM cc own Cal K) {pc : Nat} {ls : Lc} {st : List Vl} {τ : Mm} {j : Int} (hd : decode cc pc = .ok (.iaload, 1)) (h0 : 0 ≤ j) (h1 : j < τ 0 0 (-1)) (k_ : K (pc + 1) ls (vI (τ 0 0 j) :: st) τ) : K pc ls (vI j :: vR 0 0 :: st) τ := hK.2.2.2.2.2.2.2.2.2.1 hd h0 h1 k_
theorem m_slen (hK : StpM cc own Cal K) {pc : Nat} {ls : Lc} {st : List Vl} {τ : Mm} (hd : decode cc pc = .ok (.arraylength, 1)) (k_ : K (pc + 1) ls (vI (τ 0 0 (-1)) :: st) τ) : K pc ls (vR 0 0 :: st) τ := hK.2.2.2.2.2.2.2.2.2.2.1 hd k_
theorem m_nums (hK : StpM cc own Cal K) {pc : Nat} {ls : Lc} {st : List Vl} {τ : Mm} {idx : Nat} (hd : decode cc pc = .ok (.getstatic idx, 3)) (hl : SLk own idx) (k_ : K (pc + 3) ls (vR 1 0 :: st) τ) : K pc ls st τ := hK.2.2.2.2.2.2.2.2.2.2.2.1 hd hl k_
theorem m_nald (hK : StpM cc own Cal K) {pc : Nat} {ls : Lc} {st : List Vl} {τ : Mm} {j : Int} (hd : decode cc pc = .ok (.iaload, 1)) (h0 : 0 ≤ j) (h1 : j < 10) (k_ : K (pc + 1) ls (vI (numF j) :: st) τ) : K pc ls (vI j :: vR 1 0 :: st) τ := hK.2.2.2.2.2.2.2.2.2.2.2.2.1 hd h0 h1 k_
theorem m_copy (hK : StpM cc own Cal K) {pc : Nat} {ls : Lc} {st : List Vl} {τ : Mm} {k0 k1 : Nat} {i0 i1 sp dp n : Int} {n0 n1 idx : Nat} (hd : decode cc pc = .ok (.invokestatic idx, 3)) (hl : Cond.methodLink own idx arraycopyName ∈ gT ∧ Cond.native arraycopyName ∈ gT ∧ Cond.static arraycopyName ∈ gT ∧ Cond.initialized "java/lang/System" ∈ gT) (hk0 : kd k0 = (1, n0)) (hk1 : kd k1 = (1, n1)) (h1 : 0 ≤ sp) (h2 : 0 ≤ dp) (h3 : 0 ≤ n) (h4 : sp + n ≤ (n0 : Int)) (h5 : dp + n ≤ (n1 : Int)) (hst : csum st ≤ 8) (k_ : K (pc + 3) ls st (cpy τ k0 i0 sp k1 i1 dp n)) : K pc ls (vI n :: vI dp :: vR k1 i1 :: vI sp :: vR k0 i0 :: st) τ := hK.2.2.2.2.2.2.2.2.2.2.2.2.2.1 hd hl hk0 hk1 h1 h2 h3 h4 h5 hst k_
theorem m_inv (hK : StpM cc own Cal K) {pc : Nat} {ls : Lc} {rest as : List Vl} {τ : Mm} {k idx M ci : Nat} {i : Int} (hd : decode cc pc = .ok (.invokevirtual idx, 3)) (hl : VLk own idx M) (hk : kd k = (0, ci)) (hn : (vwCl[ci]?).map (fun q => q.1) = some (my M).cls) (hlen : as.length = mp M) (hcs : csum (vR k i :: as) ≤ ml M) (hst : csum rest ≤ 8) (k_ : Cal M (vR k i :: as) τ (fun r τ2 => K (pc + 3) ls (r.toList ++ rest) τ2)) : K pc ls (as.reverse ++ vR k i :: rest) τ := hK.2.2.2.2.2.2.2.2.2.2.2.2.2.2.1 hd hl hk hn hlen hcs hst k_
theorem m_ins (hK : StpM cc own Cal K) {pc : Nat} {ls : Lc} {rest as : List Vl} {τ : Mm} {idx M : Nat} (hd : decode cc pc = .ok (.invokestatic idx, 3)) (hl : TLk own idx M) (hlen : as.length = mp M) (hcs : csum as ≤ ml M) (hst : csum rest ≤ 8) (k_ : Cal M as τ (fun r τ2 => K (pc + 3) ls (r.toList ++ rest) τ2)) : K pc ls (as.reverse ++ rest) τ := hK.2.2.2.2.2.2.2.2.2.2.2.2.2.2.2 hd hl hlen hcs hst k_
theorem t_iret (hK : StpF cc own ret Cal Post K) {pc : Nat} {ls : Lc} {τ : Mm} {a : Int} (hr : ret = some .int) (hd : decode cc pc = .ok (.ireturn, 1)) (hp : Post (some (vI a)) τ) : K pc ls [vI a] τ := hK.2.1 hr hd hp
theorem t_zret (hK : StpF cc own ret Cal Post K) {pc : Nat} {ls : Lc} {τ : Mm} {a : Int} (hr : ret = some .boolean) (hd : decode cc pc = .ok (.ireturn, 1)) (ha : a = 0 ∨ a = 1) (hp : Post (some (vI a)) τ) : K pc ls [vI a] τ := hK.2.2.1 hr hd ha hp
theorem t_vret (hK : StpF cc own ret Cal Post K) {pc : Nat} {ls : Lc} {τ : Mm} (hr : ret = none) (hd : decode cc pc = .ok (.return_, 1)) (hp : Post none τ) : K pc ls [] τ := hK.2.2.2.1 hr hd hp
theorem t_aret (hK : StpF cc own ret Cal Post K) {pc : Nat} {ls : Lc} {τ : Mm} {n : String} {q : Option (Nat × Int)} (hr : ret = some (.object n)) (hd : decode cc pc = .ok (.areturn, 1)) (hp : Post (some (Sum.inr (Sum.inl q))) τ) : K pc ls [Sum.inr (Sum.inl q)] τ := hK.2.2.2.2 hr hd hp
theorem m_inv0 (hK : StpM cc own Cal K) {pc : Nat} {ls : Lc} {rest : List Vl} {τ : Mm} {k idx M ci : Nat} {i : Int} (hd : decode cc pc = .ok (.invokevirtual idx, 3)) (hl : VLk own idx M) (hk : kd k = (0, ci)) (hn : (vwCl[ci]?).map (fun q => q.1) = some (my M).cls) (hlen : (0 : Nat) = mp M) (hcs : csum (vR k i :: []) ≤ ml M) (hst : csum rest ≤ 8) (k_ : Cal M (vR k i :: []) τ (fun r τ2 => K (pc + 3) ls (r.toList ++ rest) τ2)) : K pc ls (vR k i :: rest) τ := m_inv hK (as := []) hd hl hk hn hlen hcs hst k_
theorem m_inv1 (hK : StpM cc own Cal K) {pc : Nat} {ls : Lc} {rest : List Vl} {τ : Mm} {k idx M ci : Nat} {i : Int} {a1 : Vl} (hd : decode cc pc = .ok (.invokevirtual idx, 3)) (hl : VLk own idx M) (hk : kd k = (0, ci)) (hn : (vwCl[ci]?).map (fun q => q.1) = some (my M).cls) (hlen : (1 : Nat) = mp M) (hcs : csum (vR k i :: [a1]) ≤ ml M) (hst : csum rest ≤ 8) (k_ : Cal M (vR k i :: [a1]) τ (fun r τ2 => K (pc + 3) ls (r.toList ++ rest) τ2)) : K pc ls (a1 :: vR k i :: rest) τ := m_inv hK (as := [a1]) hd hl hk hn hlen hcs hst k_
theorem m_ins1 (hK : StpM cc own Cal K) {pc : Nat} {ls : Lc} {rest : List Vl} {τ : Mm} {idx M : Nat} {a1 : Vl} (hd : decode cc pc = .ok (.invokestatic idx, 3)) (hl : TLk own idx M) (hlen : (1 : Nat) = mp M) (hcs : csum [a1] ≤ ml M) (hst : csum rest ≤ 8) (k_ : Cal M [a1] τ (fun r τ2 => K (pc + 3) ls (r.toList ++ rest) τ2)) : K pc ls (a1 :: rest) τ := m_ins hK (as := [a1]) hd hl hlen hcs hst k_
theorem m_inv2 (hK : StpM cc own Cal K) {pc : Nat} {ls : Lc} {rest : List Vl} {τ : Mm} {k idx M ci : Nat} {i : Int} {a1 a2 : Vl} (hd : decode cc pc = .ok (.invokevirtual idx, 3)) (hl : VLk own idx M) (hk : kd k = (0, ci)) (hn : (vwCl[ci]?).map (fun q => q.1) = some (my M).cls) (hlen : (2 : Nat) = mp M) (hcs : csum (vR k i :: [a1, a2]) ≤ ml M) (hst : csum rest ≤ 8) (k_ : Cal M (vR k i :: [a1, a2]) τ (fun r τ2 => K (pc + 3) ls (r.toList ++ rest) τ2)) : K pc ls (a2 :: a1 :: vR k i :: rest) τ := m_inv hK (as := [a1, a2]) hd hl hk hn hlen hcs hst k_
theorem m_ins2 (hK : StpM cc own Cal K) {pc : Nat} {ls : Lc} {rest : List Vl} {τ : Mm} {idx M : Nat} {a1 a2 : Vl} (hd : decode cc pc = .ok (.invokestatic idx, 3)) (hl : TLk own idx M) (hlen : (2 : Nat) = mp M) (hcs : csum [a1, a2] ≤ ml M) (hst : csum rest ≤ 8) (k_ : Cal M [a1, a2] τ (fun r τ2 => K (pc + 3) ls (r.toList ++ rest) τ2)) : K pc ls (a2 :: a1 :: rest) τ := m_ins hK (as := [a1, a2]) hd hl hlen hcs hst k_
theorem m_inv3 (hK : StpM cc own Cal K) {pc : Nat} {ls : Lc} {rest : List Vl} {τ : Mm} {k idx M ci : Nat} {i : Int} {a1 a2 a3 : Vl} (hd : decode cc pc = .ok (.invokevirtual idx, 3)) (hl : VLk own idx M) (hk : kd k = (0, ci)) (hn : (vwCl[ci]?).map (fun q => q.1) = some (my M).cls) (hlen : (3 : Nat) = mp M) (hcs : csum (vR k i :: [a1, a2, a3]) ≤ ml M) (hst : csum rest ≤ 8) (k_ : Cal M (vR k i :: [a1, a2, a3]) τ (fun r τ2 => K (pc + 3) ls (r.toList ++ rest) τ2)) : K pc ls (a3 :: a2 :: a1 :: vR k i :: rest) τ := m_inv hK (as := [a1, a2, a3]) hd hl hk hn hlen hcs hst k_
theorem m_ins3 (hK : StpM cc own Cal K) {pc : Nat} {ls : Lc} {rest : List Vl} {τ : Mm} {idx M : Nat} {a1 a2 a3 : Vl} (hd : decode cc pc = .ok (.invokestatic idx, 3)) (hl : TLk own idx M) (hlen : (3 : Nat) = mp M) (hcs : csum [a1, a2, a3] ≤ ml M) (hst : csum rest ≤ 8) (k_ : Cal M [a1, a2, a3] τ (fun r τ2 => K (pc + 3) ls (r.toList ++ rest) τ2)) : K pc ls (a3 :: a2 :: a1 :: rest) τ := m_ins hK (as := [a1, a2, a3]) hd hl hlen hcs hst k_
theorem m_inv4 (hK : StpM cc own Cal K) {pc : Nat} {ls : Lc} {rest : List Vl} {τ : Mm} {k idx M ci : Nat} {i : Int} {a1 a2 a3 a4 : Vl} (hd : decode cc pc = .ok (.invokevirtual idx, 3)) (hl : VLk own idx M) (hk : kd k = (0, ci)) (hn : (vwCl[ci]?).map (fun q => q.1) = some (my M).cls) (hlen : (4 : Nat) = mp M) (hcs : csum (vR k i :: [a1, a2, a3, a4]) ≤ ml M) (hst : csum rest ≤ 8) (k_ : Cal M (vR k i :: [a1, a2, a3, a4]) τ (fun r τ2 => K (pc + 3) ls (r.toList ++ rest) τ2)) : K pc ls (a4 :: a3 :: a2 :: a1 :: vR k i :: rest) τ := m_inv hK (as := [a1, a2, a3, a4]) hd hl hk hn hlen hcs hst k_
theorem m_ins4 (hK : StpM cc own Cal K) {pc : Nat} {ls : Lc} {rest : List Vl} {τ : Mm} {idx M : Nat} {a1 a2 a3 a4 : Vl} (hd : decode cc pc = .ok (.invokestatic idx, 3)) (hl : TLk own idx M) (hlen : (4 : Nat) = mp M) (hcs : csum [a1, a2, a3, a4] ≤ ml M) (hst : csum rest ≤ 8) (k_ : Cal M [a1, a2, a3, a4] τ (fun r τ2 => K (pc + 3) ls (r.toList ++ rest) τ2)) : K pc ls (a4 :: a3 :: a2 :: a1 :: rest) τ := m_ins hK (as := [a1, a2, a3, a4]) hd hl hlen hcs hst k_
theorem m_inv5 (hK : StpM cc own Cal K) {pc : Nat} {ls : Lc} {rest : List Vl} {τ : Mm} {k idx M ci : Nat} {i : Int} {a1 a2 a3 a4 a5 : Vl} (hd : decode cc pc = .ok (.invokevirtual idx, 3)) (hl : VLk own idx M) (hk : kd k = (0, ci)) (hn : (vwCl[ci]?).map (fun q => q.1) = some (my M).cls) (hlen : (5 : Nat) = mp M) (hcs : csum (vR k i :: [a1, a2, a3, a4, a5]) ≤ ml M) (hst : csum rest ≤ 8) (k_ : Cal M (vR k i :: [a1, a2, a3, a4, a5]) τ (fun r τ2 => K (pc + 3) ls (r.toList ++ rest) τ2)) : K pc ls (a5 :: a4 :: a3 :: a2 :: a1 :: vR k i :: rest) τ := m_inv hK (as := [a1, a2, a3, a4, a5]) hd hl hk hn hlen hcs hst k_
theorem m_ins5 (hK : StpM cc own Cal K) {pc : Nat} {ls : Lc} {rest : List Vl} {τ : Mm} {idx M : Nat} {a1 a2 a3 a4 a5 : Vl} (hd : decode cc pc = .ok (.invokestatic idx, 3)) (hl : TLk own idx M) (hlen : (5 : Nat) = mp M) (hcs : csum [a1, a2, a3, a4, a5] ≤ ml M) (hst : csum rest ≤ 8) (k_ : Cal M [a1, a2, a3, a4, a5] τ (fun r τ2 => K (pc + 3) ls (r.toList ++ rest) τ2)) : K pc ls (a5 :: a4 :: a3 :: a2 :: a1 :: rest) τ := m_ins hK (as := [a1, a2, a3, a4, a5]) hd hl hlen hcs hst k_
end MROWS
section MSND
variable {ad : Nat → Int → Nat} {cI : ClassId} {cR : Nat → ClassId} {D : va_G} {scr num : Cell} {nc ns : Nat}
variable {p : Program} {l : Launch} {e : Env} {R : Room} {s : State} {m : MethodId} {args : Array Value} {below : List Frame} {meth : Method} {c : Code} {A : Nat → Prop} {Q : State → Prop} {nL : Nat} {cc : ByteArray} {own : String}
theorem stpM_Gf (CX : Cx p s m args meth c cc own nL) (CY : CF ad cI cR D scr num A s) {d : Nat} (hR : d + 1 ≤ R.frames ∧ 40 * (d + 1) ≤ R.locals) (hC0 : nc ≤ R.cells ∧ ns ≤ R.slots) {Cal : Nat → List Vl → Mm → (Option Vl → Mm → Prop) → Prop}
    (hCal : ∀ (M : Nat) (as : List Vl) (τ : Mm) (Post : Option Vl → Mm → Prop), Cal M as τ Post → csum as ≤ ml M → MOK M → Met l (my M) (wsM M) (rmd d) (Pcm ad cI cR D scr num A as τ) (Qcm ad cI cR D scr A Post) 0 0 A) :
    StpM cc own Cal (Gf ad cI cR D scr nc ns p l e R s m args below meth c A Q nL) := by
  have hR1 : 1 ≤ R.frames ∧ 40 ≤ R.locals := ⟨by omega, by omega⟩
  refine ⟨stpC_Gm CX, ?_, ?_, ?_, ?_, ?_, ?_, ?_, ?_, ?_, ?_, ?_, ?_, ?_, ?_, ?_⟩
  · intro pc ls st τ k i jz idx ci j ty hd hf hk hr hz k_
    exact by subst hz; exact gf_get CX CY hd hf hk (fun q h => by rw [hr] at h; cases h) (by unfold fval; rw [hr]; exact k_)
  · intro pc ls st τ k i idx ci j ty q hd hf hk hr hv k_
    exact gf_get CX CY hd hf hk (fun q2 h => by rw [hr] at h; cases h; exact hv) (by unfold fval; rw [hr]; exact k_)
  · intro pc ls st τ k i a jz idx ci j hd hf hk hr hz k_
    exact gf_put CX CY hd hf hk hr hz rfl rfl k_
  · intro pc ls st τ k i a jz idx ci j hd hf hk hr hz ha k_
    exact gf_put CX CY hd hf hk hr hz (by rcases ha with rfl | rfl <;> rfl) (by rcases ha with rfl | rfl <;> rfl) k_
  · intro pc ls st τ k i j n hd hk h0 h1 k_
    exact gf_iald CX CY hd hk h0 h1 k_
  · intro pc ls st τ k i j a n hd hk h0 h1 k_
    exact gf_iast CX CY hd hk h0 h1 k_
  · intro pc ls st τ k i j t n hd hk ht h0 h1 hv k_
    exact gf_aald CX CY hd hk ht h0 h1 hv k_
  · intro pc ls st τ k i nz n hd hk hz hn k_
    exact gf_alen CX CY hd hk hz hn k_
  · intro pc ls st τ j hd h0 h1 k_
    exact gf_sald CX CY hd h0 h1 k_
  · intro pc ls st τ hd k_
    exact gf_slen CX CY hd k_
  · intro pc ls st τ idx hd hl k_
    exact gf_nums CX CY hd hl k_
  · intro pc ls st τ j hd h0 h1 k_
    exact gf_nald CX CY hd h0 h1 k_
  · intro pc ls st τ k0 k1 i0 i1 sp dp n n0 n1 idx hd hl hk0 hk1 h1 h2 h3 h4 h5 hst k_
    exact gf_copy CX CY hR1 hd hl hk0 hk1 h1 h2 h3 h4 h5 hst k_
  · intro pc ls rest as τ k idx M ci i hd hl hk hn hlen hcs hst k_
    exact gf_inv CX CY hR hC0 hCal hd hl hk hn hlen hcs hst k_
  · intro pc ls rest as τ idx M hd hl hlen hcs hst k_
    exact gf_ins CX CY hR hC0 hCal hd hl hlen hcs hst k_
theorem stpF_Gf (CX : Cx p s m args meth c cc own nL) (CY : CF ad cI cR D scr num A s) {d : Nat} (hR : d + 1 ≤ R.frames ∧ 40 * (d + 1) ≤ R.locals) {Cal : Nat → List Vl → Mm → (Option Vl → Mm → Prop) → Prop}
    (hCal : ∀ (M : Nat) (as : List Vl) (τ : Mm) (Post : Option Vl → Mm → Prop), Cal M as τ Post → csum as ≤ ml M → MOK M → Met l (my M) (wsM M) (rmd d) (Pcm ad cI cR D scr num A as τ) (Qcm ad cI cR D scr A Post) 0 0 A) {ret : Option FieldType} (hret : meth.sig.returnType = ret) {Post : Option Vl → Mm → Prop} :
    StpF cc own ret Cal Post (Gf ad cI cR D scr 0 0 p l e R s m args below meth c A (MQ below (Qcm ad cI cR D scr A Post) args s 0 0 A) nL) := by
  refine ⟨stpM_Gf CX CY hR ⟨Nat.zero_le _, Nat.zero_le _⟩ hCal, ?_, ?_, ?_, ?_⟩
  · intro pc ls τ a hr hd hp
    exact gf_iret CX (hret.trans hr) hd hp
  · intro pc ls τ a hr hd ha hp
    exact gf_zret CX (hret.trans hr) hd ha hp
  · intro pc ls τ hr hd hp
    exact gf_vret CX (hret.trans hr) hd hp
  · intro pc ls τ n q hr hd hp
    exact gf_aret CX (hret.trans hr) hd hp
end MSND
/-- what method M comes to, called with 'as' in memory τ, calls at most d deep -/
def WP : Nat → Nat → List Vl → Mm → (Option Vl → Mm → Prop) → Prop
  | 0, _, _, _, _ => False
  | d + 1, M, as, τ, Post => ∀ K : Nat → Lc → List Vl → Mm → Prop, StpF (mb M) (my M).cls (mr M) (WP d) Post K → K 0 (ent (ml M) as) [] τ
theorem Met.ofWF {l : Launch} {y : MethodName} {ws ws' : List Cond} {rm : Room} {Pc : Array Value → State → Prop} {Qc : Array Value → State → Outcome → State → Prop} {mc ms : Nat} {free : Addr → Prop} {cc : ByteArray} {maxL : Nat} {ret : Option FieldType}
    (hy : plainFor y = true) (hw : ws = Cond.code y cc maxL ret :: ws')
    (body : ∀ p e s m args below meth c s₁, BodyLoose p l y (headSpec ws rm) cc maxL ret e s m args below meth c s₁ → c.maxLocals = maxL → Pc args s →
      W p l e (headSpec ws rm).room s m args below meth c s.heap [] 0 0 (MQ below Qc args s mc ms free) (entryFrame m args maxL)) : Met l y ws rm Pc Qc mc ms free := by
  refine MetFree.of_bodySF (code := cc) (maxLocals := maxL) (ret := ret) hy ?_ ?_
  · intro args s m h hn
    obtain ⟨meth, c, h1, h2, h3, h4, h5, h6, -, -⟩ := Cond.code_spec hn (atoms_spec (ws := ws) h _ (by rw [hw]; exact List.mem_cons_self))
    exact ⟨meth, c, h1, h2, h3, h4, h5, h6⟩
  · intro p e s m args below meth c s₁ B hml hP _
    have hh0 : s₁.heap = s.heap := by rw [B.state]; rfl
    obtain ⟨t, a1, o, b1, b2, b3⟩ := body p e s m args below meth c s₁ B hml hP s₁ hh0 (Stand.of_body B)
    exact ⟨t, o, a1, b1, b2, ⟨b3.1, b3.2⟩⟩
theorem WP_met {ad : Nat → Int → Nat} {cI : ClassId} {cR : Nat → ClassId} {D : va_G} {scr num : Cell} {l : Launch} {A : Nat → Prop} : ∀ (d M : Nat) (as : List Vl) (τ : Mm) (Post : Option Vl → Mm → Prop), WP d M as τ Post → csum as ≤ ml M → MOK M → Met l (my M) (wsM M) (rmd d) (Pcm ad cI cR D scr num A as τ) (Qcm ad cI cR D scr A Post) 0 0 A
  | 0, _, _, _, _, h, _, _ => h.elim
  | d + 1, M, as, τ, Post, h, hcs, hmok => by
    refine Met.ofWF (cc := mb M) (maxL := ml M) (ret := mr M) hmok.2.2.2.2.2 rfl ?_
    intro p e s m args below meth c s₁ B hml hv
    obtain ⟨rfl, hrs, hWf, hCF, hN, hrg⟩ := hv
    have CX : Cx p s m (as.map (mv ad)).toArray meth c (mb M) (my M).cls (ml M) := ⟨B.exec, B.bytes, hml, findClass_of_methodNamed B.named, fun w hw => atoms_spec (ws := wsM M) B.pre w (List.mem_cons_of_mem _ hw), hN, B.notSynchronized⟩
    rw [lg_entry_eq]
    exact h (Gf ad cI cR D scr 0 0 p l e (headSpec (wsM M) (rmd (d + 1))).room s m (as.map (mv ad)).toArray below meth c A (MQ below (Qcm ad cI cR D scr A Post) (as.map (mv ad)).toArray s 0 0 A) (ml M)) (stpF_Gf CX hCF (d := d) ⟨Nat.le_refl _, Nat.le_refl _⟩ (fun M as τ Post h h1 h2 => WP_met d M as τ Post h h1 h2) B.returns) hrg (fun v hv => ent_rng hrs v hv) rS_nil s.heap [] _ hWf va_S.rf (ent_ok ad as hcs)
