-- the law from its entry to its end
theorem law_from {K : Nat → Lc → List Vl → Mm → Prop} (hM : StpM cL_law RL (WP 11) K) (hEnd : ∀ (pc : Nat) (ls : Lc) (μ : Mm), decode cL_law pc = .ok (.ireturn, 1) → K pc ls [vI 1] μ) {L : Nat} {xs : Nat → Int32} (hL : L ≤ 3072) : K 16 [some (vR 0 0), some (vR 2 0), some (vR 30 0), none] [] (tN L xs) := by
  have hC := hM.1
  refine r_iconst hC dL_law_16 rfl ?_
  refine r_istore_n hC dL_law_17 rfl ?_
  have hz : tN L xs 0 0 (-1) = (L : Int) := rfl
  exact law_loop (d := 0) (S0 := tN L xs 0) (ka_Z hM) hEnd (by rw [hz]; omega) 3080 0 (tN L xs) (by omega) (by omega) rbN (by omega) (tN L xs) abN
set_option maxHeartbeats 4000000 in
theorem law_at {p : Program} {e : Env} {s : State} {m : MethodId} {below : List Frame} {meth : Method} {c : Code} (l : Launch) {b L nm : Nat} {xs : Nat → Int32} {D : va_G} {cI : ClassId} {cR : Nat → ClassId} {num : Cell} (hL : L ≤ 3072) (C0 : lw_At p s m meth c b L xs) (CT : CAt cI cR D s) (hZ : va_Z RX5 "NUMBERS" "[I" (.ref nm) (fun q : Nat => s.heap.size ≤ q) s s.heap)
    (hT : s.heap[nm]? = some num ∧ s.isArrayOf num .int ∧ num.vm ≠ .unknown ∧ 10 ≤ num.slots.size ∧ (∀ j : Nat, j < 10 → num.slots[j]? = some (.int (i3 (numF (j : Int))))) ∧ ¬ s.heap.size ≤ nm) : Ga s.heap.size 0 0 cI cR D [] p l e room_1 s m #[Value.ref b] below meth c (lw_Z below #[Value.ref b] s) 4 16 [some (vR 77 (b : Int)), some (vR 0 0), some (vR 0 70), none] [] LL := by
  obtain ⟨hx, hb, hr, hml, hown, hts, hX, hbl, hlocks, hgv⟩ := C0
  obtain ⟨scr, hX1, hX2, hX3, hX4, hX5⟩ := hX
  have CX : Cx p s m #[Value.ref b] meth c cL_law RL 4 := ⟨hx, hb, hml, hown, fun w hw => hts w (List.mem_filter.mp hw).1, CT.2.2.2.2.2, hlocks⟩
  have hbA : ¬ Af s.heap.size (adF s.heap.size b nm 0 0) := Nat.not_le.mpr hbl
  have CY : CF (adF s.heap.size b nm) cI cR D scr num (Af s.heap.size) s := ⟨CT.1, fun τ => wsT_D (fun q h => h), ⟨hX1, hbA, hX2, hX3⟩, ⟨hT.1, hT.2.2.2.2.2, hT.2.1, hT.2.2.1, hT.2.2.2.1, hT.2.2.2.2.1⟩, hZ⟩
  have hM : StpM cL_law RL (WP 11) (Gf (adF s.heap.size b nm) cI cR D scr (LL.length - 0) (szs LL - 0) p l e room_1 s m #[Value.ref b] below meth c (Af s.heap.size) (lw_Z below #[Value.ref b] s) 4) :=
    stpM_Gf CX CY (d := 11) ⟨Nat.le_of_ble_eq_true rfl, Nat.le_of_ble_eq_true rfl⟩ ⟨by decide +kernel, by decide +kernel⟩ (fun M as τ Post h h1 h2 => WP_met 11 M as τ Post h h1 h2)
  have hE : ∀ (pc : Nat) (ls : Lc) (μ : Mm), decode cL_law pc = .ok (.ireturn, 1) → (Gf (adF s.heap.size b nm) cI cR D scr (LL.length - 0) (szs LL - 0) p l e room_1 s m #[Value.ref b] below meth c (Af s.heap.size) (lw_Z below #[Value.ref b] s) 4) pc ls [vI 1] μ := fun pc ls μ hd => by
    intro g1 g2 g3 H locs lsA g4 g5 g6
    refine va_forget (fun q hq => g5.2.2 q hq) ?_
    refine W.widen (k := 600000) (n := 7302250) (show LL.length - 0 ≤ 600000 by decide +kernel) (show szs LL - 0 ≤ 7302250 by decide +kernel) ?_
    exact lw_ret hx hb hr hlocks hd
  have k := law_from (L := L) (xs := xs) hM hE hL
  intro g1 g2 g3 H locs lsA g4 g5 g6
  refine k (tN_rg hL) (fun v hv => ?_) rS_nil H locs lsA ⟨by rw [wsN]; exact wf_of g4.1, ?_, fun j hj => ?_⟩ g5 ⟨rfl, g6.2⟩
  · simp only [List.mem_cons, Option.some.injEq, List.not_mem_nil, or_false, reduceCtorEq] at hv
    rcases hv with rfl | rfl | rfl <;> exact ⟨by decide, by decide⟩
  · rw [hX4]
    rfl
  · rw [hX5 j (by omega)]
    show _ = some (Value.int (i3 (if ((j : Nat) : Int) = -1 then (L : Int) else (xs ((j : Nat) : Int).toNat).toInt)))
    rw [if_neg (by omega), Int.toNat_natCast, i3_of]
set_option maxHeartbeats 4000000 in
set_option maxRecDepth 100000 in
/-- THE LAW, from its entry -/
theorem whole_start {p : Program} {e : Env} {s : State} {m : MethodId} {below : List Frame} {meth : Method} {c : Code} (l : Launch) (hflags : l.flags = flags0) {b L : Nat} {xs : Nat → Int32} (hL : L ≤ 3072) (C0 : lw_At p s m meth c b L xs) : W p l e room_1 s m #[Value.ref b] below meth c s.heap [] 0 0 (lw_Z below #[Value.ref b] s) (entryFrame m ([Value.ref b] : List Value).toArray 4) := by
  obtain ⟨hx, hb, hr, hml, hown, hts, hX, hbl, hlocks, hgv⟩ := id C0
  obtain ⟨D, cI, cR, CT⟩ := world_of hts
  obtain ⟨nm, hZ, num, n1, n2, n3, n4, n5, n6, n7⟩ := nums_of hts hgv
  have CX : Cx p s m #[Value.ref b] meth c cL_law RL 4 := ⟨hx, hb, hml, hown, fun w hw => hts w (List.mem_filter.mp hw).1, CT.2.2.2.2.2, hlocks⟩
  have sw := law_at (p := p) (e := e) (below := below) l hL C0 CT hZ ⟨n1, n2, n3, n4, n6, n7⟩
  have hN : StpN cL_law RL meth.name [] 0 0 room_1.cells room_1.slots (WPA 11) (Ga s.heap.size 0 0 cI cR D [] p l e room_1 s m #[Value.ref b] below meth c (lw_Z below #[Value.ref b] s) 4) :=
    stpN_Ga CX CT rfl (d := 11) ⟨Nat.le_of_ble_eq_true rfl, Nat.le_of_ble_eq_true rfl⟩ (Nat.le_refl _) (Nat.le_refl _) (fun M as pre l0 mc ms Post h h1 h2 h3 => WPA_met 11 M as pre l0 mc ms Post h h1 h2 h3)
  generalize hK : Ga s.heap.size 0 0 cI cR D [] p l e room_1 s m #[Value.ref b] below meth c (lw_Z below #[Value.ref b] s) 4 = K at sw hN
  have h0 : K 0 [some (vR 77 (b : Int)), none, none, none] [] [] := by
    refine n_new (q := 0) hN dL_law_0 nl_RL_7 (by decide +kernel) (by decide +kernel) rfl ?_
    refine r_dup hN.1 dL_law_3 rfl ?_
    refine n_call (as := []) (l1 := []) (l0 := [(0, 5, dfl 5)]) (mc := 69) (ms := 4065) hN dL_law_4 il_RL_9 rfl (Nat.le_of_ble_eq_true rfl) (Nat.le_of_ble_eq_true rfl) (by decide +kernel) (by decide +kernel) ?_
    refine i_Slide (d := 8) rfl ?_
    show K _ _ _ LC
    refine r_astore_n hN.1 dL_law_7 rfl ?_
    show K _ [_, _, _, _] _ _
    refine n_new (q := 70) hN dL_law_8 nl_RL_10 (by decide +kernel) (by decide +kernel) (by decide +kernel) ?_
    refine r_dup hN.1 dL_law_11 rfl ?_
    refine n_call (as := []) (l1 := LC) (l0 := [(0, 6, dfl 6)]) (mc := 22) (ms := 19034) hN dL_law_12 il_RL_12 rfl (Nat.le_of_ble_eq_true rfl) (Nat.le_of_ble_eq_true rfl) (by decide +kernel) (by decide +kernel) ?_
    refine i_Model (d := 10) (q := 70) (by decide +kernel) ?_
    show K _ _ _ LL
    refine r_astore_n hN.1 dL_law_15 rfl ?_
    exact sw
  subst hK
  rw [lg_entry_eq]
  exact h0 ⟨Nat.le_refl _, Nat.le_refl _⟩ (fun v hv => by
    simp only [List.mem_cons, Option.some.injEq, List.not_mem_nil, or_false, reduceCtorEq] at hv
    rcases hv with rfl
    exact Or.inl rfl) rS_nil s.heap [] _ ⟨fun k q h => by simp [wsA] at h, rfl⟩ va_S.rf (ent_ok (adA s.heap.size) [vR 77 (b : Int)] (n := 4) (Nat.le_of_ble_eq_true rfl))
-- ===== YOUR PART ENDS =====
set_option maxHeartbeats 4000000 in
theorem lw_walk (l : Launch) (hflags : l.flags = flags0) (b : Addr) (xs : List Int32) : MetFree l x (headSpec (Jvm.Cond.code x code maxLocals ret :: tables_1) room_1) (lw_P b xs) (fun _ _ _ _ _ => True) lw_Q := by
  refine MetFree.of_bodyS (code := code) (maxLocals := maxLocals) (ret := ret) (by decide) ?_ ?_
  · intro args s m h hn
    obtain ⟨meth, c, h1, h2, h3, h4, h5, h6, -, -⟩ := Cond.code_spec hn (atoms_spec (ws := Jvm.Cond.code x code maxLocals ret :: tables_1) h _ List.mem_cons_self)
    exact ⟨meth, c, h1, h2, h3, h4, h5, h6⟩
  · intro p e s m args below meth c s₁ B hml0 hP _
    obtain ⟨rfl, hx, hbd, hgv⟩ := hP
    obtain ⟨scr, harrAt, hlist, hof, hsmall⟩ := hx
    obtain ⟨hcb, hkn, -, -⟩ := State.arrayAt?_spec harrAt
    have hown : s.vm.findClass R_law = some m.cls := findClass_of_methodNamed B.named
    have hts0 : ∀ c ∈ (Jvm.Cond.code x code maxLocals ret :: tables_1), c.before #[Value.ref b] s = true := atoms_spec (ws := Jvm.Cond.code x code maxLocals ret :: tables_1) B.pre
    have hts : ∀ w ∈ lw_tbl, w.before #[Value.ref b] s = true := k2_hts_sels lw_privs (fun w hw => hts0 w (List.mem_cons_of_mem _ hw)) lw_privs_ok
    have hml : c.maxLocals = 4 := B.maxLocals_eq (hts0 _ List.mem_cons_self)
    have X₀ : Stand p l e room_1 s m #[Value.ref b] below meth c s₁ [] 0 0 := Stand.of_body B
    have hh0 : s₁.heap = s.heap := by rw [B.state]; rfl
    have hsz : scr.slots.size = xs.length := by rw [← Array.length_toList, hlist, List.length_map]
    have hval : ∀ j : Nat, j < xs.length → scr.slots[j]? = some (.int (xs.getD j 0)) := fun j hj => by
      rw [← Array.getElem?_toList, hlist]
      simp [hj]
    have hbl : b < s.heap.size := (Array.getElem?_eq_some_iff.mp hcb).1
    have hX : va_X b xs.length (fun j => xs.getD j 0) s s.heap := ⟨scr, hcb, hof, hkn, hsz, hval⟩
    have K : W p l e room_1 s m #[Value.ref b] below meth c s₁.heap [] 0 0 (lw_Z below #[Value.ref b] s) (entryFrame m ([Value.ref b] : List Value).toArray 4) := by
      rw [hh0]
      exact whole_start l hflags hbd ⟨B.exec, B.bytes, B.returns, hml, hown, hts, hX, hbl, B.notSynchronized, hgv⟩
    obtain ⟨t, a1, o, b1, b2, b3⟩ := K s₁ rfl X₀
    exact ⟨t, o, a1, b1, b2, b3⟩
theorem lw_pre_spec {args : Array Value} {s : State} (h : (Jvm.Cond.and given_1 narrow_1).before args s = true) (hr : rest_1_c.before args s = true) : ∃ (b : Addr) (xs : List Int32), lw_P b xs args s := by
  have hs := flat_of_before _ h
  have hq := flat_of_before _ hr
  have hc : (Cond.count 1).before args s = true := hs _ (by decide +kernel)
  have harr : (Cond.arrayOf (.arg 0) .int).before args s = true := hs _ (by decide +kernel)
  have hle : (Cond.le (.length (.arg 0)) (.int 3072)).before args s = true := hs _ (by decide +kernel)
  have hlen : (Cond.isInt (.length (.arg 0))).before args s = true := hq _ (by decide +kernel)
  have hall : (Cond.all (.arg 0) (.isInt (.elem (.arg 0) (.index 0)))).before args s = true := hq _ (by decide +kernel)
  obtain ⟨b, xs, hb, hx⟩ := State.ints_of_pre rfl harr hlen hall
  have hsm : xs.length < 2 ^ 31 := hx.choose_spec.2.2.2
  have hev : (Term.length (.arg 0)).eval args s none [] s = some (.int xs.length.toInt32) := hx.length_eval hb
  have hv := Cond.le_ints hev (show (Term.int 3072).eval args s none [] s = some (.int 3072) from rfl)
  have hd : xs.length.toInt32 ≤ 3072 := by
    simpa [Cond.before, Cond.holds, hv] using hle
  have hN : xs.length ≤ 3072 := (Int32.ofNat_le_ofNat hsm (by decide)).mp (show Int32.ofNat xs.length ≤ Int32.ofNat 3072 from hd)
  exact ⟨b, xs, Cond.one_arg hc (show args[0]? = some (.ref b) from hb), hx, hN, h⟩
theorem lw_comes (l : Launch) (hflags : l.flags = flags0) : Comes l x (Jvm.Cond.code x code maxLocals ret :: tables_1) room_1 (fun tb e args s => Calls_1 tb e args s ∧ rest_1 tb e args s ∧ Pre_1 tb e args s)
    (fun _ _ args s o t => lw_Q args s o t) := by
  intro p e ha hc hk s m args below hf hfit hheap happ hpre
  obtain ⟨b, xs, hP⟩ := lw_pre_spec hpre.2.2 hpre.2.1
  obtain ⟨k, o, h1, h2, h3, hQ⟩ := lw_walk l hflags b xs p e ha hc hk s m args below hf ((Spec.applies_iff_loose hf).mp happ).1 hP trivial
  exact ⟨k, o, h1, h2, h3, hQ⟩
theorem lw_frame {s t : State} {o : Outcome} {args : Array Value} (h : Framed s o t [] 600000 7302250) :
    Framed s o t (fieldLocs frame_1_writes args s ++ arrayLocs frame_1_arrays args s ++ staticLocs frame_1_statics s) 600000 7302250 := h
theorem lw_limb (L : Cond) (hL : ∀ (args : Array Value) (s t : State), L.after args s (.returned (some (.int 1))) t = true) :
    ArmFor flags0 classFile x code maxLocals ret World_1 tables_1 room_1 Calls_1 rest_1 Pre_1
      (fun tb e a s o t => postC L tb e a s o t ∧ Framed s o t (fieldLocs frame_1_writes a s ++ arrayLocs frame_1_arrays a s ++ staticLocs frame_1_statics s) 600000 7302250) := by
  intro l hflags _ _ p e ha hc hk s m args below hf hfit hheap happ hpre
  obtain ⟨k, o, h1, h2, h3, rfl, hF⟩ := lw_comes l hflags p e ha hc hk s m args below hf hfit hheap happ hpre
  exact ⟨k, _, h1, h2, h3, hL args s _, lw_frame hF⟩
theorem i_vc : Claimed_1_1 ∧ Claimed_1_2 := ⟨lw_limb limb_1_1 (fun args s t => by simp [limb_1_1, Cond.after, Cond.holds, Cond.value]), lw_limb limb_1_2 (fun args s t => Cond.after_iff.mpr (by
  first | (rw [show limb_1_2 = Cond.eq .result (.int 1) from rfl, Cond.eq_ints (x := 1) (y := 1) rfl rfl]; simp; done) | (simp [limb_1_2, Cond.value, Term.eval]; done)))⟩
