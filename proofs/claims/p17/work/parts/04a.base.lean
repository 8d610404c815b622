-- the values, the memory of whole numbers, ranges
abbrev Vl : Type := Int ⊕ (Option (Nat × Int)) ⊕ Int
abbrev Mm : Type := Nat → Int → Int → Int
abbrev vI (a : Int) : Vl := Sum.inl a
abbrev vR (c : Nat) (i : Int) : Vl := Sum.inr (Sum.inl (some (c, i)))
abbrev vN : Vl := Sum.inr (Sum.inl none)
abbrev vL (a : Int) : Vl := Sum.inr (Sum.inr a)
def inR (a : Int) : Prop := -2147483648 ≤ a ∧ a < 2147483648
def inL (a : Int) : Prop := -9223372036854775808 ≤ a ∧ a < 9223372036854775808
def i3 (a : Int) : Int32 := Int32.ofInt a
def wr (a : Int) : Int := (Int32.ofInt a).toInt
def wl (a : Int) : Int := (Int64.ofInt a).toInt
def iand (a b : Int) : Int := (i3 a &&& i3 b).toInt
def ior (a b : Int) : Int := (i3 a ||| i3 b).toInt
def ixor (a b : Int) : Int := (i3 a ^^^ i3 b).toInt
def ishl (a b : Int) : Int := (i3 a <<< (i3 b &&& 31)).toInt
def ishr (a b : Int) : Int := (i3 a >>> (i3 b &&& 31)).toInt
def iushr (a b : Int) : Int := ((i3 a).toUInt32 >>> ((i3 b).toUInt32 &&& Int32.toUInt32 31)).toInt32.toInt
def lcmp (a b : Int) : Int := if a < b then -1 else if a = b then 0 else 1
theorem i3_toInt {a : Int} (h : inR a) : (i3 a).toInt = a := Int32.toInt_ofInt_of_le h.1 h.2
theorem i3_of (x : Int32) : i3 x.toInt = x := Int32.ofInt_toInt x
theorem inR_of (x : Int32) : inR x.toInt := ⟨Int32.le_toInt x, Int32.toInt_lt x⟩
theorem inR_wr (a : Int) : inR (wr a) := inR_of _
theorem i3_wr (a : Int) : i3 (wr a) = i3 a := Int32.ofInt_toInt _
theorem wr_id {a : Int} (h : inR a) : wr a = a := i3_toInt h
theorem i3_add (a b : Int) : i3 (a + b) = i3 a + i3 b := Int32.ofInt_add a b
theorem i3_sub (a b : Int) : i3 (a - b) = i3 a - i3 b := Int32.ofInt_sub a b
theorem i3_mul (a b : Int) : i3 (a * b) = i3 a * i3 b := Int32.ofInt_mul a b
theorem i3_neg (a : Int) : i3 (-a) = -i3 a := Int32.ofInt_neg a
theorem i3_inj {a b : Int} (ha : inR a) (hb : inR b) : i3 a = i3 b ↔ a = b := by
  constructor
  · intro h
    have h1 := congrArg Int32.toInt h
    rwa [i3_toInt ha, i3_toInt hb] at h1
  · intro h
    rw [h]
theorem i3_lt {a b : Int} (ha : inR a) (hb : inR b) : i3 a < i3 b ↔ a < b := by rw [Int32.lt_iff_toInt_lt, i3_toInt ha, i3_toInt hb]
theorem i3_le {a b : Int} (ha : inR a) (hb : inR b) : i3 a ≤ i3 b ↔ a ≤ b := by rw [Int32.le_iff_toInt_le, i3_toInt ha, i3_toInt hb]
theorem i3_nat {a : Int} (ha : inR a) : (i3 a).toNatClampNeg = a.toNat := by
  show (i3 a).toInt.toNat = _
  rw [i3_toInt ha]
theorem i3_div {a b : Int} (ha : inR a) (hb : inR b) : i3 (a.tdiv b) = i3 a / i3 b :=
  Int32.ofInt_tdiv (by have := ha.1; exact this) (by have := ha.2; exact Int.le_of_lt_add_one this) (by have := hb.1; exact this) (by have := hb.2; exact Int.le_of_lt_add_one this)
theorem tdiv_inR {a b : Int} (ha : inR a) (hb : 0 < b) : inR (a.tdiv b) := by
  have h1 : (a.tdiv b).natAbs ≤ a.natAbs := by
    rw [Int.natAbs_tdiv]
    exact Nat.div_le_self _ _
  obtain ⟨h2, h3⟩ := ha
  rcases Int.le_total 0 a with h0 | h0
  · have h4 : 0 ≤ a.tdiv b := Int.tdiv_nonneg h0 (by omega)
    constructor <;> omega
  · by_cases h5 : a = -2147483648
    · by_cases h6 : 0 < a.tdiv b
      · exfalso
        have h7 : a.tdiv b ≤ 0 := by
          have h8 : (-a).tdiv b = -(a.tdiv b) := Int.neg_tdiv a b
          have h9 : 0 ≤ (-a).tdiv b := Int.tdiv_nonneg (by omega) (by omega)
          omega
        omega
      · constructor <;> omega
    · constructor <;> omega
theorem tmod_eq (a b : Int) : a - a.tdiv b * b = a.tmod b := by
  have h := Int.tmod_add_tdiv_mul a b
  omega
theorem tmod_inR {a b : Int} (ha : inR a) (hb : 0 < b) (hb2 : inR b) : inR (a.tmod b) := by
  have h1 := Int.tmod_lt_of_pos a hb
  have h2 : -b < a.tmod b := by
    have h3 : (-a).tmod b = -(a.tmod b) := Int.neg_tmod a b
    have h4 := Int.tmod_lt_of_pos (-a) hb
    omega
  obtain ⟨h5, h6⟩ := hb2
  constructor <;> omega
theorem inR_lit {a : Int} (h : (decide (-2147483648 ≤ a) && decide (a < 2147483648)) = true) : inR a := by
  simp only [Bool.and_eq_true, decide_eq_true_eq] at h
  exact h
-- a value of ours as one of the machine's
def mv (ad : Nat → Int → Nat) : Vl → Value
  | .inl a => .int (i3 a)
  | .inr (.inl none) => .null
  | .inr (.inl (some q)) => .ref (ad q.1 q.2)
  | .inr (.inr a) => .long (Int64.ofInt a)
def rV (vd : Nat × Int → Prop) : Vl → Prop
  | .inl a => inR a
  | .inr (.inl none) => True
  | .inr (.inl (some q)) => vd q
  | .inr (.inr a) => inL a
def rS (vd : Nat × Int → Prop) (st : List Vl) : Prop := ∀ v ∈ st, rV vd v
theorem rS_nil {vd : Nat × Int → Prop} : rS vd [] := fun v h => by cases h
theorem rS_cons {vd : Nat × Int → Prop} {v : Vl} {st : List Vl} : rS vd (v :: st) ↔ rV vd v ∧ rS vd st :=
  ⟨fun h => ⟨h v List.mem_cons_self, fun w hw => h w (List.mem_cons_of_mem _ hw)⟩, fun h w hw => by
    rcases List.mem_cons.mp hw with rfl | hw
    · exact h.1
    · exact h.2 w hw⟩
theorem rS_app {vd : Nat × Int → Prop} {a b : List Vl} : rS vd (a ++ b) ↔ rS vd a ∧ rS vd b :=
  ⟨fun h => ⟨fun w hw => h w (List.mem_append_left _ hw), fun w hw => h w (List.mem_append_right _ hw)⟩, fun h w hw => by
    rcases List.mem_append.mp hw with hw | hw
    · exact h.1 w hw
    · exact h.2 w hw⟩
theorem rS_rev {vd : Nat × Int → Prop} {a : List Vl} : rS vd a.reverse ↔ rS vd a :=
  ⟨fun h w hw => h w (List.mem_reverse.mpr hw), fun h w hw => h w (List.mem_reverse.mp hw)⟩
-- how many words a value takes
def csz : Vl → Nat
  | .inr (.inr _) => 2
  | _ => 1
def csum (l : List Vl) : Nat := (l.map csz).sum
theorem mv_cat (ad : Nat → Int → Nat) (v : Vl) : (mv ad v).category = csz v := by
  rcases v with a | (_ | q) | a <;> rfl
theorem mv_sum (ad : Nat → Int → Nat) (l : List Vl) : ((l.map (mv ad)).map fun v => v.category).sum = csum l := by
  unfold csum
  rw [List.map_map]
  congr 1
  exact List.map_congr_left fun v _ => mv_cat ad v
-- locals: by their places; what isn't known is none
abbrev Lc : Type := List (Option Vl)
def lpairs (ad : Nat → Int → Nat) : Nat → Lc → List (Nat × Value)
  | _, [] => []
  | k, none :: t => lpairs ad (k + 1) t
  | k, some v :: t => (k, mv ad v) :: lpairs ad (k + 1) t
theorem lpairs_mem {ad : Nat → Int → Nat} {q : Nat × Value} : ∀ {ls : Lc} {k : Nat}, q ∈ lpairs ad k ls ↔ ∃ (i : Nat) (v : Vl), ls[i]? = some (some v) ∧ q = (k + i, mv ad v)
  | [], k => by simp [lpairs]
  | none :: t, k => by
    rw [lpairs, lpairs_mem (ls := t)]
    constructor
    · rintro ⟨i, v, h, rfl⟩
      exact ⟨i + 1, v, by simpa using h, by rw [Nat.add_assoc, Nat.add_comm 1 i]⟩
    · rintro ⟨i, v, h, rfl⟩
      cases i with
      | zero => simp at h
      | succ i => exact ⟨i, v, by simpa using h, by rw [Nat.add_assoc, Nat.add_comm 1 i]⟩
  | some w :: t, k => by
    rw [lpairs, List.mem_cons, lpairs_mem (ls := t)]
    constructor
    · rintro (rfl | ⟨i, v, h, rfl⟩)
      · exact ⟨0, w, by simp, by simp⟩
      · exact ⟨i + 1, v, by simpa using h, by rw [Nat.add_assoc, Nat.add_comm 1 i]⟩
    · rintro ⟨i, v, h, rfl⟩
      cases i with
      | zero =>
        simp at h
        subst h
        exact Or.inl (by simp)
      | succ i => exact Or.inr ⟨i, v, by simpa using h, by rw [Nat.add_assoc, Nat.add_comm 1 i]⟩
def lOK (ad : Nat → Int → Nat) (nL : Nat) (ls : Lc) (lsA : Array Slot) : Prop := ls.length = nL ∧ lv_has lsA nL (lpairs ad 0 ls)
theorem lOK.at {ad : Nat → Int → Nat} {nL : Nat} {ls : Lc} {lsA : Array Slot} (h : lOK ad nL ls lsA) {i : Nat} {v : Vl} (hi : ls[i]? = some (some v)) : lsA[i]? = some (.val (mv ad v)) :=
  h.2.2.2 (i, mv ad v) (lpairs_mem.mpr ⟨i, v, hi, by simp⟩)
/-- no long lies just ahead of the place -/
def lfree (ls : Lc) (i : Nat) : Bool := match i with
  | 0 => true
  | j + 1 => match ls[j]? with
    | some (some (.inr (.inr _))) => false
    | _ => true
theorem lOK.set {ad : Nat → Int → Nat} {nL : Nat} {ls : Lc} {lsA lsB : Array Slot} {i : Nat} {v : Vl} (h : lOK ad nL ls lsA) (hi : lfree ls i = true)
    (h2 : lv_has lsB nL ((i, mv ad v) :: (lpairs ad 0 ls).filter (fun q => !(q.1 == i) && !(q.1 + 1 == i && q.2.category == 2)))) : lOK ad nL (ls.set i (some v)) lsB := by
  refine ⟨by rw [List.length_set]; exact h.1, h2.1, h2.2.1, fun q hq => ?_⟩
  obtain ⟨j, w, hj, rfl⟩ := lpairs_mem.mp hq
  rw [Nat.zero_add]
  by_cases hij : i = j
  · subst hij
    have hlt : i < ls.length := by
      have := (List.getElem?_eq_some_iff.mp hj).1
      simpa using this
    rw [List.getElem?_set_self hlt] at hj
    cases hj
    exact h2.2.2 (i, mv ad v) List.mem_cons_self
  · rw [List.getElem?_set_ne hij] at hj
    refine h2.2.2 (j, mv ad w) (List.mem_cons_of_mem _ (List.mem_filter.mpr ⟨lpairs_mem.mpr ⟨j, w, hj, by simp⟩, ?_⟩))
    have h3 : (j == i) = false := by simp; omega
    rw [h3]
    by_cases h4 : j + 1 = i
    · subst h4
      have h5 : csz w = 1 := by
        unfold lfree at hi
        rcases w with a | (_ | q) | a
        · rfl
        · rfl
        · rfl
        · simp [hj] at hi
      simp [mv_cat, h5]
    · simp [h4]
/-- less is known -/
def lle : Lc → Lc → Bool
  | [], [] => true
  | none :: s, _ :: t => lle s t
  | some _ :: s, some _ :: t => lle s t
  | _, _ => false
def lsub (a b : Lc) : Prop := a.length = b.length ∧ ∀ (i : Nat) (v : Vl), a[i]? = some (some v) → b[i]? = some (some v)
theorem lOK.sub {ad : Nat → Int → Nat} {nL : Nat} {ls ls' : Lc} {lsA : Array Slot} (h : lOK ad nL ls lsA) (hs : lsub ls' ls) : lOK ad nL ls' lsA := by
  refine ⟨hs.1.trans h.1, h.2.1, h.2.2.1, fun q hq => ?_⟩
  obtain ⟨i, v, hi, rfl⟩ := lpairs_mem.mp hq
  exact h.2.2.2 _ (lpairs_mem.mpr ⟨i, v, hs.2 i v hi, rfl⟩)
theorem lsub_nil : lsub [] [] := ⟨rfl, fun i v h => by simp at h⟩
theorem lsub_none {s t : Lc} {x : Option Vl} (h : lsub s t) : lsub (none :: s) (x :: t) := ⟨by simp [h.1], fun i v hi => by
  cases i with
  | zero => simp at hi
  | succ i => simpa using h.2 i v (by simpa using hi)⟩
theorem lsub_some {s t : Lc} {x : Option Vl} (h : lsub s t) : lsub (x :: s) (x :: t) := ⟨by simp [h.1], fun i v hi => by
  cases i with
  | zero => simpa using hi
  | succ i => simpa using h.2 i v (by simpa using hi)⟩
-- the locals with which a method begins
def entL : List Vl → Lc
  | [] => []
  | .inr (.inr a) :: t => some (vL a) :: none :: entL t
  | v :: t => some v :: entL t
def ent (n : Nat) (as : List Vl) : Lc := entL as ++ List.replicate (n - (entL as).length) none
theorem entL_len : ∀ as : List Vl, (entL as).length = csum as
  | [] => rfl
  | .inr (.inr a) :: t => by
    show (entL t).length + 1 + 1 = 2 + csum t
    rw [entL_len t]
    omega
  | .inl a :: t => by
    show (entL t).length + 1 = 1 + csum t
    rw [entL_len t]
    omega
  | .inr (.inl r) :: t => by
    show (entL t).length + 1 = 1 + csum t
    rw [entL_len t]
    omega
theorem lpairs_app {ad : Nat → Int → Nat} : ∀ (a b : Lc) (k : Nat), lpairs ad k (a ++ b) = lpairs ad k a ++ lpairs ad (k + a.length) b
  | [], b, k => by simp [lpairs]
  | none :: t, b, k => by
    show lpairs ad (k + 1) (t ++ b) = _
    rw [lpairs_app t b (k + 1)]
    simp [lpairs, Nat.add_assoc, Nat.add_comm 1]
  | some v :: t, b, k => by
    show (k, mv ad v) :: lpairs ad (k + 1) (t ++ b) = _
    rw [lpairs_app t b (k + 1)]
    simp [lpairs, Nat.add_assoc, Nat.add_comm 1]
theorem lpairs_nones {ad : Nat → Int → Nat} : ∀ (n k : Nat), lpairs ad k (List.replicate n none) = []
  | 0, k => rfl
  | n + 1, k => by
    rw [List.replicate_succ]
    exact lpairs_nones n (k + 1)
theorem lpairs_ent {ad : Nat → Int → Nat} : ∀ (as : List Vl) (k : Nat), lpairs ad k (entL as) = lv_args k (as.map (mv ad))
  | [], k => rfl
  | .inr (.inr a) :: t, k => by
    show (k, Value.long _) :: lpairs ad (k + 1 + 1) (entL t) = _
    rw [lpairs_ent t (k + 1 + 1)]
    rfl
  | .inl a :: t, k => by
    show (k, Value.int _) :: lpairs ad (k + 1) (entL t) = _
    rw [lpairs_ent t (k + 1)]
    rfl
  | .inr (.inl none) :: t, k => by
    show (k, Value.null) :: lpairs ad (k + 1) (entL t) = _
    rw [lpairs_ent t (k + 1)]
    rfl
  | .inr (.inl (some q)) :: t, k => by
    show (k, Value.ref _) :: lpairs ad (k + 1) (entL t) = _
    rw [lpairs_ent t (k + 1)]
    rfl
theorem lg_sl_len (ad : Nat → Int → Nat) : ∀ as : List Vl, (lg_sl (as.map (mv ad))).length = csum as
  | [] => rfl
  | .inr (.inr a) :: t => by
    have h := lg_sl_len ad t
    simp only [lg_sl, List.map_cons, List.flatMap_cons, List.length_append] at h ⊢
    rw [h]
    simp [mv, Value.category, csum, csz]
  | .inl a :: t => by
    have h := lg_sl_len ad t
    simp only [lg_sl, List.map_cons, List.flatMap_cons, List.length_append] at h ⊢
    rw [h]
    simp [mv, Value.category, csum, csz]
  | .inr (.inl none) :: t => by
    have h := lg_sl_len ad t
    simp only [lg_sl, List.map_cons, List.flatMap_cons, List.length_append] at h ⊢
    rw [h]
    simp [mv, Value.category, csum, csz]
  | .inr (.inl (some q)) :: t => by
    have h := lg_sl_len ad t
    simp only [lg_sl, List.map_cons, List.flatMap_cons, List.length_append] at h ⊢
    rw [h]
    simp [mv, Value.category, csum, csz]
theorem ent_ok (ad : Nat → Int → Nat) (as : List Vl) {n : Nat} (h : csum as ≤ n) : lOK ad n (ent n as) ((lg_sl (as.map (mv ad)) ++ List.replicate (n - (lg_sl (as.map (mv ad))).length) Slot.unset).toArray) := by
  refine ⟨?_, ?_⟩
  · unfold ent
    rw [List.length_append, List.length_replicate, entL_len]
    omega
  · unfold ent
    rw [lpairs_app, lpairs_nones, List.append_nil, lpairs_ent]
    exact lv_entry (as.map (mv ad)) (by rw [lg_sl_len]; exact h)
theorem ent_rng {vd : Nat × Int → Prop} {n : Nat} {as : List Vl} (h : rS vd as) : ∀ v : Vl, some v ∈ ent n as → rV vd v := by
  intro v hv0
  unfold ent at hv0
  rcases List.mem_append.mp hv0 with hv | hv
  · clear hv0
    induction as with
    | nil => simp [entL] at hv
    | cons a t ih =>
      obtain ⟨h1, h2⟩ := rS_cons.mp h
      rcases a with a | r | a
      · rcases List.mem_cons.mp (show some v ∈ some (Sum.inl a) :: entL t from hv) with e | e
        · cases e; exact h1
        · exact ih h2 e
      · rcases List.mem_cons.mp (show some v ∈ some (Sum.inr (Sum.inl r)) :: entL t from hv) with e | e
        · cases e; exact h1
        · exact ih h2 e
      · rcases List.mem_cons.mp (show some v ∈ some (vL a) :: none :: entL t from hv) with e | e
        · cases e; exact h1
        · rcases List.mem_cons.mp e with e | e
          · cases e
          · exact ih h2 e
  · have := List.eq_of_mem_replicate hv
    cases this
-- the rules of control and numbers: 'K' is closed under them; the machine's own predicate is
def gT : List Cond := lw_tbl.filter goodWord
def isNest : Cond → Bool
  | .fieldLinkNest .. => true
  | .methodLinkNest .. => true
  | _ => false
def nT : List Cond := tables_1.filter isNest
section GMAC
variable {α : Type} (ad : Nat → Int → Nat) (vd : α → Nat × Int → Prop) (Wd : α → Heap → Prop) (cf sf : α → Nat) (rg : α → Prop)
variable (p : Program) (l : Launch) (e : Env) (R : Room) (s : State) (m : MethodId) (args : Array Value) (below : List Frame) (meth : Method) (c : Code) (A : Nat → Prop) (Q : State → Prop) (nL : Nat)
def Gm (pc : Nat) (ls : Lc) (st : List Vl) (μ : α) : Prop :=
  rg μ → (∀ v : Vl, some v ∈ ls → rV (vd μ) v) → rS (vd μ) st → ∀ (H : Heap) (locs : List Loc) (lsA : Array Slot), Wd μ H → va_S A s.heap H locs → lOK ad nL ls lsA → W p l e R s m args below meth c H locs (cf μ) (sf μ) Q (F0 m pc lsA (st.map (mv ad)))
end GMAC
abbrev Cx (p : Program) (s : State) (m : MethodId) (args : Array Value) (meth : Method) (c : Code) (cc : ByteArray) (own : String) (nL : Nat) : Prop :=
  p.tables.exec = Jvm.exec ∧ c.code = cc ∧ c.maxLocals = nL ∧ s.vm.findClass own = some m.cls ∧ (∀ w ∈ gT, w.before args s = true) ∧ (∀ w ∈ nT, va_Nw w s) ∧ meth.locks = false
section LVX
variable {p : Program} {l : Launch} {e : Env} {R : Room} {s : State} {m : MethodId} {args : Array Value} {below : List Frame} {meth : Method} {c : Code} {H : Heap} {locs : List Loc} {cells slots : Nat} {Q : State → Prop}
variable {cc : ByteArray} {pc : Nat} {ls : Array Slot} {rest : List Value}
theorem gm_aloadN_n (hexec : p.tables.exec = Jvm.exec) (hb : c.code = cc) {k : Fin 4} {i : Nat} (hdg : decode cc pc = .ok (.aload_n k, 1)) (hi : (k : Nat) = i) (hl : ls[i]? = some (.val (.null)))
    (k : W p l e R s m args below meth c H locs cells slots Q (F0 m (pc + 1) ls (.null :: rest))) : W p l e R s m args below meth c H locs cells slots Q (F0 m pc ls (rest)) := by
  subst hi
  intro T hT X
  obtain ⟨t, a, b⟩ := k T hT X
  refine ⟨t, ?_, b⟩
  jvm_step X.here [X.here.top, hexec, hb, hdg, hl, Value.isRef]
  exact a
theorem gm_astoreN_n (hexec : p.tables.exec = Jvm.exec) (hb : c.code = cc) {k : Fin 4} {i nL : Nat} {lv lv' : List (Nat × Value)} (hdg : decode cc pc = .ok (.astore_n k, 1)) (hi : (k : Nat) = i) (h : lv_has ls nL lv) (hn : i < nL) (hl : (i, Value.null) :: lv.filter (fun q => !(q.1 == i) && !(q.1 + 1 == i && q.2.category == 2)) = lv')
    (kk : ∀ ls' : Array Slot, lv_has ls' nL lv' → W p l e R s m args below meth c H locs cells slots Q (F0 m (pc + 1) ls' rest)) : W p l e R s m args below meth c H locs cells slots Q (F0 m pc ls (.null :: rest)) := by
  subst hi
  obtain ⟨ls', e', h'⟩ := lv_store1 (v := .null) h hn rfl
  intro T hT X
  obtain ⟨t, a, b⟩ := kk ls' (hl ▸ h') T hT X
  refine ⟨t, ?_, b⟩
  jvm_step X.here [X.here.top, ↓top_set X.here.top, hexec, hb, hdg, e', Value.isRef]
  exact a
end LVX

def Q_iconst {α : Type} (vd : α → Nat × Int → Prop) (rg : α → Prop) (cc : ByteArray) (own : String) (K : Nat → Lc → List Vl → α → Prop) : Prop := ∀ {pc : Nat} {ls : Lc} {st : List Vl} {μ : α} {n : Int}, (decode cc pc = .ok (.iconst n, 1)) → ((decide (-2147483648 ≤ n) && decide (n < 2147483648)) = true) → (K (pc + 1) ls (vI n :: st) μ) → K pc ls st μ
def Q_bipush {α : Type} (vd : α → Nat × Int → Prop) (rg : α → Prop) (cc : ByteArray) (own : String) (K : Nat → Lc → List Vl → α → Prop) : Prop := ∀ {pc : Nat} {ls : Lc} {st : List Vl} {μ : α} {n : Int}, (decode cc pc = .ok (.bipush n, 2)) → ((decide (-128 ≤ n) && decide (n < 128)) = true) → (K (pc + 2) ls (vI n :: st) μ) → K pc ls st μ
def Q_sipush {α : Type} (vd : α → Nat × Int → Prop) (rg : α → Prop) (cc : ByteArray) (own : String) (K : Nat → Lc → List Vl → α → Prop) : Prop := ∀ {pc : Nat} {ls : Lc} {st : List Vl} {μ : α} {n : Int}, (decode cc pc = .ok (.sipush n, 3)) → ((decide (-32768 ≤ n) && decide (n < 32768)) = true) → (K (pc + 3) ls (vI n :: st) μ) → K pc ls st μ
def Q_ldc {α : Type} (vd : α → Nat × Int → Prop) (rg : α → Prop) (cc : ByteArray) (own : String) (K : Nat → Lc → List Vl → α → Prop) : Prop := ∀ {pc : Nat} {ls : Lc} {st : List Vl} {μ : α} {x : Nat} {n : Int}, (decode cc pc = .ok (.ldc x, 2)) → (Cond.constant own x (i3 n) ∈ gT) → ((decide (-2147483648 ≤ n) && decide (n < 2147483648)) = true) → (K (pc + 2) ls (vI n :: st) μ) → K pc ls st μ
def Q_ldcw {α : Type} (vd : α → Nat × Int → Prop) (rg : α → Prop) (cc : ByteArray) (own : String) (K : Nat → Lc → List Vl → α → Prop) : Prop := ∀ {pc : Nat} {ls : Lc} {st : List Vl} {μ : α} {x : Nat} {n : Int}, (decode cc pc = .ok (.ldc_w x, 3)) → (Cond.constant own x (i3 n) ∈ gT) → ((decide (-2147483648 ≤ n) && decide (n < 2147483648)) = true) → (K (pc + 3) ls (vI n :: st) μ) → K pc ls st μ
def Q_iload_n {α : Type} (vd : α → Nat × Int → Prop) (rg : α → Prop) (cc : ByteArray) (own : String) (K : Nat → Lc → List Vl → α → Prop) : Prop := ∀ {pc : Nat} {ls : Lc} {st : List Vl} {μ : α} {x : Fin 4} {a : Int}, (decode cc pc = .ok (.iload_n x, 1)) → (ls[(x : Nat)]? = some (some (vI a))) → (K (pc + 1) ls (vI a :: st) μ) → K pc ls st μ
def Q_iload {α : Type} (vd : α → Nat × Int → Prop) (rg : α → Prop) (cc : ByteArray) (own : String) (K : Nat → Lc → List Vl → α → Prop) : Prop := ∀ {pc : Nat} {ls : Lc} {st : List Vl} {μ : α} {x : Nat} {a : Int}, (decode cc pc = .ok (.iload x, 2)) → (ls[x]? = some (some (vI a))) → (K (pc + 2) ls (vI a :: st) μ) → K pc ls st μ
def Q_lload_n {α : Type} (vd : α → Nat × Int → Prop) (rg : α → Prop) (cc : ByteArray) (own : String) (K : Nat → Lc → List Vl → α → Prop) : Prop := ∀ {pc : Nat} {ls : Lc} {st : List Vl} {μ : α} {x : Fin 4} {a : Int}, (decode cc pc = .ok (.lload_n x, 1)) → (ls[(x : Nat)]? = some (some (vL a))) → (K (pc + 1) ls (vL a :: st) μ) → K pc ls st μ
def Q_aload_n {α : Type} (vd : α → Nat × Int → Prop) (rg : α → Prop) (cc : ByteArray) (own : String) (K : Nat → Lc → List Vl → α → Prop) : Prop := ∀ {pc : Nat} {ls : Lc} {st : List Vl} {μ : α} {x : Fin 4} {q : Nat × Int}, (decode cc pc = .ok (.aload_n x, 1)) → (ls[(x : Nat)]? = some (some (Sum.inr (Sum.inl (some q))))) → (K (pc + 1) ls (Sum.inr (Sum.inl (some q)) :: st) μ) → K pc ls st μ
def Q_aload {α : Type} (vd : α → Nat × Int → Prop) (rg : α → Prop) (cc : ByteArray) (own : String) (K : Nat → Lc → List Vl → α → Prop) : Prop := ∀ {pc : Nat} {ls : Lc} {st : List Vl} {μ : α} {x : Nat} {q : Nat × Int}, (decode cc pc = .ok (.aload x, 2)) → (ls[x]? = some (some (Sum.inr (Sum.inl (some q))))) → (K (pc + 2) ls (Sum.inr (Sum.inl (some q)) :: st) μ) → K pc ls st μ
def Q_aloadN_n {α : Type} (vd : α → Nat × Int → Prop) (rg : α → Prop) (cc : ByteArray) (own : String) (K : Nat → Lc → List Vl → α → Prop) : Prop := ∀ {pc : Nat} {ls : Lc} {st : List Vl} {μ : α} {x : Fin 4}, (decode cc pc = .ok (.aload_n x, 1)) → (ls[(x : Nat)]? = some (some (vN))) → (K (pc + 1) ls (vN :: st) μ) → K pc ls st μ
def Q_aloadN {α : Type} (vd : α → Nat × Int → Prop) (rg : α → Prop) (cc : ByteArray) (own : String) (K : Nat → Lc → List Vl → α → Prop) : Prop := ∀ {pc : Nat} {ls : Lc} {st : List Vl} {μ : α} {x : Nat}, (decode cc pc = .ok (.aload x, 2)) → (ls[x]? = some (some (vN))) → (K (pc + 2) ls (vN :: st) μ) → K pc ls st μ
def Q_istore_n {α : Type} (vd : α → Nat × Int → Prop) (rg : α → Prop) (cc : ByteArray) (own : String) (K : Nat → Lc → List Vl → α → Prop) : Prop := ∀ {pc : Nat} {ls : Lc} {st : List Vl} {μ : α} {x : Fin 4} {a : Int}, (decode cc pc = .ok (.istore_n x, 1)) → ((Nat.blt (x : Nat) ls.length && lfree ls (x : Nat)) = true) → (K (pc + 1) (ls.set (x : Nat) (some (vI a))) st μ) → K pc ls (vI a :: st) μ
def Q_istore {α : Type} (vd : α → Nat × Int → Prop) (rg : α → Prop) (cc : ByteArray) (own : String) (K : Nat → Lc → List Vl → α → Prop) : Prop := ∀ {pc : Nat} {ls : Lc} {st : List Vl} {μ : α} {x : Nat} {a : Int}, (decode cc pc = .ok (.istore x, 2)) → ((Nat.blt x ls.length && lfree ls x) = true) → (K (pc + 2) (ls.set x (some (vI a))) st μ) → K pc ls (vI a :: st) μ
def Q_astore_n {α : Type} (vd : α → Nat × Int → Prop) (rg : α → Prop) (cc : ByteArray) (own : String) (K : Nat → Lc → List Vl → α → Prop) : Prop := ∀ {pc : Nat} {ls : Lc} {st : List Vl} {μ : α} {x : Fin 4} {q : Nat × Int}, (decode cc pc = .ok (.astore_n x, 1)) → ((Nat.blt (x : Nat) ls.length && lfree ls (x : Nat)) = true) → (K (pc + 1) (ls.set (x : Nat) (some (Sum.inr (Sum.inl (some q))))) st μ) → K pc ls (Sum.inr (Sum.inl (some q)) :: st) μ
def Q_astore {α : Type} (vd : α → Nat × Int → Prop) (rg : α → Prop) (cc : ByteArray) (own : String) (K : Nat → Lc → List Vl → α → Prop) : Prop := ∀ {pc : Nat} {ls : Lc} {st : List Vl} {μ : α} {x : Nat} {q : Nat × Int}, (decode cc pc = .ok (.astore x, 2)) → ((Nat.blt x ls.length && lfree ls x) = true) → (K (pc + 2) (ls.set x (some (Sum.inr (Sum.inl (some q))))) st μ) → K pc ls (Sum.inr (Sum.inl (some q)) :: st) μ
def Q_astoreN_n {α : Type} (vd : α → Nat × Int → Prop) (rg : α → Prop) (cc : ByteArray) (own : String) (K : Nat → Lc → List Vl → α → Prop) : Prop := ∀ {pc : Nat} {ls : Lc} {st : List Vl} {μ : α} {x : Fin 4}, (decode cc pc = .ok (.astore_n x, 1)) → ((Nat.blt (x : Nat) ls.length && lfree ls (x : Nat)) = true) → (K (pc + 1) (ls.set (x : Nat) (some (vN))) st μ) → K pc ls (vN :: st) μ
def Q_astoreN {α : Type} (vd : α → Nat × Int → Prop) (rg : α → Prop) (cc : ByteArray) (own : String) (K : Nat → Lc → List Vl → α → Prop) : Prop := ∀ {pc : Nat} {ls : Lc} {st : List Vl} {μ : α} {x : Nat}, (decode cc pc = .ok (.astore x, 2)) → ((Nat.blt x ls.length && lfree ls x) = true) → (K (pc + 2) (ls.set x (some (vN))) st μ) → K pc ls (vN :: st) μ
def Q_iinc {α : Type} (vd : α → Nat × Int → Prop) (rg : α → Prop) (cc : ByteArray) (own : String) (K : Nat → Lc → List Vl → α → Prop) : Prop := ∀ {pc : Nat} {ls : Lc} {st : List Vl} {μ : α} {x : Nat} {n a : Int}, (decode cc pc = .ok (.iinc x n, 3)) → (ls[x]? = some (some (vI a))) → (lfree ls x = true) → (K (pc + 3) (ls.set x (some (vI (wr (a + n))))) st μ) → K pc ls st μ
def Q_iadd {α : Type} (vd : α → Nat × Int → Prop) (rg : α → Prop) (cc : ByteArray) (own : String) (K : Nat → Lc → List Vl → α → Prop) : Prop := ∀ {pc : Nat} {ls : Lc} {st : List Vl} {μ : α} {a b : Int}, (decode cc pc = .ok (.iadd, 1)) → (K (pc + 1) ls (vI (wr (a + b)) :: st) μ) → K pc ls (vI b :: vI a :: st) μ
def Q_isub {α : Type} (vd : α → Nat × Int → Prop) (rg : α → Prop) (cc : ByteArray) (own : String) (K : Nat → Lc → List Vl → α → Prop) : Prop := ∀ {pc : Nat} {ls : Lc} {st : List Vl} {μ : α} {a b : Int}, (decode cc pc = .ok (.isub, 1)) → (K (pc + 1) ls (vI (wr (a - b)) :: st) μ) → K pc ls (vI b :: vI a :: st) μ
def Q_imul {α : Type} (vd : α → Nat × Int → Prop) (rg : α → Prop) (cc : ByteArray) (own : String) (K : Nat → Lc → List Vl → α → Prop) : Prop := ∀ {pc : Nat} {ls : Lc} {st : List Vl} {μ : α} {a b : Int}, (decode cc pc = .ok (.imul, 1)) → (K (pc + 1) ls (vI (wr (a * b)) :: st) μ) → K pc ls (vI b :: vI a :: st) μ
def Q_iand {α : Type} (vd : α → Nat × Int → Prop) (rg : α → Prop) (cc : ByteArray) (own : String) (K : Nat → Lc → List Vl → α → Prop) : Prop := ∀ {pc : Nat} {ls : Lc} {st : List Vl} {μ : α} {a b : Int}, (decode cc pc = .ok (.iand, 1)) → (K (pc + 1) ls (vI (iand a b) :: st) μ) → K pc ls (vI b :: vI a :: st) μ
def Q_ior {α : Type} (vd : α → Nat × Int → Prop) (rg : α → Prop) (cc : ByteArray) (own : String) (K : Nat → Lc → List Vl → α → Prop) : Prop := ∀ {pc : Nat} {ls : Lc} {st : List Vl} {μ : α} {a b : Int}, (decode cc pc = .ok (.ior, 1)) → (K (pc + 1) ls (vI (ior a b) :: st) μ) → K pc ls (vI b :: vI a :: st) μ
def Q_ixor {α : Type} (vd : α → Nat × Int → Prop) (rg : α → Prop) (cc : ByteArray) (own : String) (K : Nat → Lc → List Vl → α → Prop) : Prop := ∀ {pc : Nat} {ls : Lc} {st : List Vl} {μ : α} {a b : Int}, (decode cc pc = .ok (.ixor, 1)) → (K (pc + 1) ls (vI (ixor a b) :: st) μ) → K pc ls (vI b :: vI a :: st) μ
def Q_ishl {α : Type} (vd : α → Nat × Int → Prop) (rg : α → Prop) (cc : ByteArray) (own : String) (K : Nat → Lc → List Vl → α → Prop) : Prop := ∀ {pc : Nat} {ls : Lc} {st : List Vl} {μ : α} {a b : Int}, (decode cc pc = .ok (.ishl, 1)) → (K (pc + 1) ls (vI (ishl a b) :: st) μ) → K pc ls (vI b :: vI a :: st) μ
def Q_ishr {α : Type} (vd : α → Nat × Int → Prop) (rg : α → Prop) (cc : ByteArray) (own : String) (K : Nat → Lc → List Vl → α → Prop) : Prop := ∀ {pc : Nat} {ls : Lc} {st : List Vl} {μ : α} {a b : Int}, (decode cc pc = .ok (.ishr, 1)) → (K (pc + 1) ls (vI (ishr a b) :: st) μ) → K pc ls (vI b :: vI a :: st) μ
def Q_iushr {α : Type} (vd : α → Nat × Int → Prop) (rg : α → Prop) (cc : ByteArray) (own : String) (K : Nat → Lc → List Vl → α → Prop) : Prop := ∀ {pc : Nat} {ls : Lc} {st : List Vl} {μ : α} {a b : Int}, (decode cc pc = .ok (.iushr, 1)) → (K (pc + 1) ls (vI (iushr a b) :: st) μ) → K pc ls (vI b :: vI a :: st) μ
def Q_idiv {α : Type} (vd : α → Nat × Int → Prop) (rg : α → Prop) (cc : ByteArray) (own : String) (K : Nat → Lc → List Vl → α → Prop) : Prop := ∀ {pc : Nat} {ls : Lc} {st : List Vl} {μ : α} {a b : Int}, (decode cc pc = .ok (.idiv, 1)) → (0 < b) → (K (pc + 1) ls (vI (a.tdiv b) :: st) μ) → K pc ls (vI b :: vI a :: st) μ
def Q_irem {α : Type} (vd : α → Nat × Int → Prop) (rg : α → Prop) (cc : ByteArray) (own : String) (K : Nat → Lc → List Vl → α → Prop) : Prop := ∀ {pc : Nat} {ls : Lc} {st : List Vl} {μ : α} {a b : Int}, (decode cc pc = .ok (.irem, 1)) → (0 < b) → (K (pc + 1) ls (vI (a.tmod b) :: st) μ) → K pc ls (vI b :: vI a :: st) μ
def Q_ineg {α : Type} (vd : α → Nat × Int → Prop) (rg : α → Prop) (cc : ByteArray) (own : String) (K : Nat → Lc → List Vl → α → Prop) : Prop := ∀ {pc : Nat} {ls : Lc} {st : List Vl} {μ : α} {a : Int}, (decode cc pc = .ok (.ineg, 1)) → (K (pc + 1) ls (vI (wr (-a)) :: st) μ) → K pc ls (vI a :: st) μ
def Q_i2l {α : Type} (vd : α → Nat × Int → Prop) (rg : α → Prop) (cc : ByteArray) (own : String) (K : Nat → Lc → List Vl → α → Prop) : Prop := ∀ {pc : Nat} {ls : Lc} {st : List Vl} {μ : α} {a : Int}, (decode cc pc = .ok (.i2l, 1)) → (K (pc + 1) ls (vL a :: st) μ) → K pc ls (vI a :: st) μ
def Q_lconst {α : Type} (vd : α → Nat × Int → Prop) (rg : α → Prop) (cc : ByteArray) (own : String) (K : Nat → Lc → List Vl → α → Prop) : Prop := ∀ {pc : Nat} {ls : Lc} {st : List Vl} {μ : α} {n : Fin 2} {a : Int}, (decode cc pc = .ok (.lconst n, 1)) → (((n : Nat) : Int) = a) → (K (pc + 1) ls (vL a :: st) μ) → K pc ls st μ
def Q_lsub {α : Type} (vd : α → Nat × Int → Prop) (rg : α → Prop) (cc : ByteArray) (own : String) (K : Nat → Lc → List Vl → α → Prop) : Prop := ∀ {pc : Nat} {ls : Lc} {st : List Vl} {μ : α} {a b : Int}, (decode cc pc = .ok (.lsub, 1)) → (K (pc + 1) ls (vL (wl (a - b)) :: st) μ) → K pc ls (vL b :: vL a :: st) μ
def Q_lcmp {α : Type} (vd : α → Nat × Int → Prop) (rg : α → Prop) (cc : ByteArray) (own : String) (K : Nat → Lc → List Vl → α → Prop) : Prop := ∀ {pc : Nat} {ls : Lc} {st : List Vl} {μ : α} {a b : Int}, (decode cc pc = .ok (.lcmp, 1)) → (K (pc + 1) ls (vI (lcmp a b) :: st) μ) → K pc ls (vL b :: vL a :: st) μ
def Q_dup {α : Type} (vd : α → Nat × Int → Prop) (rg : α → Prop) (cc : ByteArray) (own : String) (K : Nat → Lc → List Vl → α → Prop) : Prop := ∀ {pc : Nat} {ls : Lc} {st : List Vl} {μ : α} {v : Vl}, (decode cc pc = .ok (.dup, 1)) → (csz v = 1) → (K (pc + 1) ls (v :: v :: st) μ) → K pc ls (v :: st) μ
def Q_dup2 {α : Type} (vd : α → Nat × Int → Prop) (rg : α → Prop) (cc : ByteArray) (own : String) (K : Nat → Lc → List Vl → α → Prop) : Prop := ∀ {pc : Nat} {ls : Lc} {st : List Vl} {μ : α} {v u : Vl}, (decode cc pc = .ok (.dup2, 1)) → (csz v = 1) → (csz u = 1) → (K (pc + 1) ls (v :: u :: v :: u :: st) μ) → K pc ls (v :: u :: st) μ
def Q_pop {α : Type} (vd : α → Nat × Int → Prop) (rg : α → Prop) (cc : ByteArray) (own : String) (K : Nat → Lc → List Vl → α → Prop) : Prop := ∀ {pc : Nat} {ls : Lc} {st : List Vl} {μ : α} {v : Vl}, (decode cc pc = .ok (.pop, 1)) → (csz v = 1) → (K (pc + 1) ls st μ) → K pc ls (v :: st) μ
def Q_goto {α : Type} (vd : α → Nat × Int → Prop) (rg : α → Prop) (cc : ByteArray) (own : String) (K : Nat → Lc → List Vl → α → Prop) : Prop := ∀ {pc : Nat} {ls : Lc} {st : List Vl} {μ : α} {off : Int} {tgt : Nat}, (decode cc pc = .ok (.goto off, 3)) → ((pc : Int) + off = (tgt : Int)) → (K tgt ls st μ) → K pc ls st μ
def Q_null {α : Type} (vd : α → Nat × Int → Prop) (rg : α → Prop) (cc : ByteArray) (own : String) (K : Nat → Lc → List Vl → α → Prop) : Prop := ∀ {pc : Nat} {ls : Lc} {st : List Vl} {μ : α}, (decode cc pc = .ok (.aconst_null, 1)) → (K (pc + 1) ls (vN :: st) μ) → K pc ls st μ
def Q_if_eq {α : Type} (vd : α → Nat × Int → Prop) (rg : α → Prop) (cc : ByteArray) (own : String) (K : Nat → Lc → List Vl → α → Prop) : Prop := ∀ {pc : Nat} {ls : Lc} {st : List Vl} {μ : α} {a : Int} {off : Int} {tgt : Nat}, (decode cc pc = .ok (.ifCond .eq off, 3)) → ((pc : Int) + off = (tgt : Int)) → ((a = 0) → K tgt ls st μ) → ((¬ a = 0) → K (pc + 3) ls st μ) → K pc ls (vI a :: st) μ
def Q_icmp_eq {α : Type} (vd : α → Nat × Int → Prop) (rg : α → Prop) (cc : ByteArray) (own : String) (K : Nat → Lc → List Vl → α → Prop) : Prop := ∀ {pc : Nat} {ls : Lc} {st : List Vl} {μ : α} {a b : Int} {off : Int} {tgt : Nat}, (decode cc pc = .ok (.if_icmp .eq off, 3)) → ((pc : Int) + off = (tgt : Int)) → ((a = b) → K tgt ls st μ) → ((¬ a = b) → K (pc + 3) ls st μ) → K pc ls (vI b :: vI a :: st) μ
def Q_if_ne {α : Type} (vd : α → Nat × Int → Prop) (rg : α → Prop) (cc : ByteArray) (own : String) (K : Nat → Lc → List Vl → α → Prop) : Prop := ∀ {pc : Nat} {ls : Lc} {st : List Vl} {μ : α} {a : Int} {off : Int} {tgt : Nat}, (decode cc pc = .ok (.ifCond .ne off, 3)) → ((pc : Int) + off = (tgt : Int)) → ((¬ a = 0) → K tgt ls st μ) → ((a = 0) → K (pc + 3) ls st μ) → K pc ls (vI a :: st) μ
def Q_icmp_ne {α : Type} (vd : α → Nat × Int → Prop) (rg : α → Prop) (cc : ByteArray) (own : String) (K : Nat → Lc → List Vl → α → Prop) : Prop := ∀ {pc : Nat} {ls : Lc} {st : List Vl} {μ : α} {a b : Int} {off : Int} {tgt : Nat}, (decode cc pc = .ok (.if_icmp .ne off, 3)) → ((pc : Int) + off = (tgt : Int)) → ((¬ a = b) → K tgt ls st μ) → ((a = b) → K (pc + 3) ls st μ) → K pc ls (vI b :: vI a :: st) μ
def Q_if_lt {α : Type} (vd : α → Nat × Int → Prop) (rg : α → Prop) (cc : ByteArray) (own : String) (K : Nat → Lc → List Vl → α → Prop) : Prop := ∀ {pc : Nat} {ls : Lc} {st : List Vl} {μ : α} {a : Int} {off : Int} {tgt : Nat}, (decode cc pc = .ok (.ifCond .lt off, 3)) → ((pc : Int) + off = (tgt : Int)) → ((a < 0) → K tgt ls st μ) → ((0 ≤ a) → K (pc + 3) ls st μ) → K pc ls (vI a :: st) μ
def Q_icmp_lt {α : Type} (vd : α → Nat × Int → Prop) (rg : α → Prop) (cc : ByteArray) (own : String) (K : Nat → Lc → List Vl → α → Prop) : Prop := ∀ {pc : Nat} {ls : Lc} {st : List Vl} {μ : α} {a b : Int} {off : Int} {tgt : Nat}, (decode cc pc = .ok (.if_icmp .lt off, 3)) → ((pc : Int) + off = (tgt : Int)) → ((a < b) → K tgt ls st μ) → ((b ≤ a) → K (pc + 3) ls st μ) → K pc ls (vI b :: vI a :: st) μ
def Q_if_ge {α : Type} (vd : α → Nat × Int → Prop) (rg : α → Prop) (cc : ByteArray) (own : String) (K : Nat → Lc → List Vl → α → Prop) : Prop := ∀ {pc : Nat} {ls : Lc} {st : List Vl} {μ : α} {a : Int} {off : Int} {tgt : Nat}, (decode cc pc = .ok (.ifCond .ge off, 3)) → ((pc : Int) + off = (tgt : Int)) → ((0 ≤ a) → K tgt ls st μ) → ((a < 0) → K (pc + 3) ls st μ) → K pc ls (vI a :: st) μ
def Q_icmp_ge {α : Type} (vd : α → Nat × Int → Prop) (rg : α → Prop) (cc : ByteArray) (own : String) (K : Nat → Lc → List Vl → α → Prop) : Prop := ∀ {pc : Nat} {ls : Lc} {st : List Vl} {μ : α} {a b : Int} {off : Int} {tgt : Nat}, (decode cc pc = .ok (.if_icmp .ge off, 3)) → ((pc : Int) + off = (tgt : Int)) → ((b ≤ a) → K tgt ls st μ) → ((a < b) → K (pc + 3) ls st μ) → K pc ls (vI b :: vI a :: st) μ
def Q_if_gt {α : Type} (vd : α → Nat × Int → Prop) (rg : α → Prop) (cc : ByteArray) (own : String) (K : Nat → Lc → List Vl → α → Prop) : Prop := ∀ {pc : Nat} {ls : Lc} {st : List Vl} {μ : α} {a : Int} {off : Int} {tgt : Nat}, (decode cc pc = .ok (.ifCond .gt off, 3)) → ((pc : Int) + off = (tgt : Int)) → ((0 < a) → K tgt ls st μ) → ((a ≤ 0) → K (pc + 3) ls st μ) → K pc ls (vI a :: st) μ
def Q_icmp_gt {α : Type} (vd : α → Nat × Int → Prop) (rg : α → Prop) (cc : ByteArray) (own : String) (K : Nat → Lc → List Vl → α → Prop) : Prop := ∀ {pc : Nat} {ls : Lc} {st : List Vl} {μ : α} {a b : Int} {off : Int} {tgt : Nat}, (decode cc pc = .ok (.if_icmp .gt off, 3)) → ((pc : Int) + off = (tgt : Int)) → ((b < a) → K tgt ls st μ) → ((a ≤ b) → K (pc + 3) ls st μ) → K pc ls (vI b :: vI a :: st) μ
def Q_if_le {α : Type} (vd : α → Nat × Int → Prop) (rg : α → Prop) (cc : ByteArray) (own : String) (K : Nat → Lc → List Vl → α → Prop) : Prop := ∀ {pc : Nat} {ls : Lc} {st : List Vl} {μ : α} {a : Int} {off : Int} {tgt : Nat}, (decode cc pc = .ok (.ifCond .le off, 3)) → ((pc : Int) + off = (tgt : Int)) → ((a ≤ 0) → K tgt ls st μ) → ((0 < a) → K (pc + 3) ls st μ) → K pc ls (vI a :: st) μ
def Q_icmp_le {α : Type} (vd : α → Nat × Int → Prop) (rg : α → Prop) (cc : ByteArray) (own : String) (K : Nat → Lc → List Vl → α → Prop) : Prop := ∀ {pc : Nat} {ls : Lc} {st : List Vl} {μ : α} {a b : Int} {off : Int} {tgt : Nat}, (decode cc pc = .ok (.if_icmp .le off, 3)) → ((pc : Int) + off = (tgt : Int)) → ((a ≤ b) → K tgt ls st μ) → ((b < a) → K (pc + 3) ls st μ) → K pc ls (vI b :: vI a :: st) μ
def Q_ifnullN {α : Type} (vd : α → Nat × Int → Prop) (rg : α → Prop) (cc : ByteArray) (own : String) (K : Nat → Lc → List Vl → α → Prop) : Prop := ∀ {pc : Nat} {ls : Lc} {st : List Vl} {μ : α} {off : Int} {tgt : Nat}, (decode cc pc = .ok (.ifnull off, 3)) → ((pc : Int) + off = (tgt : Int)) → (K tgt ls st μ) → K pc ls (vN :: st) μ
def Q_ifnullR {α : Type} (vd : α → Nat × Int → Prop) (rg : α → Prop) (cc : ByteArray) (own : String) (K : Nat → Lc → List Vl → α → Prop) : Prop := ∀ {pc : Nat} {ls : Lc} {st : List Vl} {μ : α} {off : Int} {q : Nat × Int}, (decode cc pc = .ok (.ifnull off, 3)) → (K (pc + 3) ls st μ) → K pc ls (Sum.inr (Sum.inl (some q)) :: st) μ
def Q_ifnonnullN {α : Type} (vd : α → Nat × Int → Prop) (rg : α → Prop) (cc : ByteArray) (own : String) (K : Nat → Lc → List Vl → α → Prop) : Prop := ∀ {pc : Nat} {ls : Lc} {st : List Vl} {μ : α} {off : Int}, (decode cc pc = .ok (.ifnonnull off, 3)) → (K (pc + 3) ls st μ) → K pc ls (vN :: st) μ
def Q_ifnonnullR {α : Type} (vd : α → Nat × Int → Prop) (rg : α → Prop) (cc : ByteArray) (own : String) (K : Nat → Lc → List Vl → α → Prop) : Prop := ∀ {pc : Nat} {ls : Lc} {st : List Vl} {μ : α} {off : Int} {tgt : Nat} {q : Nat × Int}, (decode cc pc = .ok (.ifnonnull off, 3)) → ((pc : Int) + off = (tgt : Int)) → (K tgt ls st μ) → K pc ls (Sum.inr (Sum.inl (some q)) :: st) μ
def Q_tableOut {α : Type} (vd : α → Nat × Int → Prop) (rg : α → Prop) (cc : ByteArray) (own : String) (K : Nat → Lc → List Vl → α → Prop) : Prop := ∀ {pc : Nat} {ls : Lc} {st : List Vl} {μ : α} {a dflt lo hi : Int} {offs : Array Int} {len tgt : Nat}, (decode cc pc = .ok (.tableswitch dflt lo hi offs, len)) → (a < lo ∨ hi < a) → ((pc : Int) + dflt = (tgt : Int)) → (K tgt ls st μ) → K pc ls (vI a :: st) μ
def Q_tableIn {α : Type} (vd : α → Nat × Int → Prop) (rg : α → Prop) (cc : ByteArray) (own : String) (K : Nat → Lc → List Vl → α → Prop) : Prop := ∀ {pc : Nat} {ls : Lc} {st : List Vl} {μ : α} {a dflt lo hi off : Int} {offs : Array Int} {len tgt : Nat}, (decode cc pc = .ok (.tableswitch dflt lo hi offs, len)) → (lo ≤ a) → (a ≤ hi) → (offs[(a - lo).toNat]? = some off) → ((pc : Int) + off = (tgt : Int)) → (K tgt ls st μ) → K pc ls (vI a :: st) μ
def Q_forget {α : Type} (vd : α → Nat × Int → Prop) (rg : α → Prop) (cc : ByteArray) (own : String) (K : Nat → Lc → List Vl → α → Prop) : Prop := ∀ {pc : Nat} {ls : Lc} {st : List Vl} {μ : α} {ls2 : Lc}, (lsub ls2 ls) → (K pc ls2 st μ) → K pc ls st μ
def Q_rng {α : Type} (vd : α → Nat × Int → Prop) (rg : α → Prop) (cc : ByteArray) (own : String) (K : Nat → Lc → List Vl → α → Prop) : Prop := ∀ {pc : Nat} {ls : Lc} {st : List Vl} {μ : α}, ((rg μ → (∀ v : Vl, some v ∈ ls → rV (vd μ) v) → K pc ls st μ)) → K pc ls st μ
def StpC {α : Type} (vd : α → Nat × Int → Prop) (rg : α → Prop) (cc : ByteArray) (own : String) (K : Nat → Lc → List Vl → α → Prop) : Prop := Q_iconst vd rg cc own K ∧ Q_bipush vd rg cc own K ∧ Q_sipush vd rg cc own K ∧ Q_ldc vd rg cc own K ∧ Q_ldcw vd rg cc own K ∧ Q_iload_n vd rg cc own K ∧ Q_iload vd rg cc own K ∧ Q_lload_n vd rg cc own K ∧ Q_aload_n vd rg cc own K ∧ Q_aload vd rg cc own K ∧ Q_aloadN_n vd rg cc own K ∧ Q_aloadN vd rg cc own K ∧ Q_istore_n vd rg cc own K ∧ Q_istore vd rg cc own K ∧ Q_astore_n vd rg cc own K ∧ Q_astore vd rg cc own K ∧ Q_astoreN_n vd rg cc own K ∧ Q_astoreN vd rg cc own K ∧ Q_iinc vd rg cc own K ∧ Q_iadd vd rg cc own K ∧ Q_isub vd rg cc own K ∧ Q_imul vd rg cc own K ∧ Q_iand vd rg cc own K ∧ Q_ior vd rg cc own K ∧ Q_ixor vd rg cc own K ∧ Q_ishl vd rg cc own K ∧ Q_ishr vd rg cc own K ∧ Q_iushr vd rg cc own K ∧ Q_idiv vd rg cc own K ∧ Q_irem vd rg cc own K ∧ Q_ineg vd rg cc own K ∧ Q_i2l vd rg cc own K ∧ Q_lconst vd rg cc own K ∧ Q_lsub vd rg cc own K ∧ Q_lcmp vd rg cc own K ∧ Q_dup vd rg cc own K ∧ Q_dup2 vd rg cc own K ∧ Q_pop vd rg cc own K ∧ Q_goto vd rg cc own K ∧ Q_null vd rg cc own K ∧ Q_if_eq vd rg cc own K ∧ Q_icmp_eq vd rg cc own K ∧ Q_if_ne vd rg cc own K ∧ Q_icmp_ne vd rg cc own K ∧ Q_if_lt vd rg cc own K ∧ Q_icmp_lt vd rg cc own K ∧ Q_if_ge vd rg cc own K ∧ Q_icmp_ge vd rg cc own K ∧ Q_if_gt vd rg cc own K ∧ Q_icmp_gt vd rg cc own K ∧ Q_if_le vd rg cc own K ∧ Q_icmp_le vd rg cc own K ∧ Q_ifnullN vd rg cc own K ∧ Q_ifnullR vd rg cc own K ∧ Q_ifnonnullN vd rg cc own K ∧ Q_ifnonnullR vd rg cc own K ∧ Q_tableOut vd rg cc own K ∧ Q_tableIn vd rg cc own K ∧ Q_forget vd rg cc own K ∧ Q_rng vd rg cc own K
section ROWS
variable {α : Type} {vd : α → Nat × Int → Prop} {rg : α → Prop} {cc : ByteArray} {own : String} {K : Nat → Lc → List Vl → α → Prop}
theorem r_iconst (hK : StpC vd rg cc own K) {pc : Nat} {ls : Lc} {st : List Vl} {μ : α} {n : Int} (hd : decode cc pc = .ok (.iconst n, 1)) (hn : (decide (-2147483648 ≤ n) && decide (n < 2147483648)) = true) (k : K (pc + 1) ls (vI n :: st) μ) : K pc ls st μ := hK.1 hd hn k
theorem r_bipush (hK : StpC vd rg cc own K) {pc : Nat} {ls : Lc} {st : List Vl} {μ : α} {n : Int} (hd : decode cc pc = .ok (.bipush n, 2)) (hn : (decide (-128 ≤ n) && decide (n < 128)) = true) (k : K (pc + 2) ls (vI n :: st) μ) : K pc ls st μ := hK.2.1 hd hn k
theorem r_sipush (hK : StpC vd rg cc own K) {pc : Nat} {ls : Lc} {st : List Vl} {μ : α} {n : Int} (hd : decode cc pc = .ok (.sipush n, 3)) (hn : (decide (-32768 ≤ n) && decide (n < 32768)) = true) (k : K (pc + 3) ls (vI n :: st) μ) : K pc ls st μ := hK.2.2.1 hd hn k
theorem r_ldc (hK : StpC vd rg cc own K) {pc : Nat} {ls : Lc} {st : List Vl} {μ : α} {x : Nat} {n : Int} (hd : decode cc pc = .ok (.ldc x, 2)) (hc : Cond.constant own x (i3 n) ∈ gT) (hn : (decide (-2147483648 ≤ n) && decide (n < 2147483648)) = true) (k : K (pc + 2) ls (vI n :: st) μ) : K pc ls st μ := hK.2.2.2.1 hd hc hn k
theorem r_ldcw (hK : StpC vd rg cc own K) {pc : Nat} {ls : Lc} {st : List Vl} {μ : α} {x : Nat} {n : Int} (hd : decode cc pc = .ok (.ldc_w x, 3)) (hc : Cond.constant own x (i3 n) ∈ gT) (hn : (decide (-2147483648 ≤ n) && decide (n < 2147483648)) = true) (k : K (pc + 3) ls (vI n :: st) μ) : K pc ls st μ := hK.2.2.2.2.1 hd hc hn k
theorem r_iload_n (hK : StpC vd rg cc own K) {pc : Nat} {ls : Lc} {st : List Vl} {μ : α} {x : Fin 4} {a : Int} (hd : decode cc pc = .ok (.iload_n x, 1)) (hl : ls[(x : Nat)]? = some (some (vI a))) (k : K (pc + 1) ls (vI a :: st) μ) : K pc ls st μ := hK.2.2.2.2.2.1 hd hl k
theorem r_iload (hK : StpC vd rg cc own K) {pc : Nat} {ls : Lc} {st : List Vl} {μ : α} {x : Nat} {a : Int} (hd : decode cc pc = .ok (.iload x, 2)) (hl : ls[x]? = some (some (vI a))) (k : K (pc + 2) ls (vI a :: st) μ) : K pc ls st μ := hK.2.2.2.2.2.2.1 hd hl k
theorem r_lload_n (hK : StpC vd rg cc own K) {pc : Nat} {ls : Lc} {st : List Vl} {μ : α} {x : Fin 4} {a : Int} (hd : decode cc pc = .ok (.lload_n x, 1)) (hl : ls[(x : Nat)]? = some (some (vL a))) (k : K (pc + 1) ls (vL a :: st) μ) : K pc ls st μ := hK.2.2.2.2.2.2.2.1 hd hl k
theorem r_aload_n (hK : StpC vd rg cc own K) {pc : Nat} {ls : Lc} {st : List Vl} {μ : α} {x : Fin 4} {q : Nat × Int} (hd : decode cc pc = .ok (.aload_n x, 1)) (hl : ls[(x : Nat)]? = some (some (Sum.inr (Sum.inl (some q))))) (k : K (pc + 1) ls (Sum.inr (Sum.inl (some q)) :: st) μ) : K pc ls st μ := hK.2.2.2.2.2.2.2.2.1 hd hl k
theorem r_aload (hK : StpC vd rg cc own K) {pc : Nat} {ls : Lc} {st : List Vl} {μ : α} {x : Nat} {q : Nat × Int} (hd : decode cc pc = .ok (.aload x, 2)) (hl : ls[x]? = some (some (Sum.inr (Sum.inl (some q))))) (k : K (pc + 2) ls (Sum.inr (Sum.inl (some q)) :: st) μ) : K pc ls st μ := hK.2.2.2.2.2.2.2.2.2.1 hd hl k
theorem r_aloadN_n (hK : StpC vd rg cc own K) {pc : Nat} {ls : Lc} {st : List Vl} {μ : α} {x : Fin 4} (hd : decode cc pc = .ok (.aload_n x, 1)) (hl : ls[(x : Nat)]? = some (some (vN))) (k : K (pc + 1) ls (vN :: st) μ) : K pc ls st μ := hK.2.2.2.2.2.2.2.2.2.2.1 hd hl k
theorem r_aloadN (hK : StpC vd rg cc own K) {pc : Nat} {ls : Lc} {st : List Vl} {μ : α} {x : Nat} (hd : decode cc pc = .ok (.aload x, 2)) (hl : ls[x]? = some (some (vN))) (k : K (pc + 2) ls (vN :: st) μ) : K pc ls st μ := hK.2.2.2.2.2.2.2.2.2.2.2.1 hd hl k
theorem r_istore_n (hK : StpC vd rg cc own K) {pc : Nat} {ls : Lc} {st : List Vl} {μ : α} {x : Fin 4} {a : Int} (hd : decode cc pc = .ok (.istore_n x, 1)) (hi : (Nat.blt (x : Nat) ls.length && lfree ls (x : Nat)) = true) (k : K (pc + 1) (ls.set (x : Nat) (some (vI a))) st μ) : K pc ls (vI a :: st) μ := hK.2.2.2.2.2.2.2.2.2.2.2.2.1 hd hi k
theorem r_istore (hK : StpC vd rg cc own K) {pc : Nat} {ls : Lc} {st : List Vl} {μ : α} {x : Nat} {a : Int} (hd : decode cc pc = .ok (.istore x, 2)) (hi : (Nat.blt x ls.length && lfree ls x) = true) (k : K (pc + 2) (ls.set x (some (vI a))) st μ) : K pc ls (vI a :: st) μ := hK.2.2.2.2.2.2.2.2.2.2.2.2.2.1 hd hi k
theorem r_astore_n (hK : StpC vd rg cc own K) {pc : Nat} {ls : Lc} {st : List Vl} {μ : α} {x : Fin 4} {q : Nat × Int} (hd : decode cc pc = .ok (.astore_n x, 1)) (hi : (Nat.blt (x : Nat) ls.length && lfree ls (x : Nat)) = true) (k : K (pc + 1) (ls.set (x : Nat) (some (Sum.inr (Sum.inl (some q))))) st μ) : K pc ls (Sum.inr (Sum.inl (some q)) :: st) μ := hK.2.2.2.2.2.2.2.2.2.2.2.2.2.2.1 hd hi k
theorem r_astore (hK : StpC vd rg cc own K) {pc : Nat} {ls : Lc} {st : List Vl} {μ : α} {x : Nat} {q : Nat × Int} (hd : decode cc pc = .ok (.astore x, 2)) (hi : (Nat.blt x ls.length && lfree ls x) = true) (k : K (pc + 2) (ls.set x (some (Sum.inr (Sum.inl (some q))))) st μ) : K pc ls (Sum.inr (Sum.inl (some q)) :: st) μ := hK.2.2.2.2.2.2.2.2.2.2.2.2.2.2.2.1 hd hi k
theorem r_astoreN_n (hK : StpC vd rg cc own K) {pc : Nat} {ls : Lc} {st : List Vl} {μ : α} {x : Fin 4} (hd : decode cc pc = .ok (.astore_n x, 1)) (hi : (Nat.blt (x : Nat) ls.length && lfree ls (x : Nat)) = true) (k : K (pc + 1) (ls.set (x : Nat) (some (vN))) st μ) : K pc ls (vN :: st) μ := hK.2.2.2.2.2.2.2.2.2.2.2.2.2.2.2.2.1 hd hi k
theorem r_astoreN (hK : StpC vd rg cc own K) {pc : Nat} {ls : Lc} {st : List Vl} {μ : α} {x : Nat} (hd : decode cc pc = .ok (.astore x, 2)) (hi : (Nat.blt x ls.length && lfree ls x) = true) (k : K (pc + 2) (ls.set x (some (vN))) st μ) : K pc ls (vN :: st) μ := hK.2.2.2.2.2.2.2.2.2.2.2.2.2.2.2.2.2.1 hd hi k
theorem r_iinc (hK : StpC vd rg cc own K) {pc : Nat} {ls : Lc} {st : List Vl} {μ : α} {x : Nat} {n a : Int} (hd : decode cc pc = .ok (.iinc x n, 3)) (hl : ls[x]? = some (some (vI a))) (hi : lfree ls x = true) (k : K (pc + 3) (ls.set x (some (vI (wr (a + n))))) st μ) : K pc ls st μ := hK.2.2.2.2.2.2.2.2.2.2.2.2.2.2.2.2.2.2.1 hd hl hi k
theorem r_iadd (hK : StpC vd rg cc own K) {pc : Nat} {ls : Lc} {st : List Vl} {μ : α} {a b : Int} (hd : decode cc pc = .ok (.iadd, 1)) (k : K (pc + 1) ls (vI (wr (a + b)) :: st) μ) : K pc ls (vI b :: vI a :: st) μ := hK.2.2.2.2.2.2.2.2.2.2.2.2.2.2.2.2.2.2.2.1 hd k
theorem r_isub (hK : StpC vd rg cc own K) {pc : Nat} {ls : Lc} {st : List Vl} {μ : α} {a b : Int} (hd : decode cc pc = .ok (.isub, 1)) (k : K (pc + 1) ls (vI (wr (a - b)) :: st) μ) : K pc ls (vI b :: vI a :: st) μ := hK.2.2.2.2.2.2.2.2.2.2.2.2.2.2.2.2.2.2.2.2.1 hd k
theorem r_imul (hK : StpC vd rg cc own K) {pc : Nat} {ls : Lc} {st : List Vl} {μ : α} {a b : Int} (hd : decode cc pc = .ok (.imul, 1)) (k : K (pc + 1) ls (vI (wr (a * b)) :: st) μ) : K pc ls (vI b :: vI a :: st) μ := hK.2.2.2.2.2.2.2.2.2.2.2.2.2.2.2.2.2.2.2.2.2.1 hd k
theorem r_iand (hK : StpC vd rg cc own K) {pc : Nat} {ls : Lc} {st : List Vl} {μ : α} {a b : Int} (hd : decode cc pc = .ok (.iand, 1)) (k : K (pc + 1) ls (vI (iand a b) :: st) μ) : K pc ls (vI b :: vI a :: st) μ := hK.2.2.2.2.2.2.2.2.2.2.2.2.2.2.2.2.2.2.2.2.2.2.1 hd k
theorem r_ior (hK : StpC vd rg cc own K) {pc : Nat} {ls : Lc} {st : List Vl} {μ : α} {a b : Int} (hd : decode cc pc = .ok (.ior, 1)) (k : K (pc + 1) ls (vI (ior a b) :: st) μ) : K pc ls (vI b :: vI a :: st) μ := hK.2.2.2.2.2.2.2.2.2.2.2.2.2.2.2.2.2.2.2.2.2.2.2.1 hd k
theorem r_ixor (hK : StpC vd rg cc own K) {pc : Nat} {ls : Lc} {st : List Vl} {μ : α} {a b : Int} (hd : decode cc pc = .ok (.ixor, 1)) (k : K (pc + 1) ls (vI (ixor a b) :: st) μ) : K pc ls (vI b :: vI a :: st) μ := hK.2.2.2.2.2.2.2.2.2.2.2.2.2.2.2.2.2.2.2.2.2.2.2.2.1 hd k
theorem r_ishl (hK : StpC vd rg cc own K) {pc : Nat} {ls : Lc} {st : List Vl} {μ : α} {a b : Int} (hd : decode cc pc = .ok (.ishl, 1)) (k : K (pc + 1) ls (vI (ishl a b) :: st) μ) : K pc ls (vI b :: vI a :: st) μ := hK.2.2.2.2.2.2.2.2.2.2.2.2.2.2.2.2.2.2.2.2.2.2.2.2.2.1 hd k
theorem r_ishr (hK : StpC vd rg cc own K) {pc : Nat} {ls : Lc} {st : List Vl} {μ : α} {a b : Int} (hd : decode cc pc = .ok (.ishr, 1)) (k : K (pc + 1) ls (vI (ishr a b) :: st) μ) : K pc ls (vI b :: vI a :: st) μ := hK.2.2.2.2.2.2.2.2.2.2.2.2.2.2.2.2.2.2.2.2.2.2.2.2.2.2.1 hd k
theorem r_iushr (hK : StpC vd rg cc own K) {pc : Nat} {ls : Lc} {st : List Vl} {μ : α} {a b : Int} (hd : decode cc pc = .ok (.iushr, 1)) (k : K (pc + 1) ls (vI (iushr a b) :: st) μ) : K pc ls (vI b :: vI a :: st) μ := hK.2.2.2.2.2.2.2.2.2.2.2.2.2.2.2.2.2.2.2.2.2.2.2.2.2.2.2.1 hd k
theorem r_idiv (hK : StpC vd rg cc own K) {pc : Nat} {ls : Lc} {st : List Vl} {μ : α} {a b : Int} (hd : decode cc pc = .ok (.idiv, 1)) (hp : 0 < b) (k : K (pc + 1) ls (vI (a.tdiv b) :: st) μ) : K pc ls (vI b :: vI a :: st) μ := hK.2.2.2.2.2.2.2.2.2.2.2.2.2.2.2.2.2.2.2.2.2.2.2.2.2.2.2.2.1 hd hp k
theorem r_irem (hK : StpC vd rg cc own K) {pc : Nat} {ls : Lc} {st : List Vl} {μ : α} {a b : Int} (hd : decode cc pc = .ok (.irem, 1)) (hp : 0 < b) (k : K (pc + 1) ls (vI (a.tmod b) :: st) μ) : K pc ls (vI b :: vI a :: st) μ := hK.2.2.2.2.2.2.2.2.2.2.2.2.2.2.2.2.2.2.2.2.2.2.2.2.2.2.2.2.2.1 hd hp k
theorem r_ineg (hK : StpC vd rg cc own K) {pc : Nat} {ls : Lc} {st : List Vl} {μ : α} {a : Int} (hd : decode cc pc = .ok (.ineg, 1)) (k : K (pc + 1) ls (vI (wr (-a)) :: st) μ) : K pc ls (vI a :: st) μ := hK.2.2.2.2.2.2.2.2.2.2.2.2.2.2.2.2.2.2.2.2.2.2.2.2.2.2.2.2.2.2.1 hd k
theorem r_i2l (hK : StpC vd rg cc own K) {pc : Nat} {ls : Lc} {st : List Vl} {μ : α} {a : Int} (hd : decode cc pc = .ok (.i2l, 1)) (k : K (pc + 1) ls (vL a :: st) μ) : K pc ls (vI a :: st) μ := hK.2.2.2.2.2.2.2.2.2.2.2.2.2.2.2.2.2.2.2.2.2.2.2.2.2.2.2.2.2.2.2.1 hd k
theorem r_lconst (hK : StpC vd rg cc own K) {pc : Nat} {ls : Lc} {st : List Vl} {μ : α} {n : Fin 2} {a : Int} (hd : decode cc pc = .ok (.lconst n, 1)) (ha : ((n : Nat) : Int) = a) (k : K (pc + 1) ls (vL a :: st) μ) : K pc ls st μ := hK.2.2.2.2.2.2.2.2.2.2.2.2.2.2.2.2.2.2.2.2.2.2.2.2.2.2.2.2.2.2.2.2.1 hd ha k
theorem r_lsub (hK : StpC vd rg cc own K) {pc : Nat} {ls : Lc} {st : List Vl} {μ : α} {a b : Int} (hd : decode cc pc = .ok (.lsub, 1)) (k : K (pc + 1) ls (vL (wl (a - b)) :: st) μ) : K pc ls (vL b :: vL a :: st) μ := hK.2.2.2.2.2.2.2.2.2.2.2.2.2.2.2.2.2.2.2.2.2.2.2.2.2.2.2.2.2.2.2.2.2.1 hd k
theorem r_lcmp (hK : StpC vd rg cc own K) {pc : Nat} {ls : Lc} {st : List Vl} {μ : α} {a b : Int} (hd : decode cc pc = .ok (.lcmp, 1)) (k : K (pc + 1) ls (vI (lcmp a b) :: st) μ) : K pc ls (vL b :: vL a :: st) μ := hK.2.2.2.2.2.2.2.2.2.2.2.2.2.2.2.2.2.2.2.2.2.2.2.2.2.2.2.2.2.2.2.2.2.2.1 hd k
theorem r_dup (hK : StpC vd rg cc own K) {pc : Nat} {ls : Lc} {st : List Vl} {μ : α} {v : Vl} (hd : decode cc pc = .ok (.dup, 1)) (hv : csz v = 1) (k : K (pc + 1) ls (v :: v :: st) μ) : K pc ls (v :: st) μ := hK.2.2.2.2.2.2.2.2.2.2.2.2.2.2.2.2.2.2.2.2.2.2.2.2.2.2.2.2.2.2.2.2.2.2.2.1 hd hv k
theorem r_dup2 (hK : StpC vd rg cc own K) {pc : Nat} {ls : Lc} {st : List Vl} {μ : α} {v u : Vl} (hd : decode cc pc = .ok (.dup2, 1)) (hv : csz v = 1) (hu : csz u = 1) (k : K (pc + 1) ls (v :: u :: v :: u :: st) μ) : K pc ls (v :: u :: st) μ := hK.2.2.2.2.2.2.2.2.2.2.2.2.2.2.2.2.2.2.2.2.2.2.2.2.2.2.2.2.2.2.2.2.2.2.2.2.1 hd hv hu k
theorem r_pop (hK : StpC vd rg cc own K) {pc : Nat} {ls : Lc} {st : List Vl} {μ : α} {v : Vl} (hd : decode cc pc = .ok (.pop, 1)) (hv : csz v = 1) (k : K (pc + 1) ls st μ) : K pc ls (v :: st) μ := hK.2.2.2.2.2.2.2.2.2.2.2.2.2.2.2.2.2.2.2.2.2.2.2.2.2.2.2.2.2.2.2.2.2.2.2.2.2.1 hd hv k
theorem r_goto (hK : StpC vd rg cc own K) {pc : Nat} {ls : Lc} {st : List Vl} {μ : α} {off : Int} {tgt : Nat} (hd : decode cc pc = .ok (.goto off, 3)) (ht : (pc : Int) + off = (tgt : Int)) (k : K tgt ls st μ) : K pc ls st μ := hK.2.2.2.2.2.2.2.2.2.2.2.2.2.2.2.2.2.2.2.2.2.2.2.2.2.2.2.2.2.2.2.2.2.2.2.2.2.2.1 hd ht k
theorem r_null (hK : StpC vd rg cc own K) {pc : Nat} {ls : Lc} {st : List Vl} {μ : α} (hd : decode cc pc = .ok (.aconst_null, 1)) (k : K (pc + 1) ls (vN :: st) μ) : K pc ls st μ := hK.2.2.2.2.2.2.2.2.2.2.2.2.2.2.2.2.2.2.2.2.2.2.2.2.2.2.2.2.2.2.2.2.2.2.2.2.2.2.2.1 hd k
theorem r_if_eq (hK : StpC vd rg cc own K) {pc : Nat} {ls : Lc} {st : List Vl} {μ : α} {a : Int} {off : Int} {tgt : Nat} (hd : decode cc pc = .ok (.ifCond .eq off, 3)) (ht : (pc : Int) + off = (tgt : Int)) (kt : (a = 0) → K tgt ls st μ) (kf : (¬ a = 0) → K (pc + 3) ls st μ) : K pc ls (vI a :: st) μ := hK.2.2.2.2.2.2.2.2.2.2.2.2.2.2.2.2.2.2.2.2.2.2.2.2.2.2.2.2.2.2.2.2.2.2.2.2.2.2.2.2.1 hd ht kt kf
theorem r_icmp_eq (hK : StpC vd rg cc own K) {pc : Nat} {ls : Lc} {st : List Vl} {μ : α} {a b : Int} {off : Int} {tgt : Nat} (hd : decode cc pc = .ok (.if_icmp .eq off, 3)) (ht : (pc : Int) + off = (tgt : Int)) (kt : (a = b) → K tgt ls st μ) (kf : (¬ a = b) → K (pc + 3) ls st μ) : K pc ls (vI b :: vI a :: st) μ := hK.2.2.2.2.2.2.2.2.2.2.2.2.2.2.2.2.2.2.2.2.2.2.2.2.2.2.2.2.2.2.2.2.2.2.2.2.2.2.2.2.2.1 hd ht kt kf
theorem r_if_ne (hK : StpC vd rg cc own K) {pc : Nat} {ls : Lc} {st : List Vl} {μ : α} {a : Int} {off : Int} {tgt : Nat} (hd : decode cc pc = .ok (.ifCond .ne off, 3)) (ht : (pc : Int) + off = (tgt : Int)) (kt : (¬ a = 0) → K tgt ls st μ) (kf : (a = 0) → K (pc + 3) ls st μ) : K pc ls (vI a :: st) μ := hK.2.2.2.2.2.2.2.2.2.2.2.2.2.2.2.2.2.2.2.2.2.2.2.2.2.2.2.2.2.2.2.2.2.2.2.2.2.2.2.2.2.2.1 hd ht kt kf
theorem r_icmp_ne (hK : StpC vd rg cc own K) {pc : Nat} {ls : Lc} {st : List Vl} {μ : α} {a b : Int} {off : Int} {tgt : Nat} (hd : decode cc pc = .ok (.if_icmp .ne off, 3)) (ht : (pc : Int) + off = (tgt : Int)) (kt : (¬ a = b) → K tgt ls st μ) (kf : (a = b) → K (pc + 3) ls st μ) : K pc ls (vI b :: vI a :: st) μ := hK.2.2.2.2.2.2.2.2.2.2.2.2.2.2.2.2.2.2.2.2.2.2.2.2.2.2.2.2.2.2.2.2.2.2.2.2.2.2.2.2.2.2.2.1 hd ht kt kf
theorem r_if_lt (hK : StpC vd rg cc own K) {pc : Nat} {ls : Lc} {st : List Vl} {μ : α} {a : Int} {off : Int} {tgt : Nat} (hd : decode cc pc = .ok (.ifCond .lt off, 3)) (ht : (pc : Int) + off = (tgt : Int)) (kt : (a < 0) → K tgt ls st μ) (kf : (0 ≤ a) → K (pc + 3) ls st μ) : K pc ls (vI a :: st) μ := hK.2.2.2.2.2.2.2.2.2.2.2.2.2.2.2.2.2.2.2.2.2.2.2.2.2.2.2.2.2.2.2.2.2.2.2.2.2.2.2.2.2.2.2.2.1 hd ht kt kf
theorem r_icmp_lt (hK : StpC vd rg cc own K) {pc : Nat} {ls : Lc} {st : List Vl} {μ : α} {a b : Int} {off : Int} {tgt : Nat} (hd : decode cc pc = .ok (.if_icmp .lt off, 3)) (ht : (pc : Int) + off = (tgt : Int)) (kt : (a < b) → K tgt ls st μ) (kf : (b ≤ a) → K (pc + 3) ls st μ) : K pc ls (vI b :: vI a :: st) μ := hK.2.2.2.2.2.2.2.2.2.2.2.2.2.2.2.2.2.2.2.2.2.2.2.2.2.2.2.2.2.2.2.2.2.2.2.2.2.2.2.2.2.2.2.2.2.1 hd ht kt kf
theorem r_if_ge (hK : StpC vd rg cc own K) {pc : Nat} {ls : Lc} {st : List Vl} {μ : α} {a : Int} {off : Int} {tgt : Nat} (hd : decode cc pc = .ok (.ifCond .ge off, 3)) (ht : (pc : Int) + off = (tgt : Int)) (kt : (0 ≤ a) → K tgt ls st μ) (kf : (a < 0) → K (pc + 3) ls st μ) : K pc ls (vI a :: st) μ := hK.2.2.2.2.2.2.2.2.2.2.2.2.2.2.2.2.2.2.2.2.2.2.2.2.2.2.2.2.2.2.2.2.2.2.2.2.2.2.2.2.2.2.2.2.2.2.1 hd ht kt kf
theorem r_icmp_ge (hK : StpC vd rg cc own K) {pc : Nat} {ls : Lc} {st : List Vl} {μ : α} {a b : Int} {off : Int} {tgt : Nat} (hd : decode cc pc = .ok (.if_icmp .ge off, 3)) (ht : (pc : Int) + off = (tgt : Int)) (kt : (b ≤ a) → K tgt ls st μ) (kf : (a < b) → K (pc + 3) ls st μ) : K pc ls (vI b :: vI a :: st) μ := hK.2.2.2.2.2.2.2.2.2.2.2.2.2.2.2.2.2.2.2.2.2.2.2.2.2.2.2.2.2.2.2.2.2.2.2.2.2.2.2.2.2.2.2.2.2.2.2.1 hd ht kt kf
theorem r_if_gt (hK : StpC vd rg cc own K) {pc : Nat} {ls : Lc} {st : List Vl} {μ : α} {a : Int} {off : Int} {tgt : Nat} (hd : decode cc pc = .ok (.ifCond .gt off, 3)) (ht : (pc : Int) + off = (tgt : Int)) (kt : (0 < a) → K tgt ls st μ) (kf : (a ≤ 0) → K (pc + 3) ls st μ) : K pc ls (vI a :: st) μ := hK.2.2.2.2.2.2.2.2.2.2.2.2.2.2.2.2.2.2.2.2.2.2.2.2.2.2.2.2.2.2.2.2.2.2.2.2.2.2.2.2.2.2.2.2.2.2.2.2.1 hd ht kt kf
theorem r_icmp_gt (hK : StpC vd rg cc own K) {pc : Nat} {ls : Lc} {st : List Vl} {μ : α} {a b : Int} {off : Int} {tgt : Nat} (hd : decode cc pc = .ok (.if_icmp .gt off, 3)) (ht : (pc : Int) + off = (tgt : Int)) (kt : (b < a) → K tgt ls st μ) (kf : (a ≤ b) → K (pc + 3) ls st μ) : K pc ls (vI b :: vI a :: st) μ := hK.2.2.2.2.2.2.2.2.2.2.2.2.2.2.2.2.2.2.2.2.2.2.2.2.2.2.2.2.2.2.2.2.2.2.2.2.2.2.2.2.2.2.2.2.2.2.2.2.2.1 hd ht kt kf
theorem r_if_le (hK : StpC vd rg cc own K) {pc : Nat} {ls : Lc} {st : List Vl} {μ : α} {a : Int} {off : Int} {tgt : Nat} (hd : decode cc pc = .ok (.ifCond .le off, 3)) (ht : (pc : Int) + off = (tgt : Int)) (kt : (a ≤ 0) → K tgt ls st μ) (kf : (0 < a) → K (pc + 3) ls st μ) : K pc ls (vI a :: st) μ := hK.2.2.2.2.2.2.2.2.2.2.2.2.2.2.2.2.2.2.2.2.2.2.2.2.2.2.2.2.2.2.2.2.2.2.2.2.2.2.2.2.2.2.2.2.2.2.2.2.2.2.1 hd ht kt kf
theorem r_icmp_le (hK : StpC vd rg cc own K) {pc : Nat} {ls : Lc} {st : List Vl} {μ : α} {a b : Int} {off : Int} {tgt : Nat} (hd : decode cc pc = .ok (.if_icmp .le off, 3)) (ht : (pc : Int) + off = (tgt : Int)) (kt : (a ≤ b) → K tgt ls st μ) (kf : (b < a) → K (pc + 3) ls st μ) : K pc ls (vI b :: vI a :: st) μ := hK.2.2.2.2.2.2.2.2.2.2.2.2.2.2.2.2.2.2.2.2.2.2.2.2.2.2.2.2.2.2.2.2.2.2.2.2.2.2.2.2.2.2.2.2.2.2.2.2.2.2.2.1 hd ht kt kf
theorem r_ifnullN (hK : StpC vd rg cc own K) {pc : Nat} {ls : Lc} {st : List Vl} {μ : α} {off : Int} {tgt : Nat} (hd : decode cc pc = .ok (.ifnull off, 3)) (ht : (pc : Int) + off = (tgt : Int)) (k : K tgt ls st μ) : K pc ls (vN :: st) μ := hK.2.2.2.2.2.2.2.2.2.2.2.2.2.2.2.2.2.2.2.2.2.2.2.2.2.2.2.2.2.2.2.2.2.2.2.2.2.2.2.2.2.2.2.2.2.2.2.2.2.2.2.2.1 hd ht k
theorem r_ifnullR (hK : StpC vd rg cc own K) {pc : Nat} {ls : Lc} {st : List Vl} {μ : α} {off : Int} {q : Nat × Int} (hd : decode cc pc = .ok (.ifnull off, 3)) (k : K (pc + 3) ls st μ) : K pc ls (Sum.inr (Sum.inl (some q)) :: st) μ := hK.2.2.2.2.2.2.2.2.2.2.2.2.2.2.2.2.2.2.2.2.2.2.2.2.2.2.2.2.2.2.2.2.2.2.2.2.2.2.2.2.2.2.2.2.2.2.2.2.2.2.2.2.2.1 hd k
theorem r_ifnonnullN (hK : StpC vd rg cc own K) {pc : Nat} {ls : Lc} {st : List Vl} {μ : α} {off : Int} (hd : decode cc pc = .ok (.ifnonnull off, 3)) (k : K (pc + 3) ls st μ) : K pc ls (vN :: st) μ := hK.2.2.2.2.2.2.2.2.2.2.2.2.2.2.2.2.2.2.2.2.2.2.2.2.2.2.2.2.2.2.2.2.2.2.2.2.2.2.2.2.2.2.2.2.2.2.2.2.2.2.2.2.2.2.1 hd k
theorem r_ifnonnullR (hK : StpC vd rg cc own K) {pc : Nat} {ls : Lc} {st : List Vl} {μ : α} {off : Int} {tgt : Nat} {q : Nat × Int} (hd : decode cc pc = .ok (.ifnonnull off, 3)) (ht : (pc : Int) + off = (tgt : Int)) (k : K tgt ls st μ) : K pc ls (Sum.inr (Sum.inl (some q)) :: st) μ := hK.2.2.2.2.2.2.2.2.2.2.2.2.2.2.2.2.2.2.2.2.2.2.2.2.2.2.2.2.2.2.2.2.2.2.2.2.2.2.2.2.2.2.2.2.2.2.2.2.2.2.2.2.2.2.2.1 hd ht k
theorem r_tableOut (hK : StpC vd rg cc own K) {pc : Nat} {ls : Lc} {st : List Vl} {μ : α} {a dflt lo hi : Int} {offs : Array Int} {len tgt : Nat} (hd : decode cc pc = .ok (.tableswitch dflt lo hi offs, len)) (h : a < lo ∨ hi < a) (ht : (pc : Int) + dflt = (tgt : Int)) (k : K tgt ls st μ) : K pc ls (vI a :: st) μ := hK.2.2.2.2.2.2.2.2.2.2.2.2.2.2.2.2.2.2.2.2.2.2.2.2.2.2.2.2.2.2.2.2.2.2.2.2.2.2.2.2.2.2.2.2.2.2.2.2.2.2.2.2.2.2.2.2.1 hd h ht k
theorem r_tableIn (hK : StpC vd rg cc own K) {pc : Nat} {ls : Lc} {st : List Vl} {μ : α} {a dflt lo hi off : Int} {offs : Array Int} {len tgt : Nat} (hd : decode cc pc = .ok (.tableswitch dflt lo hi offs, len)) (h1 : lo ≤ a) (h2 : a ≤ hi) (ho : offs[(a - lo).toNat]? = some off) (ht : (pc : Int) + off = (tgt : Int)) (k : K tgt ls st μ) : K pc ls (vI a :: st) μ := hK.2.2.2.2.2.2.2.2.2.2.2.2.2.2.2.2.2.2.2.2.2.2.2.2.2.2.2.2.2.2.2.2.2.2.2.2.2.2.2.2.2.2.2.2.2.2.2.2.2.2.2.2.2.2.2.2.2.1 hd h1 h2 ho ht k
theorem r_forget (hK : StpC vd rg cc own K) {pc : Nat} {ls : Lc} {st : List Vl} {μ : α} {ls2 : Lc} (hs : lsub ls2 ls) (k : K pc ls2 st μ) : K pc ls st μ := hK.2.2.2.2.2.2.2.2.2.2.2.2.2.2.2.2.2.2.2.2.2.2.2.2.2.2.2.2.2.2.2.2.2.2.2.2.2.2.2.2.2.2.2.2.2.2.2.2.2.2.2.2.2.2.2.2.2.2.1 hs k
theorem r_rng (hK : StpC vd rg cc own K) {pc : Nat} {ls : Lc} {st : List Vl} {μ : α} (k : (rg μ → (∀ v : Vl, some v ∈ ls → rV (vd μ) v) → K pc ls st μ)) : K pc ls st μ := hK.2.2.2.2.2.2.2.2.2.2.2.2.2.2.2.2.2.2.2.2.2.2.2.2.2.2.2.2.2.2.2.2.2.2.2.2.2.2.2.2.2.2.2.2.2.2.2.2.2.2.2.2.2.2.2.2.2.2.2 k
end ROWS
section GMR
variable {α : Type} {ad : Nat → Int → Nat} {vd : α → Nat × Int → Prop} {Wd : α → Heap → Prop} {cf sf : α → Nat} {rg : α → Prop}
variable {p : Program} {l : Launch} {e : Env} {R : Room} {s : State} {m : MethodId} {args : Array Value} {below : List Frame} {meth : Method} {c : Code} {A : Nat → Prop} {Q : State → Prop} {nL : Nat} {cc : ByteArray} {own : String}
theorem g_iconst (CX : Cx p s m args meth c cc own nL) : Q_iconst vd rg cc own (Gm ad vd Wd cf sf rg p l e R s m args below meth c A Q nL) := by
  obtain ⟨hx, hb, hml, hown, hts, hnest, hlk⟩ := CX
  intro pc ls st μ n hd hn k
  intro g1 g2 g3 H locs lsA g4 g5 g6
  have k' := k g1 g2 (rS_cons.mpr ⟨inR_lit hn, g3⟩) H locs lsA g4 g5 g6
  simp only [List.map_cons, mv] at k'
  exact lv_iconst hx hb hd rfl k'
theorem g_bipush (CX : Cx p s m args meth c cc own nL) : Q_bipush vd rg cc own (Gm ad vd Wd cf sf rg p l e R s m args below meth c A Q nL) := by
  obtain ⟨hx, hb, hml, hown, hts, hnest, hlk⟩ := CX
  intro pc ls st μ n hd hn k
  intro g1 g2 g3 H locs lsA g4 g5 g6
  simp only [Bool.and_eq_true, decide_eq_true_eq] at hn
  have k' := k g1 g2 (rS_cons.mpr ⟨⟨by omega, by omega⟩, g3⟩) H locs lsA g4 g5 g6
  simp only [List.map_cons, mv] at k'
  exact lv_bipush hx hb hd (Int8.toInt32_ofInt (by have := hn.1; exact this) (by have := hn.2; exact Int.le_of_lt_add_one this)) k'
theorem g_sipush (CX : Cx p s m args meth c cc own nL) : Q_sipush vd rg cc own (Gm ad vd Wd cf sf rg p l e R s m args below meth c A Q nL) := by
  obtain ⟨hx, hb, hml, hown, hts, hnest, hlk⟩ := CX
  intro pc ls st μ n hd hn k
  intro g1 g2 g3 H locs lsA g4 g5 g6
  simp only [Bool.and_eq_true, decide_eq_true_eq] at hn
  have k' := k g1 g2 (rS_cons.mpr ⟨⟨by omega, by omega⟩, g3⟩) H locs lsA g4 g5 g6
  simp only [List.map_cons, mv] at k'
  exact lv_sipush hx hb hd (Int16.toInt32_ofInt (by have := hn.1; exact this) (by have := hn.2; exact Int.le_of_lt_add_one this)) k'
theorem g_ldc (CX : Cx p s m args meth c cc own nL) : Q_ldc vd rg cc own (Gm ad vd Wd cf sf rg p l e R s m args below meth c A Q nL) := by
  obtain ⟨hx, hb, hml, hown, hts, hnest, hlk⟩ := CX
  intro pc ls st μ x n hd hc hn k
  intro g1 g2 g3 H locs lsA g4 g5 g6
  have k' := k g1 g2 (rS_cons.mpr ⟨inR_lit hn, g3⟩) H locs lsA g4 g5 g6
  simp only [List.map_cons, mv] at k'
  exact lv_ldc hx hb hown (hts _ hc) hd k'
theorem g_ldcw (CX : Cx p s m args meth c cc own nL) : Q_ldcw vd rg cc own (Gm ad vd Wd cf sf rg p l e R s m args below meth c A Q nL) := by
  obtain ⟨hx, hb, hml, hown, hts, hnest, hlk⟩ := CX
  intro pc ls st μ x n hd hc hn k
  intro g1 g2 g3 H locs lsA g4 g5 g6
  have k' := k g1 g2 (rS_cons.mpr ⟨inR_lit hn, g3⟩) H locs lsA g4 g5 g6
  simp only [List.map_cons, mv] at k'
  exact lv_ldcw hx hb hown (hts _ hc) hd k'
theorem g_iload_n (CX : Cx p s m args meth c cc own nL) : Q_iload_n vd rg cc own (Gm ad vd Wd cf sf rg p l e R s m args below meth c A Q nL) := by
  obtain ⟨hx, hb, hml, hown, hts, hnest, hlk⟩ := CX
  intro pc ls st μ x a hd hl k
  intro g1 g2 g3 H locs lsA g4 g5 g6
  have hv := g2 _ (List.mem_of_getElem? hl)
  have hl' := g6.at hl
  have k' := k g1 g2 (rS_cons.mpr ⟨hv, g3⟩) H locs lsA g4 g5 g6
  simp only [List.map_cons, mv] at k' hl'
  exact lv_iload_n hx hb hd rfl hl' k'
theorem g_iload (CX : Cx p s m args meth c cc own nL) : Q_iload vd rg cc own (Gm ad vd Wd cf sf rg p l e R s m args below meth c A Q nL) := by
  obtain ⟨hx, hb, hml, hown, hts, hnest, hlk⟩ := CX
  intro pc ls st μ x a hd hl k
  intro g1 g2 g3 H locs lsA g4 g5 g6
  have hv := g2 _ (List.mem_of_getElem? hl)
  have hl' := g6.at hl
  have k' := k g1 g2 (rS_cons.mpr ⟨hv, g3⟩) H locs lsA g4 g5 g6
  simp only [List.map_cons, mv] at k' hl'
  exact lv_iload hx hb hd hl' k'
theorem g_lload_n (CX : Cx p s m args meth c cc own nL) : Q_lload_n vd rg cc own (Gm ad vd Wd cf sf rg p l e R s m args below meth c A Q nL) := by
  obtain ⟨hx, hb, hml, hown, hts, hnest, hlk⟩ := CX
  intro pc ls st μ x a hd hl k
  intro g1 g2 g3 H locs lsA g4 g5 g6
  have hv := g2 _ (List.mem_of_getElem? hl)
  have hl' := g6.at hl
  have k' := k g1 g2 (rS_cons.mpr ⟨hv, g3⟩) H locs lsA g4 g5 g6
  simp only [List.map_cons, mv] at k' hl'
  exact lv_lload_n hx hb hd rfl hl' k'
theorem g_aload_n (CX : Cx p s m args meth c cc own nL) : Q_aload_n vd rg cc own (Gm ad vd Wd cf sf rg p l e R s m args below meth c A Q nL) := by
  obtain ⟨hx, hb, hml, hown, hts, hnest, hlk⟩ := CX
  intro pc ls st μ x q hd hl k
  intro g1 g2 g3 H locs lsA g4 g5 g6
  have hv := g2 _ (List.mem_of_getElem? hl)
  have hl' := g6.at hl
  have k' := k g1 g2 (rS_cons.mpr ⟨hv, g3⟩) H locs lsA g4 g5 g6
  simp only [List.map_cons, mv] at k' hl'
  exact lv_aload_n hx hb hd rfl hl' k'
theorem g_aload (CX : Cx p s m args meth c cc own nL) : Q_aload vd rg cc own (Gm ad vd Wd cf sf rg p l e R s m args below meth c A Q nL) := by
  obtain ⟨hx, hb, hml, hown, hts, hnest, hlk⟩ := CX
  intro pc ls st μ x q hd hl k
  intro g1 g2 g3 H locs lsA g4 g5 g6
  have hv := g2 _ (List.mem_of_getElem? hl)
  have hl' := g6.at hl
  have k' := k g1 g2 (rS_cons.mpr ⟨hv, g3⟩) H locs lsA g4 g5 g6
  simp only [List.map_cons, mv] at k' hl'
  exact lv_aload hx hb hd hl' k'
theorem g_aloadN_n (CX : Cx p s m args meth c cc own nL) : Q_aloadN_n vd rg cc own (Gm ad vd Wd cf sf rg p l e R s m args below meth c A Q nL) := by
  obtain ⟨hx, hb, hml, hown, hts, hnest, hlk⟩ := CX
  intro pc ls st μ x hd hl k
  intro g1 g2 g3 H locs lsA g4 g5 g6
  have hv := g2 _ (List.mem_of_getElem? hl)
  have hl' := g6.at hl
  have k' := k g1 g2 (rS_cons.mpr ⟨hv, g3⟩) H locs lsA g4 g5 g6
  simp only [List.map_cons, mv] at k' hl'
  exact gm_aloadN_n hx hb hd rfl hl' k'
theorem g_aloadN (CX : Cx p s m args meth c cc own nL) : Q_aloadN vd rg cc own (Gm ad vd Wd cf sf rg p l e R s m args below meth c A Q nL) := by
  obtain ⟨hx, hb, hml, hown, hts, hnest, hlk⟩ := CX
  intro pc ls st μ x hd hl k
  intro g1 g2 g3 H locs lsA g4 g5 g6
  have hv := g2 _ (List.mem_of_getElem? hl)
  have hl' := g6.at hl
  have k' := k g1 g2 (rS_cons.mpr ⟨hv, g3⟩) H locs lsA g4 g5 g6
  simp only [List.map_cons, mv] at k' hl'
  exact lv_aloadN hx hb hd hl' k'
theorem g_istore_n (CX : Cx p s m args meth c cc own nL) : Q_istore_n vd rg cc own (Gm ad vd Wd cf sf rg p l e R s m args below meth c A Q nL) := by
  obtain ⟨hx, hb, hml, hown, hts, hnest, hlk⟩ := CX
  intro pc ls st μ x a hd hi k
  intro g1 g2 g3 H locs lsA g4 g5 g6
  obtain ⟨q1, g3⟩ := rS_cons.mp g3
  simp only [Bool.and_eq_true] at hi
  have hlt : ((x : Nat) : Nat) < nL := by rw [← g6.1]; exact Nat.blt_eq.mp hi.1
  have hv := mv_cat ad (vI a)
  refine lv_istore_n hx hb hd rfl g6.2 hlt rfl (fun lsB h => ?_)
  exact k g1 (fun v hv => by
    rcases List.mem_or_eq_of_mem_set hv with h | h
    · exact g2 v h
    · cases h; exact q1) g3 H locs lsB g4 g5 (g6.set (v := vI a) hi.2 h)
theorem g_istore (CX : Cx p s m args meth c cc own nL) : Q_istore vd rg cc own (Gm ad vd Wd cf sf rg p l e R s m args below meth c A Q nL) := by
  obtain ⟨hx, hb, hml, hown, hts, hnest, hlk⟩ := CX
  intro pc ls st μ x a hd hi k
  intro g1 g2 g3 H locs lsA g4 g5 g6
  obtain ⟨q1, g3⟩ := rS_cons.mp g3
  simp only [Bool.and_eq_true] at hi
  have hlt : (x : Nat) < nL := by rw [← g6.1]; exact Nat.blt_eq.mp hi.1
  have hv := mv_cat ad (vI a)
  refine lv_istore hx hb hd g6.2 hlt rfl (fun lsB h => ?_)
  exact k g1 (fun v hv => by
    rcases List.mem_or_eq_of_mem_set hv with h | h
    · exact g2 v h
    · cases h; exact q1) g3 H locs lsB g4 g5 (g6.set (v := vI a) hi.2 h)
theorem g_astore_n (CX : Cx p s m args meth c cc own nL) : Q_astore_n vd rg cc own (Gm ad vd Wd cf sf rg p l e R s m args below meth c A Q nL) := by
  obtain ⟨hx, hb, hml, hown, hts, hnest, hlk⟩ := CX
  intro pc ls st μ x q hd hi k
  intro g1 g2 g3 H locs lsA g4 g5 g6
  obtain ⟨q1, g3⟩ := rS_cons.mp g3
  simp only [Bool.and_eq_true] at hi
  have hlt : ((x : Nat) : Nat) < nL := by rw [← g6.1]; exact Nat.blt_eq.mp hi.1
  have hv := mv_cat ad (Sum.inr (Sum.inl (some q)))
  refine lv_astore_n hx hb hd rfl g6.2 hlt rfl (fun lsB h => ?_)
  exact k g1 (fun v hv => by
    rcases List.mem_or_eq_of_mem_set hv with h | h
    · exact g2 v h
    · cases h; exact q1) g3 H locs lsB g4 g5 (g6.set (v := Sum.inr (Sum.inl (some q))) hi.2 h)
theorem g_astore (CX : Cx p s m args meth c cc own nL) : Q_astore vd rg cc own (Gm ad vd Wd cf sf rg p l e R s m args below meth c A Q nL) := by
  obtain ⟨hx, hb, hml, hown, hts, hnest, hlk⟩ := CX
  intro pc ls st μ x q hd hi k
  intro g1 g2 g3 H locs lsA g4 g5 g6
  obtain ⟨q1, g3⟩ := rS_cons.mp g3
  simp only [Bool.and_eq_true] at hi
  have hlt : (x : Nat) < nL := by rw [← g6.1]; exact Nat.blt_eq.mp hi.1
  have hv := mv_cat ad (Sum.inr (Sum.inl (some q)))
  refine lv_astore hx hb hd g6.2 hlt rfl (fun lsB h => ?_)
  exact k g1 (fun v hv => by
    rcases List.mem_or_eq_of_mem_set hv with h | h
    · exact g2 v h
    · cases h; exact q1) g3 H locs lsB g4 g5 (g6.set (v := Sum.inr (Sum.inl (some q))) hi.2 h)
theorem g_astoreN_n (CX : Cx p s m args meth c cc own nL) : Q_astoreN_n vd rg cc own (Gm ad vd Wd cf sf rg p l e R s m args below meth c A Q nL) := by
  obtain ⟨hx, hb, hml, hown, hts, hnest, hlk⟩ := CX
  intro pc ls st μ x hd hi k
  intro g1 g2 g3 H locs lsA g4 g5 g6
  obtain ⟨q1, g3⟩ := rS_cons.mp g3
  simp only [Bool.and_eq_true] at hi
  have hlt : ((x : Nat) : Nat) < nL := by rw [← g6.1]; exact Nat.blt_eq.mp hi.1
  have hv := mv_cat ad (vN)
  refine gm_astoreN_n hx hb hd rfl g6.2 hlt rfl (fun lsB h => ?_)
  exact k g1 (fun v hv => by
    rcases List.mem_or_eq_of_mem_set hv with h | h
    · exact g2 v h
    · cases h; exact q1) g3 H locs lsB g4 g5 (g6.set (v := vN) hi.2 h)
theorem g_astoreN (CX : Cx p s m args meth c cc own nL) : Q_astoreN vd rg cc own (Gm ad vd Wd cf sf rg p l e R s m args below meth c A Q nL) := by
  obtain ⟨hx, hb, hml, hown, hts, hnest, hlk⟩ := CX
  intro pc ls st μ x hd hi k
  intro g1 g2 g3 H locs lsA g4 g5 g6
  obtain ⟨q1, g3⟩ := rS_cons.mp g3
  simp only [Bool.and_eq_true] at hi
  have hlt : (x : Nat) < nL := by rw [← g6.1]; exact Nat.blt_eq.mp hi.1
  have hv := mv_cat ad (vN)
  refine lv_astoreN hx hb hd g6.2 hlt rfl (fun lsB h => ?_)
  exact k g1 (fun v hv => by
    rcases List.mem_or_eq_of_mem_set hv with h | h
    · exact g2 v h
    · cases h; exact q1) g3 H locs lsB g4 g5 (g6.set (v := vN) hi.2 h)
theorem g_iinc (CX : Cx p s m args meth c cc own nL) : Q_iinc vd rg cc own (Gm ad vd Wd cf sf rg p l e R s m args below meth c A Q nL) := by
  obtain ⟨hx, hb, hml, hown, hts, hnest, hlk⟩ := CX
  intro pc ls st μ x n a hd hl hi k
  intro g1 g2 g3 H locs lsA g4 g5 g6
  have hlt : x < nL := by rw [← g6.1]; exact (List.getElem?_eq_some_iff.mp hl).1
  obtain ⟨j, hj⟩ := List.getElem?_of_mem (lpairs_mem (ad := ad).mpr ⟨x, vI a, hl, rfl⟩)
  rw [Nat.zero_add] at hj
  refine lv_iinc hx hb hd g6.2 hj (v := i3 (wr (a + n))) (by rw [i3_wr, i3_add]; rfl) hlt rfl (fun lsB h => ?_)
  exact k g1 (fun v hv => by
    rcases List.mem_or_eq_of_mem_set hv with h | h
    · exact g2 v h
    · cases h; exact inR_wr _) g3 H locs lsB g4 g5 (g6.set (v := vI (wr (a + n))) hi h)
theorem g_iadd (CX : Cx p s m args meth c cc own nL) : Q_iadd vd rg cc own (Gm ad vd Wd cf sf rg p l e R s m args below meth c A Q nL) := by
  obtain ⟨hx, hb, hml, hown, hts, hnest, hlk⟩ := CX
  intro pc ls st μ a b hd k
  intro g1 g2 g3 H locs lsA g4 g5 g6
  obtain ⟨q1, g3⟩ := rS_cons.mp g3
  obtain ⟨q2, g3⟩ := rS_cons.mp g3
  have k' := k g1 g2 (rS_cons.mpr ⟨inR_of _, g3⟩) H locs lsA g4 g5 g6
  simp only [List.map_cons, mv, i3_wr, i3_add] at k'
  exact lv_iadd hx hb hd k'
theorem g_isub (CX : Cx p s m args meth c cc own nL) : Q_isub vd rg cc own (Gm ad vd Wd cf sf rg p l e R s m args below meth c A Q nL) := by
  obtain ⟨hx, hb, hml, hown, hts, hnest, hlk⟩ := CX
  intro pc ls st μ a b hd k
  intro g1 g2 g3 H locs lsA g4 g5 g6
  obtain ⟨q1, g3⟩ := rS_cons.mp g3
  obtain ⟨q2, g3⟩ := rS_cons.mp g3
  have k' := k g1 g2 (rS_cons.mpr ⟨inR_of _, g3⟩) H locs lsA g4 g5 g6
  simp only [List.map_cons, mv, i3_wr, i3_sub] at k'
  exact lv_isub hx hb hd k'
theorem g_imul (CX : Cx p s m args meth c cc own nL) : Q_imul vd rg cc own (Gm ad vd Wd cf sf rg p l e R s m args below meth c A Q nL) := by
  obtain ⟨hx, hb, hml, hown, hts, hnest, hlk⟩ := CX
  intro pc ls st μ a b hd k
  intro g1 g2 g3 H locs lsA g4 g5 g6
  obtain ⟨q1, g3⟩ := rS_cons.mp g3
  obtain ⟨q2, g3⟩ := rS_cons.mp g3
  have k' := k g1 g2 (rS_cons.mpr ⟨inR_of _, g3⟩) H locs lsA g4 g5 g6
  simp only [List.map_cons, mv, i3_wr, i3_mul] at k'
  exact lv_imul hx hb hd k'
theorem g_iand (CX : Cx p s m args meth c cc own nL) : Q_iand vd rg cc own (Gm ad vd Wd cf sf rg p l e R s m args below meth c A Q nL) := by
  obtain ⟨hx, hb, hml, hown, hts, hnest, hlk⟩ := CX
  intro pc ls st μ a b hd k
  intro g1 g2 g3 H locs lsA g4 g5 g6
  obtain ⟨q1, g3⟩ := rS_cons.mp g3
  obtain ⟨q2, g3⟩ := rS_cons.mp g3
  have k' := k g1 g2 (rS_cons.mpr ⟨inR_of _, g3⟩) H locs lsA g4 g5 g6
  simp only [List.map_cons, mv, iand, i3_of] at k'
  exact lv_iand hx hb hd k'
theorem g_ior (CX : Cx p s m args meth c cc own nL) : Q_ior vd rg cc own (Gm ad vd Wd cf sf rg p l e R s m args below meth c A Q nL) := by
  obtain ⟨hx, hb, hml, hown, hts, hnest, hlk⟩ := CX
  intro pc ls st μ a b hd k
  intro g1 g2 g3 H locs lsA g4 g5 g6
  obtain ⟨q1, g3⟩ := rS_cons.mp g3
  obtain ⟨q2, g3⟩ := rS_cons.mp g3
  have k' := k g1 g2 (rS_cons.mpr ⟨inR_of _, g3⟩) H locs lsA g4 g5 g6
  simp only [List.map_cons, mv, ior, i3_of] at k'
  exact lv_ior hx hb hd k'
theorem g_ixor (CX : Cx p s m args meth c cc own nL) : Q_ixor vd rg cc own (Gm ad vd Wd cf sf rg p l e R s m args below meth c A Q nL) := by
  obtain ⟨hx, hb, hml, hown, hts, hnest, hlk⟩ := CX
  intro pc ls st μ a b hd k
  intro g1 g2 g3 H locs lsA g4 g5 g6
  obtain ⟨q1, g3⟩ := rS_cons.mp g3
  obtain ⟨q2, g3⟩ := rS_cons.mp g3
  have k' := k g1 g2 (rS_cons.mpr ⟨inR_of _, g3⟩) H locs lsA g4 g5 g6
  simp only [List.map_cons, mv, ixor, i3_of] at k'
  exact lv_ixor hx hb hd k'
theorem g_ishl (CX : Cx p s m args meth c cc own nL) : Q_ishl vd rg cc own (Gm ad vd Wd cf sf rg p l e R s m args below meth c A Q nL) := by
  obtain ⟨hx, hb, hml, hown, hts, hnest, hlk⟩ := CX
  intro pc ls st μ a b hd k
  intro g1 g2 g3 H locs lsA g4 g5 g6
  obtain ⟨q1, g3⟩ := rS_cons.mp g3
  obtain ⟨q2, g3⟩ := rS_cons.mp g3
  have k' := k g1 g2 (rS_cons.mpr ⟨inR_of _, g3⟩) H locs lsA g4 g5 g6
  simp only [List.map_cons, mv, ishl, i3_of] at k'
  exact lv_ishl hx hb hd k'
theorem g_ishr (CX : Cx p s m args meth c cc own nL) : Q_ishr vd rg cc own (Gm ad vd Wd cf sf rg p l e R s m args below meth c A Q nL) := by
  obtain ⟨hx, hb, hml, hown, hts, hnest, hlk⟩ := CX
  intro pc ls st μ a b hd k
  intro g1 g2 g3 H locs lsA g4 g5 g6
  obtain ⟨q1, g3⟩ := rS_cons.mp g3
  obtain ⟨q2, g3⟩ := rS_cons.mp g3
  have k' := k g1 g2 (rS_cons.mpr ⟨inR_of _, g3⟩) H locs lsA g4 g5 g6
  simp only [List.map_cons, mv, ishr, i3_of] at k'
  exact lv_ishr hx hb hd k'
theorem g_iushr (CX : Cx p s m args meth c cc own nL) : Q_iushr vd rg cc own (Gm ad vd Wd cf sf rg p l e R s m args below meth c A Q nL) := by
  obtain ⟨hx, hb, hml, hown, hts, hnest, hlk⟩ := CX
  intro pc ls st μ a b hd k
  intro g1 g2 g3 H locs lsA g4 g5 g6
  obtain ⟨q1, g3⟩ := rS_cons.mp g3
  obtain ⟨q2, g3⟩ := rS_cons.mp g3
  have k' := k g1 g2 (rS_cons.mpr ⟨inR_of _, g3⟩) H locs lsA g4 g5 g6
  simp only [List.map_cons, mv, iushr, i3_of] at k'
  exact lv_iushr hx hb hd rfl k'
theorem g_idiv (CX : Cx p s m args meth c cc own nL) : Q_idiv vd rg cc own (Gm ad vd Wd cf sf rg p l e R s m args below meth c A Q nL) := by
  obtain ⟨hx, hb, hml, hown, hts, hnest, hlk⟩ := CX
  intro pc ls st μ a b hd hp k
  intro g1 g2 g3 H locs lsA g4 g5 g6
  obtain ⟨q1, g3⟩ := rS_cons.mp g3
  obtain ⟨q2, g3⟩ := rS_cons.mp g3
  have k' := k g1 g2 (rS_cons.mpr ⟨tdiv_inR q2 hp, g3⟩) H locs lsA g4 g5 g6
  simp only [List.map_cons, mv] at k'
  exact lv_idiv hx hb hd (fun h => by have h1 := (i3_inj (b := 0) q1 (inR_lit rfl)).mp h; omega) (by rw [i3_div q2 q1] at k'; exact k')
theorem g_irem (CX : Cx p s m args meth c cc own nL) : Q_irem vd rg cc own (Gm ad vd Wd cf sf rg p l e R s m args below meth c A Q nL) := by
  obtain ⟨hx, hb, hml, hown, hts, hnest, hlk⟩ := CX
  intro pc ls st μ a b hd hp k
  intro g1 g2 g3 H locs lsA g4 g5 g6
  obtain ⟨q1, g3⟩ := rS_cons.mp g3
  obtain ⟨q2, g3⟩ := rS_cons.mp g3
  have k' := k g1 g2 (rS_cons.mpr ⟨tmod_inR q2 hp q1, g3⟩) H locs lsA g4 g5 g6
  simp only [List.map_cons, mv] at k'
  exact lv_irem hx hb hd (fun h => by have h1 := (i3_inj (b := 0) q1 (inR_lit rfl)).mp h; omega) (by rw [← tmod_eq, i3_sub, i3_mul, i3_div q2 q1] at k'; exact k')
theorem g_ineg (CX : Cx p s m args meth c cc own nL) : Q_ineg vd rg cc own (Gm ad vd Wd cf sf rg p l e R s m args below meth c A Q nL) := by
  obtain ⟨hx, hb, hml, hown, hts, hnest, hlk⟩ := CX
  intro pc ls st μ a hd k
  intro g1 g2 g3 H locs lsA g4 g5 g6
  obtain ⟨q1, g3⟩ := rS_cons.mp g3
  have k' := k g1 g2 (rS_cons.mpr ⟨inR_wr _, g3⟩) H locs lsA g4 g5 g6
  simp only [List.map_cons, mv, i3_wr, i3_neg] at k'
  exact lv_ineg hx hb hd k'
theorem g_i2l (CX : Cx p s m args meth c cc own nL) : Q_i2l vd rg cc own (Gm ad vd Wd cf sf rg p l e R s m args below meth c A Q nL) := by
  obtain ⟨hx, hb, hml, hown, hts, hnest, hlk⟩ := CX
  intro pc ls st μ a hd k
  intro g1 g2 g3 H locs lsA g4 g5 g6
  obtain ⟨q1, g3⟩ := rS_cons.mp g3
  have k' := k g1 g2 (rS_cons.mpr ⟨(by obtain ⟨h1, h2⟩ := (show inR a from q1); constructor <;> omega), g3⟩) H locs lsA g4 g5 g6
  simp only [List.map_cons, mv] at k'
  exact lv_i2l hx hb hd (Int32.toInt64_ofInt (by have := (show inR a from q1).1; exact this) (by have := (show inR a from q1).2; exact Int.le_of_lt_add_one this)) k'
theorem g_lconst (CX : Cx p s m args meth c cc own nL) : Q_lconst vd rg cc own (Gm ad vd Wd cf sf rg p l e R s m args below meth c A Q nL) := by
  obtain ⟨hx, hb, hml, hown, hts, hnest, hlk⟩ := CX
  intro pc ls st μ n a hd ha k
  intro g1 g2 g3 H locs lsA g4 g5 g6
  subst ha
  have k' := k g1 g2 (rS_cons.mpr ⟨(by have := n.isLt; constructor <;> omega), g3⟩) H locs lsA g4 g5 g6
  simp only [List.map_cons, mv] at k'
  exact lv_lconst hx hb hd (by rfl) k'
theorem g_lsub (CX : Cx p s m args meth c cc own nL) : Q_lsub vd rg cc own (Gm ad vd Wd cf sf rg p l e R s m args below meth c A Q nL) := by
  obtain ⟨hx, hb, hml, hown, hts, hnest, hlk⟩ := CX
  intro pc ls st μ a b hd k
  intro g1 g2 g3 H locs lsA g4 g5 g6
  obtain ⟨q1, g3⟩ := rS_cons.mp g3
  obtain ⟨q2, g3⟩ := rS_cons.mp g3
  have k' := k g1 g2 (rS_cons.mpr ⟨⟨Int64.le_toInt _, Int64.toInt_lt _⟩, g3⟩) H locs lsA g4 g5 g6
  simp only [List.map_cons, mv, wl, Int64.ofInt_toInt, Int64.ofInt_sub] at k'
  exact lv_lsub hx hb hd k'
theorem g_lcmp (CX : Cx p s m args meth c cc own nL) : Q_lcmp vd rg cc own (Gm ad vd Wd cf sf rg p l e R s m args below meth c A Q nL) := by
  obtain ⟨hx, hb, hml, hown, hts, hnest, hlk⟩ := CX
  intro pc ls st μ a b hd k
  intro g1 g2 g3 H locs lsA g4 g5 g6
  obtain ⟨q1, g3⟩ := rS_cons.mp g3
  obtain ⟨q2, g3⟩ := rS_cons.mp g3
  have k' := k g1 g2 (rS_cons.mpr ⟨(by show inR (lcmp a b); unfold lcmp; split <;> (try split) <;> exact inR_lit rfl), g3⟩) H locs lsA g4 g5 g6
  have e : i3 (lcmp a b) = lg_cmp (Int64.ofInt a) (Int64.ofInt b) := by
    have ha : (Int64.ofInt a).toInt = a := Int64.toInt_ofInt_of_le q2.1 q2.2
    have hb' : (Int64.ofInt b).toInt = b := Int64.toInt_ofInt_of_le q1.1 q1.2
    unfold lcmp lg_cmp
    simp only [gt_iff_lt, Int64.lt_iff_toInt_lt, ← Int64.toInt_inj, ha, hb']
    by_cases h1 : a < b
    · rw [if_pos h1, if_neg (by omega), if_neg (by omega)]; rfl
    · by_cases h2 : a = b
      · rw [if_neg h1, if_pos h2, if_neg (by omega), if_pos h2]; rfl
      · rw [if_neg h1, if_neg h2, if_pos (by omega)]; rfl
  simp only [List.map_cons, mv, e] at k'
  exact W.lcmp hx hb hd k'
theorem g_dup (CX : Cx p s m args meth c cc own nL) : Q_dup vd rg cc own (Gm ad vd Wd cf sf rg p l e R s m args below meth c A Q nL) := by
  obtain ⟨hx, hb, hml, hown, hts, hnest, hlk⟩ := CX
  intro pc ls st μ v hd hv k
  intro g1 g2 g3 H locs lsA g4 g5 g6
  obtain ⟨q1, -⟩ := rS_cons.mp g3
  exact lv_dup hx hb hd (by rw [mv_cat]; exact hv) (k g1 g2 (rS_cons.mpr ⟨q1, g3⟩) H locs lsA g4 g5 g6)
theorem g_dup2 (CX : Cx p s m args meth c cc own nL) : Q_dup2 vd rg cc own (Gm ad vd Wd cf sf rg p l e R s m args below meth c A Q nL) := by
  obtain ⟨hx, hb, hml, hown, hts, hnest, hlk⟩ := CX
  intro pc ls st μ v u hd hv hu k
  intro g1 g2 g3 H locs lsA g4 g5 g6
  obtain ⟨q1, q3⟩ := rS_cons.mp g3
  obtain ⟨q2, q4⟩ := rS_cons.mp q3
  exact lv_dup2_11 hx hb hd (by rw [mv_cat]; exact hv) (by rw [mv_cat]; exact hu) (k g1 g2 (rS_cons.mpr ⟨q1, rS_cons.mpr ⟨q2, g3⟩⟩) H locs lsA g4 g5 g6)
theorem g_pop (CX : Cx p s m args meth c cc own nL) : Q_pop vd rg cc own (Gm ad vd Wd cf sf rg p l e R s m args below meth c A Q nL) := by
  obtain ⟨hx, hb, hml, hown, hts, hnest, hlk⟩ := CX
  intro pc ls st μ v hd hv k
  intro g1 g2 g3 H locs lsA g4 g5 g6
  obtain ⟨q1, g3⟩ := rS_cons.mp g3
  exact lv_pop hx hb hd (by rw [mv_cat]; exact hv) (k g1 g2 g3 H locs lsA g4 g5 g6)
theorem g_goto (CX : Cx p s m args meth c cc own nL) : Q_goto vd rg cc own (Gm ad vd Wd cf sf rg p l e R s m args below meth c A Q nL) := by
  obtain ⟨hx, hb, hml, hown, hts, hnest, hlk⟩ := CX
  intro pc ls st μ off tgt hd ht k
  intro g1 g2 g3 H locs lsA g4 g5 g6
  exact lv_goto hx hb hd ht (k g1 g2 g3 H locs lsA g4 g5 g6)
theorem g_null (CX : Cx p s m args meth c cc own nL) : Q_null vd rg cc own (Gm ad vd Wd cf sf rg p l e R s m args below meth c A Q nL) := by
  obtain ⟨hx, hb, hml, hown, hts, hnest, hlk⟩ := CX
  intro pc ls st μ hd k
  intro g1 g2 g3 H locs lsA g4 g5 g6
  exact lv_null hx hb hd (k g1 g2 (rS_cons.mpr ⟨trivial, g3⟩) H locs lsA g4 g5 g6)
theorem g_if_eq (CX : Cx p s m args meth c cc own nL) : Q_if_eq vd rg cc own (Gm ad vd Wd cf sf rg p l e R s m args below meth c A Q nL) := by
  obtain ⟨hx, hb, hml, hown, hts, hnest, hlk⟩ := CX
  intro pc ls st μ a off tgt hd ht kt kf
  intro g1 g2 g3 H locs lsA g4 g5 g6
  obtain ⟨q1, g3⟩ := rS_cons.mp g3
  have i0 : inR 0 := inR_lit rfl
  exact lv_if_eq hx hb hd ht (fun h => kt ((i3_inj q1 i0).mp h) g1 g2 g3 H locs lsA g4 g5 g6) (fun h => kf (fun h2 => h ((i3_inj q1 i0).mpr h2)) g1 g2 g3 H locs lsA g4 g5 g6)
theorem g_icmp_eq (CX : Cx p s m args meth c cc own nL) : Q_icmp_eq vd rg cc own (Gm ad vd Wd cf sf rg p l e R s m args below meth c A Q nL) := by
  obtain ⟨hx, hb, hml, hown, hts, hnest, hlk⟩ := CX
  intro pc ls st μ a b off tgt hd ht kt kf
  intro g1 g2 g3 H locs lsA g4 g5 g6
  obtain ⟨qb, g3⟩ := rS_cons.mp g3
  obtain ⟨qa, g3⟩ := rS_cons.mp g3
  exact lv_icmp_eq hx hb hd ht (fun h => kt ((i3_inj qa qb).mp h) g1 g2 g3 H locs lsA g4 g5 g6) (fun h => kf (fun h2 => h ((i3_inj qa qb).mpr h2)) g1 g2 g3 H locs lsA g4 g5 g6)
theorem g_if_ne (CX : Cx p s m args meth c cc own nL) : Q_if_ne vd rg cc own (Gm ad vd Wd cf sf rg p l e R s m args below meth c A Q nL) := by
  obtain ⟨hx, hb, hml, hown, hts, hnest, hlk⟩ := CX
  intro pc ls st μ a off tgt hd ht kt kf
  intro g1 g2 g3 H locs lsA g4 g5 g6
  obtain ⟨q1, g3⟩ := rS_cons.mp g3
  have i0 : inR 0 := inR_lit rfl
  exact lv_if_ne hx hb hd ht (fun h => kt (fun h2 => h ((i3_inj q1 i0).mpr h2)) g1 g2 g3 H locs lsA g4 g5 g6) (fun h => kf ((i3_inj q1 i0).mp h) g1 g2 g3 H locs lsA g4 g5 g6)
theorem g_icmp_ne (CX : Cx p s m args meth c cc own nL) : Q_icmp_ne vd rg cc own (Gm ad vd Wd cf sf rg p l e R s m args below meth c A Q nL) := by
  obtain ⟨hx, hb, hml, hown, hts, hnest, hlk⟩ := CX
  intro pc ls st μ a b off tgt hd ht kt kf
  intro g1 g2 g3 H locs lsA g4 g5 g6
  obtain ⟨qb, g3⟩ := rS_cons.mp g3
  obtain ⟨qa, g3⟩ := rS_cons.mp g3
  exact lv_icmp_ne hx hb hd ht (fun h => kt (fun h2 => h ((i3_inj qa qb).mpr h2)) g1 g2 g3 H locs lsA g4 g5 g6) (fun h => kf ((i3_inj qa qb).mp h) g1 g2 g3 H locs lsA g4 g5 g6)
theorem g_if_lt (CX : Cx p s m args meth c cc own nL) : Q_if_lt vd rg cc own (Gm ad vd Wd cf sf rg p l e R s m args below meth c A Q nL) := by
  obtain ⟨hx, hb, hml, hown, hts, hnest, hlk⟩ := CX
  intro pc ls st μ a off tgt hd ht kt kf
  intro g1 g2 g3 H locs lsA g4 g5 g6
  obtain ⟨q1, g3⟩ := rS_cons.mp g3
  have i0 : inR 0 := inR_lit rfl
  exact lv_if_lt hx hb hd ht (fun h => kt ((i3_lt q1 i0).mp h) g1 g2 g3 H locs lsA g4 g5 g6) (fun h => kf (Int.not_lt.mp fun h2 => h ((i3_lt q1 i0).mpr h2)) g1 g2 g3 H locs lsA g4 g5 g6)
theorem g_icmp_lt (CX : Cx p s m args meth c cc own nL) : Q_icmp_lt vd rg cc own (Gm ad vd Wd cf sf rg p l e R s m args below meth c A Q nL) := by
  obtain ⟨hx, hb, hml, hown, hts, hnest, hlk⟩ := CX
  intro pc ls st μ a b off tgt hd ht kt kf
  intro g1 g2 g3 H locs lsA g4 g5 g6
  obtain ⟨qb, g3⟩ := rS_cons.mp g3
  obtain ⟨qa, g3⟩ := rS_cons.mp g3
  exact lv_icmp_lt hx hb hd ht (fun h => kt ((i3_lt qa qb).mp h) g1 g2 g3 H locs lsA g4 g5 g6) (fun h => kf (Int.not_lt.mp fun h2 => h ((i3_lt qa qb).mpr h2)) g1 g2 g3 H locs lsA g4 g5 g6)
theorem g_if_ge (CX : Cx p s m args meth c cc own nL) : Q_if_ge vd rg cc own (Gm ad vd Wd cf sf rg p l e R s m args below meth c A Q nL) := by
  obtain ⟨hx, hb, hml, hown, hts, hnest, hlk⟩ := CX
  intro pc ls st μ a off tgt hd ht kt kf
  intro g1 g2 g3 H locs lsA g4 g5 g6
  obtain ⟨q1, g3⟩ := rS_cons.mp g3
  have i0 : inR 0 := inR_lit rfl
  exact lv_if_ge hx hb hd ht (fun h => kt ((i3_le i0 q1).mp h) g1 g2 g3 H locs lsA g4 g5 g6) (fun h => kf (Int.not_le.mp fun h2 => h ((i3_le i0 q1).mpr h2)) g1 g2 g3 H locs lsA g4 g5 g6)
theorem g_icmp_ge (CX : Cx p s m args meth c cc own nL) : Q_icmp_ge vd rg cc own (Gm ad vd Wd cf sf rg p l e R s m args below meth c A Q nL) := by
  obtain ⟨hx, hb, hml, hown, hts, hnest, hlk⟩ := CX
  intro pc ls st μ a b off tgt hd ht kt kf
  intro g1 g2 g3 H locs lsA g4 g5 g6
  obtain ⟨qb, g3⟩ := rS_cons.mp g3
  obtain ⟨qa, g3⟩ := rS_cons.mp g3
  exact lv_icmp_ge hx hb hd ht (fun h => kt ((i3_le qb qa).mp h) g1 g2 g3 H locs lsA g4 g5 g6) (fun h => kf (Int.not_le.mp fun h2 => h ((i3_le qb qa).mpr h2)) g1 g2 g3 H locs lsA g4 g5 g6)
theorem g_if_gt (CX : Cx p s m args meth c cc own nL) : Q_if_gt vd rg cc own (Gm ad vd Wd cf sf rg p l e R s m args below meth c A Q nL) := by
  obtain ⟨hx, hb, hml, hown, hts, hnest, hlk⟩ := CX
  intro pc ls st μ a off tgt hd ht kt kf
  intro g1 g2 g3 H locs lsA g4 g5 g6
  obtain ⟨q1, g3⟩ := rS_cons.mp g3
  have i0 : inR 0 := inR_lit rfl
  exact lv_if_gt hx hb hd ht (fun h => kt ((i3_lt i0 q1).mp h) g1 g2 g3 H locs lsA g4 g5 g6) (fun h => kf (Int.not_lt.mp fun h2 => h ((i3_lt i0 q1).mpr h2)) g1 g2 g3 H locs lsA g4 g5 g6)
theorem g_icmp_gt (CX : Cx p s m args meth c cc own nL) : Q_icmp_gt vd rg cc own (Gm ad vd Wd cf sf rg p l e R s m args below meth c A Q nL) := by
  obtain ⟨hx, hb, hml, hown, hts, hnest, hlk⟩ := CX
  intro pc ls st μ a b off tgt hd ht kt kf
  intro g1 g2 g3 H locs lsA g4 g5 g6
  obtain ⟨qb, g3⟩ := rS_cons.mp g3
  obtain ⟨qa, g3⟩ := rS_cons.mp g3
  exact lv_icmp_gt hx hb hd ht (fun h => kt ((i3_lt qb qa).mp h) g1 g2 g3 H locs lsA g4 g5 g6) (fun h => kf (Int.not_lt.mp fun h2 => h ((i3_lt qb qa).mpr h2)) g1 g2 g3 H locs lsA g4 g5 g6)
theorem g_if_le (CX : Cx p s m args meth c cc own nL) : Q_if_le vd rg cc own (Gm ad vd Wd cf sf rg p l e R s m args below meth c A Q nL) := by
  obtain ⟨hx, hb, hml, hown, hts, hnest, hlk⟩ := CX
  intro pc ls st μ a off tgt hd ht kt kf
  intro g1 g2 g3 H locs lsA g4 g5 g6
  obtain ⟨q1, g3⟩ := rS_cons.mp g3
  have i0 : inR 0 := inR_lit rfl
  exact lv_if_le hx hb hd ht (fun h => kt ((i3_le q1 i0).mp h) g1 g2 g3 H locs lsA g4 g5 g6) (fun h => kf (Int.not_le.mp fun h2 => h ((i3_le q1 i0).mpr h2)) g1 g2 g3 H locs lsA g4 g5 g6)
theorem g_icmp_le (CX : Cx p s m args meth c cc own nL) : Q_icmp_le vd rg cc own (Gm ad vd Wd cf sf rg p l e R s m args below meth c A Q nL) := by
  obtain ⟨hx, hb, hml, hown, hts, hnest, hlk⟩ := CX
  intro pc ls st μ a b off tgt hd ht kt kf
  intro g1 g2 g3 H locs lsA g4 g5 g6
  obtain ⟨qb, g3⟩ := rS_cons.mp g3
  obtain ⟨qa, g3⟩ := rS_cons.mp g3
  exact lv_icmp_le hx hb hd ht (fun h => kt ((i3_le qa qb).mp h) g1 g2 g3 H locs lsA g4 g5 g6) (fun h => kf (Int.not_le.mp fun h2 => h ((i3_le qa qb).mpr h2)) g1 g2 g3 H locs lsA g4 g5 g6)
theorem g_ifnullN (CX : Cx p s m args meth c cc own nL) : Q_ifnullN vd rg cc own (Gm ad vd Wd cf sf rg p l e R s m args below meth c A Q nL) := by
  obtain ⟨hx, hb, hml, hown, hts, hnest, hlk⟩ := CX
  intro pc ls st μ off tgt hd ht k
  intro g1 g2 g3 H locs lsA g4 g5 g6
  obtain ⟨q1, g3⟩ := rS_cons.mp g3
  exact lv_ifnullN hx hb hd ht (k g1 g2 g3 H locs lsA g4 g5 g6)
theorem g_ifnullR (CX : Cx p s m args meth c cc own nL) : Q_ifnullR vd rg cc own (Gm ad vd Wd cf sf rg p l e R s m args below meth c A Q nL) := by
  obtain ⟨hx, hb, hml, hown, hts, hnest, hlk⟩ := CX
  intro pc ls st μ off q hd k
  intro g1 g2 g3 H locs lsA g4 g5 g6
  obtain ⟨q1, g3⟩ := rS_cons.mp g3
  exact lv_ifnull hx hb hd (k g1 g2 g3 H locs lsA g4 g5 g6)
theorem g_ifnonnullN (CX : Cx p s m args meth c cc own nL) : Q_ifnonnullN vd rg cc own (Gm ad vd Wd cf sf rg p l e R s m args below meth c A Q nL) := by
  obtain ⟨hx, hb, hml, hown, hts, hnest, hlk⟩ := CX
  intro pc ls st μ off hd k
  intro g1 g2 g3 H locs lsA g4 g5 g6
  obtain ⟨q1, g3⟩ := rS_cons.mp g3
  exact lv_ifnonnullN hx hb hd (k g1 g2 g3 H locs lsA g4 g5 g6)
theorem g_ifnonnullR (CX : Cx p s m args meth c cc own nL) : Q_ifnonnullR vd rg cc own (Gm ad vd Wd cf sf rg p l e R s m args below meth c A Q nL) := by
  obtain ⟨hx, hb, hml, hown, hts, hnest, hlk⟩ := CX
  intro pc ls st μ off tgt q hd ht k
  intro g1 g2 g3 H locs lsA g4 g5 g6
  obtain ⟨q1, g3⟩ := rS_cons.mp g3
  exact lv_ifnonnull hx hb hd ht (k g1 g2 g3 H locs lsA g4 g5 g6)
theorem g_tableOut (CX : Cx p s m args meth c cc own nL) : Q_tableOut vd rg cc own (Gm ad vd Wd cf sf rg p l e R s m args below meth c A Q nL) := by
  obtain ⟨hx, hb, hml, hown, hts, hnest, hlk⟩ := CX
  intro pc ls st μ a dflt lo hi offs len tgt hd h ht k
  intro g1 g2 g3 H locs lsA g4 g5 g6
  obtain ⟨q1, g3⟩ := rS_cons.mp g3
  exact lv_tableOut hx hb hd (by rw [i3_toInt q1]; exact h) ht (k g1 g2 g3 H locs lsA g4 g5 g6)
theorem g_tableIn (CX : Cx p s m args meth c cc own nL) : Q_tableIn vd rg cc own (Gm ad vd Wd cf sf rg p l e R s m args below meth c A Q nL) := by
  obtain ⟨hx, hb, hml, hown, hts, hnest, hlk⟩ := CX
  intro pc ls st μ a dflt lo hi off offs len tgt hd h1 h2 ho ht k
  intro g1 g2 g3 H locs lsA g4 g5 g6
  obtain ⟨q1, g3⟩ := rS_cons.mp g3
  exact lv_tableIn hx hb hd (by rw [i3_toInt q1]; omega) (by rw [i3_toInt q1]; omega) (by rw [i3_toInt q1]; exact ho) ht (k g1 g2 g3 H locs lsA g4 g5 g6)
theorem g_forget (CX : Cx p s m args meth c cc own nL) : Q_forget vd rg cc own (Gm ad vd Wd cf sf rg p l e R s m args below meth c A Q nL) := by
  obtain ⟨hx, hb, hml, hown, hts, hnest, hlk⟩ := CX
  intro pc ls st μ ls2 hs k
  intro g1 g2 g3 H locs lsA g4 g5 g6
  exact k g1 (fun v hv => by
    obtain ⟨i, hi⟩ := List.getElem?_of_mem hv
    exact g2 v (List.mem_of_getElem? (hs.2 i v hi))) g3 H locs lsA g4 g5 (g6.sub hs)
theorem g_rng (CX : Cx p s m args meth c cc own nL) : Q_rng vd rg cc own (Gm ad vd Wd cf sf rg p l e R s m args below meth c A Q nL) := by
  obtain ⟨hx, hb, hml, hown, hts, hnest, hlk⟩ := CX
  intro pc ls st μ k
  intro g1 g2 g3 H locs lsA g4 g5 g6
  exact k g1 g2 g1 g2 g3 H locs lsA g4 g5 g6
theorem stpC_Gm (CX : Cx p s m args meth c cc own nL) : StpC vd rg cc own (Gm ad vd Wd cf sf rg p l e R s m args below meth c A Q nL) := ⟨g_iconst CX, g_bipush CX, g_sipush CX, g_ldc CX, g_ldcw CX, g_iload_n CX, g_iload CX, g_lload_n CX, g_aload_n CX, g_aload CX, g_aloadN_n CX, g_aloadN CX, g_istore_n CX, g_istore CX, g_astore_n CX, g_astore CX, g_astoreN_n CX, g_astoreN CX, g_iinc CX, g_iadd CX, g_isub CX, g_imul CX, g_iand CX, g_ior CX, g_ixor CX, g_ishl CX, g_ishr CX, g_iushr CX, g_idiv CX, g_irem CX, g_ineg CX, g_i2l CX, g_lconst CX, g_lsub CX, g_lcmp CX, g_dup CX, g_dup2 CX, g_pop CX, g_goto CX, g_null CX, g_if_eq CX, g_icmp_eq CX, g_if_ne CX, g_icmp_ne CX, g_if_lt CX, g_icmp_lt CX, g_if_ge CX, g_icmp_ge CX, g_if_gt CX, g_icmp_gt CX, g_if_le CX, g_icmp_le CX, g_ifnullN CX, g_ifnullR CX, g_ifnonnullN CX, g_ifnonnullR CX, g_tableOut CX, g_tableIn CX, g_forget CX, g_rng CX⟩
end GMR
-- what a link of the code says
def clN (ci : Nat) : Nat := match ci with
  | 0 => 7 | 1 => 8 | 2 => 17 | 3 => 4 | 4 => 6 | 5 => 8 | 6 => 23 | _ => 0
-- links: a field of class number ci by its slot k; kz the same number as an int
def FLk (own : String) (idx ci k : Nat) (ty : FieldType) : Prop := ∃ (C : String) (T : u_T) (N : Nat) (ty0 : Nat → FieldType), vwCl[ci]? = some (C, T, N) ∧ N = clN ci ∧ k < N ∧ (∀ w ∈ u_ws C T N, w ∈ gT) ∧ (∀ k, k < N → parseFieldDescriptor (T k).2.2.1 = some (ty0 k)) ∧ (∀ a, a < N → ∀ b, b < N → a ≠ b → (T a).2.1 ≠ (T b).2.1) ∧ (T k).1 = C ∧ ty0 k = ty ∧
  (Cond.fieldLink own idx C (T k).2.1 (T k).2.2.1 ∈ gT ∨ ∃ host : String, Cond.fieldLinkNest own idx C (T k).2.1 (T k).2.2.1 host ∈ nT)
def FLw (own : String) (idx ci k : Nat) (ty : FieldType) : Prop := FLk own idx ci k ty ∧ ∀ (C : String) (T : u_T) (N : Nat), vwCl[ci]? = some (C, T, N) → (T k).2.2.2 = false
def SLk (own : String) (idx : Nat) : Prop := Cond.fieldLink own idx RX5 "NUMBERS" "[I" ∈ gT ∨ ∃ host : String, Cond.fieldLinkNest own idx RX5 "NUMBERS" "[I" host ∈ nT
-- the table of methods: name, code, how many locals, what it gives back, how many it takes
abbrev Mt : Type := MethodName × ByteArray × Nat × Option FieldType × Nat
def mtab_0 : List Mt := [(⟨RX0, "<init>", "()V"⟩, prog_2_method_1_code, 1, none, 0),
  (⟨RX0, "clear", "()V"⟩, prog_2_method_2_code, 1, none, 0),
  (⟨RX0, "copyFrom", "(LSlideFold$Flip;)V"⟩, prog_2_method_3_code, 2, none, 1),
  (⟨RX0, "add", "()V"⟩, prog_2_method_4_code, 2, none, 0),
  (⟨RX0, "drop", "()V"⟩, prog_2_method_5_code, 1, none, 0),
  (⟨RX0, "layAnew", "(I)V"⟩, prog_2_method_6_code, 2, none, 1),
  (⟨RX0, "endMove", "(I)V"⟩, prog_2_method_7_code, 4, none, 1),
  (⟨RX0, "told", "(I)I"⟩, prog_2_method_8_code, 2, some .int, 1),
  (⟨RX1, "<init>", "()V"⟩, prog_3_method_1_code, 1, none, 0),
  (⟨RX1, "begin", "(I)V"⟩, prog_3_method_2_code, 3, none, 1),
  (⟨RX1, "number", "(I)I"⟩, prog_3_method_3_code, 2, some .int, 1),
  (⟨RX1, "reaches", "(II)Z"⟩, prog_3_method_4_code, 4, some .boolean, 2),
  (⟨RX1, "noteNumbers", "()V"⟩, prog_3_method_5_code, 1, none, 0),
  (⟨RX1, "isAsNoted", "()Z"⟩, prog_3_method_6_code, 2, some .boolean, 0),
  (⟨RX1, "append", "(I)V"⟩, prog_3_method_7_code, 2, none, 1),
  (⟨RX1, "addGreatest", "(I)V"⟩, prog_3_method_8_code, 2, none, 1),
  (⟨RX1, "addShare", "(I)V"⟩, prog_3_method_9_code, 6, none, 1),
  (⟨RX1, "addLine", "(I)V"⟩, prog_3_method_10_code, 4, none, 1),
  (⟨RX1, "addRun", "(I)V"⟩, prog_3_method_11_code, 3, none, 1),
  (⟨RX1, "addLetter", "(I)V"⟩, prog_3_method_12_code, 5, none, 1),
  (⟨RX1, "addNest", "(I)V"⟩, prog_3_method_13_code, 2, none, 1),
  (⟨RX1, "addLike", "(I)V"⟩, prog_3_method_14_code, 2, none, 1),
  (⟨RX1, "addStep", "(I)V"⟩, prog_3_method_15_code, 5, none, 1),
  (⟨RX1, "addSpread", "(I)V"⟩, prog_3_method_16_code, 2, none, 1),
  (⟨RX1, "addElement", "(I)V"⟩, prog_3_method_17_code, 3, none, 1),
  (⟨RX2, "<init>", "(I)V"⟩, prog_4_method_1_code, 2, none, 1),
  (⟨RX2, "begin", "(IIII)V"⟩, prog_4_method_2_code, 5, none, 4),
  (⟨RX2, "copyFrom", "(LSlideFold$Lane;)V"⟩, prog_4_method_3_code, 2, none, 1),
  (⟨RX2, "hasNumber", "(I)Z"⟩, prog_4_method_4_code, 2, some .boolean, 1),
  (⟨RX2, "isFull", "()Z"⟩, prog_4_method_5_code, 1, some .boolean, 0)]
def mtab_1 : List Mt := [(⟨RX2, "isTooLate", "(I)Z"⟩, prog_4_method_6_code, 2, some .boolean, 1),
  (⟨RX2, "heldUntil", "(J)I"⟩, prog_4_method_7_code, 4, some .int, 1),
  (⟨RX2, "startsSession", "(II)Z"⟩, prog_4_method_8_code, 3, some .boolean, 2),
  (⟨RX2, "goes", "(III)Z"⟩, prog_4_method_9_code, 4, some .boolean, 3),
  (⟨RX2, "insert", "(III)V"⟩, prog_4_method_10_code, 4, none, 3),
  (⟨RX2, "remove", "(I)V"⟩, prog_4_method_11_code, 2, none, 1),
  (⟨RX2, "shift", "(III)V"⟩, prog_4_method_12_code, 4, none, 3),
  (⟨RX2, "told", "(I)I"⟩, prog_4_method_13_code, 2, some .int, 1),
  (⟨RX3, "<init>", "()V"⟩, prog_5_method_1_code, 1, none, 0),
  (⟨RX3, "begin", "(III)V"⟩, prog_5_method_2_code, 4, none, 3),
  (⟨RX3, "end", "()V"⟩, prog_5_method_3_code, 1, none, 0),
  (⟨RX3, "told", "(I)I"⟩, prog_5_method_4_code, 2, some .int, 1),
  (⟨RX4, "<init>", "()V"⟩, prog_6_method_1_code, 1, none, 0),
  (⟨RX4, "begin", "(IIIZ)V"⟩, prog_6_method_2_code, 5, none, 4),
  (⟨RX4, "note", "(ZI)V"⟩, prog_6_method_3_code, 3, none, 2),
  (⟨RX4, "end", "()V"⟩, prog_6_method_4_code, 1, none, 0),
  (⟨RX5, "<init>", "()V"⟩, prog_1_method_1_code, 2, none, 0),
  (⟨RX5, "table", "(II)Z"⟩, prog_1_method_2_code, 3, some .boolean, 2),
  (⟨RX5, "letter", "(II)Z"⟩, prog_1_method_3_code, 3, some .boolean, 2),
  (⟨RX5, "triple", "(I)I"⟩, prog_1_method_4_code, 5, some .int, 1),
  (⟨RX5, "element", "(I)I"⟩, prog_1_method_5_code, 2, some .int, 1),
  (⟨RX5, "product", "(II)I"⟩, prog_1_method_6_code, 3, some .int, 2),
  (⟨RX5, "associates", "(III)Z"⟩, prog_1_method_7_code, 4, some .boolean, 3),
  (⟨RX5, "firstNeutral", "()I"⟩, prog_1_method_8_code, 4, some .int, 0),
  (⟨RX5, "firstAbsorbing", "()I"⟩, prog_1_method_9_code, 4, some .int, 0),
  (⟨RX5, "idempotents", "()I"⟩, prog_1_method_10_code, 3, some .int, 0),
  (⟨RX5, "commutingPairs", "()I"⟩, prog_1_method_11_code, 4, some .int, 0),
  (⟨RX5, "isUsed", "(I)Z"⟩, prog_1_method_12_code, 3, some .boolean, 1),
  (⟨RX5, "open", "(IIIII)I"⟩, prog_1_method_13_code, 6, some .int, 5),
  (⟨RX5, "isSize", "(II)Z"⟩, prog_1_method_14_code, 2, some .boolean, 2)]
def mtab_2 : List Mt := [(⟨RX5, "shut", "(I)Z"⟩, prog_1_method_15_code, 3, some .boolean, 1),
  (⟨RX5, "come", "(III)I"⟩, prog_1_method_16_code, 5, some .int, 3),
  (⟨RX5, "burst", "(IIII)I"⟩, prog_1_method_17_code, 8, some .int, 4),
  (⟨RX5, "leave", "(II)I"⟩, prog_1_method_18_code, 5, some .int, 2),
  (⟨RX5, "until", "(II)I"⟩, prog_1_method_19_code, 6, some .int, 2),
  (⟨RX5, "take", "(II)I"⟩, prog_1_method_20_code, 5, some .int, 2),
  (⟨RX5, "alter", "(III)Z"⟩, prog_1_method_21_code, 5, some .boolean, 3),
  (⟨RX5, "place", "(LSlideFold$Lane;II)V"⟩, prog_1_method_22_code, 7, none, 3),
  (⟨RX5, "dropOldest", "(LSlideFold$Lane;)V"⟩, prog_1_method_23_code, 2, none, 1),
  (⟨RX5, "layAnew", "(LSlideFold$Lane;)V"⟩, prog_1_method_24_code, 2, none, 1),
  (⟨RX5, "give", "(LSlideFold$Lane;I)V"⟩, prog_1_method_25_code, 9, none, 2),
  (⟨RX5, "noteMost", "()V"⟩, prog_1_method_26_code, 2, none, 0),
  (⟨RX5, "event", "(III)I"⟩, prog_1_method_27_code, 5, some .int, 3),
  (⟨RX5, "total", "(II)I"⟩, prog_1_method_28_code, 4, some .int, 2),
  (⟨RX5, "part", "(IIII)I"⟩, prog_1_method_29_code, 6, some .int, 4),
  (⟨RX5, "during", "(IIII)I"⟩, prog_1_method_30_code, 6, some .int, 4),
  (⟨RX5, "many", "(III)I"⟩, prog_1_method_31_code, 5, some .int, 3),
  (⟨RX5, "reach", "(III)I"⟩, prog_1_method_32_code, 6, some .int, 3),
  (⟨RX5, "reachBack", "(III)I"⟩, prog_1_method_33_code, 6, some .int, 3),
  (⟨RX5, "peak", "(III)I"⟩, prog_1_method_34_code, 5, some .int, 3),
  (⟨RX5, "peakAt", "(III)I"⟩, prog_1_method_35_code, 9, some .int, 3),
  (⟨RX5, "without", "(III)I"⟩, prog_1_method_36_code, 5, some .int, 3),
  (⟨RX5, "spare", "(II)I"⟩, prog_1_method_37_code, 8, some .int, 2),
  (⟨RX5, "turned", "(II)I"⟩, prog_1_method_38_code, 5, some .int, 2),
  (⟨RX5, "commutes", "(II)I"⟩, prog_1_method_39_code, 6, some .int, 2),
  (⟨RX5, "law", "(III)I"⟩, prog_1_method_40_code, 4, some .int, 3),
  (⟨RX5, "joined", "(III)I"⟩, prog_1_method_41_code, 7, some .int, 3),
  (⟨RX5, "woven", "(III)I"⟩, prog_1_method_42_code, 10, some .int, 3),
  (⟨RX5, "same", "(II)I"⟩, prog_1_method_43_code, 5, some .int, 2),
  (⟨RX5, "panes", "(II)I"⟩, prog_1_method_44_code, 8, some .int, 2)]
def mtab_3 : List Mt := [(⟨RX5, "fullest", "(II)I"⟩, prog_1_method_45_code, 10, some .int, 2),
  (⟨RX5, "sessions", "(II)I"⟩, prog_1_method_46_code, 6, some .int, 2),
  (⟨RX5, "session", "(IIII)I"⟩, prog_1_method_47_code, 8, some .int, 4),
  (⟨RX5, "longest", "(II)I"⟩, prog_1_method_48_code, 10, some .int, 2),
  (⟨RX5, "state", "(II)I"⟩, prog_1_method_49_code, 4, some .int, 2),
  (⟨RX5, "soon", "(II)I"⟩, prog_1_method_50_code, 5, some .int, 2),
  (⟨RX5, "cost", "(III)I"⟩, prog_1_method_51_code, 6, some .int, 3),
  (⟨RX5, "lane", "(II)I"⟩, prog_1_method_52_code, 4, some .int, 2),
  (⟨RX5, "watch", "(IIII)I"⟩, prog_1_method_53_code, 7, some .int, 4),
  (⟨RX5, "rings", "(I)I"⟩, prog_1_method_54_code, 2, some .int, 1),
  (⟨RX5, "rang", "(I)I"⟩, prog_1_method_55_code, 2, some .int, 1),
  (⟨RX5, "isTold", "(I)Z"⟩, prog_1_method_56_code, 2, some .boolean, 1),
  (⟨RX5, "ringWatches", "(LSlideFold$Lane;)V"⟩, prog_1_method_57_code, 4, none, 1),
  (⟨RX5, "isWatched", "(I)Z"⟩, prog_1_method_58_code, 3, some .boolean, 1),
  (⟨RX5, "link", "(IIII)Z"⟩, prog_1_method_59_code, 6, some .boolean, 4),
  (⟨RX5, "unlink", "(I)Z"⟩, prog_1_method_60_code, 2, some .boolean, 1),
  (⟨RX5, "linked", "(II)I"⟩, prog_1_method_61_code, 3, some .int, 2),
  (⟨RX5, "isLinkedTo", "(I)Z"⟩, prog_1_method_62_code, 3, some .boolean, 1),
  (⟨RX5, "endTies", "(I)V"⟩, prog_1_method_63_code, 3, none, 1),
  (⟨RX5, "shortest", "(IIII)I"⟩, prog_1_method_64_code, 10, some .int, 4),
  (⟨RX5, "windows", "(IIII)I"⟩, prog_1_method_65_code, 10, some .int, 4),
  (⟨RX5, "were", "(IIII)I"⟩, prog_1_method_66_code, 11, some .int, 4),
  (⟨RX5, "parted", "(IIII)I"⟩, prog_1_method_67_code, 9, some .int, 4),
  (⟨RX5, "partFrom", "(LSlideFold$Lane;III)V"⟩, prog_1_method_68_code, 9, none, 4),
  (⟨RX5, "keep", "(II)I"⟩, prog_1_method_69_code, 4, some .int, 2),
  (⟨RX5, "back", "(I)I"⟩, prog_1_method_70_code, 3, some .int, 1),
  (⟨RX5, "about", "(I)I"⟩, prog_1_method_71_code, 2, some .int, 1),
  (⟨RX5, "openLanes", "()I"⟩, prog_1_method_72_code, 3, some .int, 0),
  (⟨RX5, "heldInAll", "()I"⟩, prog_1_method_73_code, 3, some .int, 0),
  (⟨RX5, "spentInAll", "()I"⟩, prog_1_method_74_code, 3, some .int, 0)]
def mtab_4 : List Mt := [(⟨RX5, "toldWatches", "()I"⟩, prog_1_method_75_code, 3, some .int, 0),
  (⟨RX5, "fullBoxes", "()I"⟩, prog_1_method_76_code, 3, some .int, 0),
  (⟨RX5, "ringsInAll", "()I"⟩, prog_1_method_77_code, 3, some .int, 0),
  (⟨RX5, "linksInAll", "()I"⟩, prog_1_method_78_code, 3, some .int, 0),
  (⟨RX5, "within", "(III)Z"⟩, prog_1_method_79_code, 3, some .boolean, 3),
  (⟨RX5, "isLane", "(I)Z"⟩, prog_1_method_80_code, 1, some .boolean, 1),
  (⟨RX5, "isTime", "(I)Z"⟩, prog_1_method_81_code, 1, some .boolean, 1),
  (⟨RX5, "isValue", "(I)Z"⟩, prog_1_method_82_code, 1, some .boolean, 1),
  (⟨RX5, "isGap", "(I)Z"⟩, prog_1_method_83_code, 1, some .boolean, 1),
  (⟨RX5, "openLane", "(I)LSlideFold$Lane;"⟩, prog_1_method_84_code, 2, some (.object "SlideFold$Lane"), 1),
  (⟨RX5, "laneWith", "(II)LSlideFold$Lane;"⟩, prog_1_method_85_code, 4, some (.object "SlideFold$Lane"), 2),
  (⟨RX5, "laneHolding", "(II)LSlideFold$Lane;"⟩, prog_1_method_86_code, 4, some (.object "SlideFold$Lane"), 2),
  (⟨RX5, "comesTo", "(LSlideFold$Lane;III)I"⟩, prog_1_method_87_code, 5, some .int, 4),
  (⟨RX5, "comesToWithout", "(LSlideFold$Lane;II)I"⟩, prog_1_method_88_code, 5, some .int, 3),
  (⟨RX5, "foldPart", "(LSlideFold$Lane;II)V"⟩, prog_1_method_89_code, 5, none, 3),
  (⟨RX6, "<init>", "()V"⟩, prog_8_method_1_code, 2, none, 0),
  (⟨RX6, "isIn", "(III)Z"⟩, prog_8_method_2_code, 3, some .boolean, 3),
  (⟨RX6, "isLane", "(I)Z"⟩, prog_8_method_3_code, 2, some .boolean, 1),
  (⟨RX6, "of", "(II)I"⟩, prog_8_method_4_code, 3, some .int, 2),
  (⟨RX6, "set", "(III)V"⟩, prog_8_method_5_code, 4, none, 3),
  (⟨RX6, "more", "(III)V"⟩, prog_8_method_6_code, 4, none, 3),
  (⟨RX6, "heldOf", "(I)I"⟩, prog_8_method_7_code, 2, some .int, 1),
  (⟨RX6, "isUsed", "(I)Z"⟩, prog_8_method_8_code, 3, some .boolean, 1),
  (⟨RX6, "table", "(II)Z"⟩, prog_8_method_9_code, 3, some .boolean, 2),
  (⟨RX6, "letter", "(II)Z"⟩, prog_8_method_10_code, 3, some .boolean, 2),
  (⟨RX6, "product", "(II)I"⟩, prog_8_method_11_code, 3, some .int, 2),
  (⟨RX6, "associates", "(I)Z"⟩, prog_8_method_12_code, 5, some .boolean, 1),
  (⟨RX6, "firstThree", "()I"⟩, prog_8_method_13_code, 2, some .int, 0),
  (⟨RX6, "triple", "(I)I"⟩, prog_8_method_14_code, 3, some .int, 1),
  (⟨RX6, "countAssociating", "()I"⟩, prog_8_method_15_code, 3, some .int, 0)]
def mtab_5 : List Mt := [(⟨RX6, "isSuch", "(II)Z"⟩, prog_8_method_16_code, 5, some .boolean, 2),
  (⟨RX6, "element", "(I)I"⟩, prog_8_method_17_code, 4, some .int, 1),
  (⟨RX6, "clearRow", "()V"⟩, prog_8_method_18_code, 1, none, 0),
  (⟨RX6, "put", "(I)V"⟩, prog_8_method_19_code, 2, none, 1),
  (⟨RX6, "putFrom", "(III)V"⟩, prog_8_method_20_code, 5, none, 3),
  (⟨RX6, "layAll", "(I)V"⟩, prog_8_method_21_code, 2, none, 1),
  (⟨RX6, "howMany", "(I)I"⟩, prog_8_method_22_code, 1, some .int, 1),
  (⟨RX6, "isNumber", "(II)Z"⟩, prog_8_method_23_code, 3, some .boolean, 2),
  (⟨RX6, "goThrough", "(I)V"⟩, prog_8_method_24_code, 2, none, 1),
  (⟨RX6, "comes", "(II)I"⟩, prog_8_method_25_code, 3, some .int, 2),
  (⟨RX6, "greatest", "()V"⟩, prog_8_method_26_code, 4, none, 0),
  (⟨RX6, "share", "()V"⟩, prog_8_method_27_code, 6, none, 0),
  (⟨RX6, "rest", "(II)I"⟩, prog_8_method_28_code, 3, some .int, 2),
  (⟨RX6, "line", "()V"⟩, prog_8_method_29_code, 5, none, 0),
  (⟨RX6, "run", "()V"⟩, prog_8_method_30_code, 8, none, 0),
  (⟨RX6, "send", "()V"⟩, prog_8_method_31_code, 5, none, 0),
  (⟨RX6, "bits", "(I)I"⟩, prog_8_method_32_code, 3, some .int, 1),
  (⟨RX6, "nest", "()V"⟩, prog_8_method_33_code, 7, none, 0),
  (⟨RX6, "alikeFrom", "(I)I"⟩, prog_8_method_34_code, 3, some .int, 1),
  (⟨RX6, "like", "()V"⟩, prog_8_method_35_code, 6, none, 0),
  (⟨RX6, "steps", "()V"⟩, prog_8_method_36_code, 6, none, 0),
  (⟨RX6, "spread", "()V"⟩, prog_8_method_37_code, 5, none, 0),
  (⟨RX6, "multiply", "()V"⟩, prog_8_method_38_code, 3, none, 0),
  (⟨RX6, "isReached", "(II)Z"⟩, prog_8_method_39_code, 2, some .boolean, 2),
  (⟨RX6, "open", "(IIIII)I"⟩, prog_8_method_40_code, 7, some .int, 5),
  (⟨RX6, "openLanes", "()I"⟩, prog_8_method_41_code, 3, some .int, 0),
  (⟨RX6, "shut", "(I)Z"⟩, prog_8_method_42_code, 2, some .boolean, 1),
  (⟨RX6, "endMove", "(II)V"⟩, prog_8_method_43_code, 4, none, 2),
  (⟨RX6, "goFlip", "(I)I"⟩, prog_8_method_44_code, 4, some .int, 1),
  (⟨RX6, "layAnew", "(I)V"⟩, prog_8_method_45_code, 3, none, 1)]
def mtab_6 : List Mt := [(⟨RX6, "state", "(II)I"⟩, prog_8_method_46_code, 3, some .int, 2),
  (⟨RX6, "soon", "(II)I"⟩, prog_8_method_47_code, 3, some .int, 2),
  (⟨RX6, "endWatches", "(I)V"⟩, prog_8_method_48_code, 3, none, 1),
  (⟨RX6, "isTold", "(I)Z"⟩, prog_8_method_49_code, 2, some .boolean, 1),
  (⟨RX6, "reachedNow", "(III)I"⟩, prog_8_method_50_code, 4, some .int, 3),
  (⟨RX6, "look", "(I)V"⟩, prog_8_method_51_code, 4, none, 1),
  (⟨RX6, "watch", "(IIII)I"⟩, prog_8_method_52_code, 5, some .int, 4),
  (⟨RX6, "rings", "(I)I"⟩, prog_8_method_53_code, 2, some .int, 1),
  (⟨RX6, "rang", "(I)I"⟩, prog_8_method_54_code, 2, some .int, 1),
  (⟨RX6, "shift", "(IIZ)V"⟩, prog_8_method_55_code, 6, none, 3),
  (⟨RX6, "copyEvent", "(II)V"⟩, prog_8_method_56_code, 3, none, 2),
  (⟨RX6, "placeOf", "(II)I"⟩, prog_8_method_57_code, 4, some .int, 2),
  (⟨RX6, "drop", "(I)V"⟩, prog_8_method_58_code, 2, none, 1),
  (⟨RX6, "isTooMany", "(I)Z"⟩, prog_8_method_59_code, 2, some .boolean, 1),
  (⟨RX6, "enter", "(III)V"⟩, prog_8_method_60_code, 7, none, 3),
  (⟨RX6, "seeMost", "(I)V"⟩, prog_8_method_61_code, 2, none, 1),
  (⟨RX6, "behindCall", "(I)I"⟩, prog_8_method_62_code, 2, some .int, 1),
  (⟨RX6, "isLinkedTo", "(I)Z"⟩, prog_8_method_63_code, 3, some .boolean, 1),
  (⟨RX6, "endLinks", "(I)V"⟩, prog_8_method_64_code, 3, none, 1),
  (⟨RX6, "link", "(IIII)Z"⟩, prog_8_method_65_code, 5, some .boolean, 4),
  (⟨RX6, "unlink", "(I)Z"⟩, prog_8_method_66_code, 2, some .boolean, 1),
  (⟨RX6, "linked", "(II)I"⟩, prog_8_method_67_code, 3, some .int, 2),
  (⟨RX6, "isLost", "(II)Z"⟩, prog_8_method_68_code, 3, some .boolean, 2),
  (⟨RX6, "isFull", "(I)Z"⟩, prog_8_method_69_code, 2, some .boolean, 1),
  (⟨RX6, "give", "(II)V"⟩, prog_8_method_70_code, 8, none, 2),
  (⟨RX6, "come", "(III)I"⟩, prog_8_method_71_code, 4, some .int, 3),
  (⟨RX6, "burst", "(IIII)I"⟩, prog_8_method_72_code, 7, some .int, 4),
  (⟨RX6, "leave", "(II)I"⟩, prog_8_method_73_code, 4, some .int, 2),
  (⟨RX6, "until", "(II)I"⟩, prog_8_method_74_code, 5, some .int, 2),
  (⟨RX6, "isEvent", "(II)Z"⟩, prog_8_method_75_code, 3, some .boolean, 2)]
def mtab_7 : List Mt := [(⟨RX6, "take", "(II)I"⟩, prog_8_method_76_code, 4, some .int, 2),
  (⟨RX6, "alter", "(III)Z"⟩, prog_8_method_77_code, 4, some .boolean, 3),
  (⟨RX6, "event", "(III)I"⟩, prog_8_method_78_code, 4, some .int, 3),
  (⟨RX6, "comesFrom", "(IIII)I"⟩, prog_8_method_79_code, 5, some .int, 4),
  (⟨RX6, "total", "(II)I"⟩, prog_8_method_80_code, 3, some .int, 2),
  (⟨RX6, "part", "(IIII)I"⟩, prog_8_method_81_code, 5, some .int, 4),
  (⟨RX6, "aheadOf", "(II)I"⟩, prog_8_method_82_code, 3, some .int, 2),
  (⟨RX6, "during", "(IIII)I"⟩, prog_8_method_83_code, 7, some .int, 4),
  (⟨RX6, "many", "(III)I"⟩, prog_8_method_84_code, 5, some .int, 3),
  (⟨RX6, "reach", "(III)I"⟩, prog_8_method_85_code, 5, some .int, 3),
  (⟨RX6, "reachBack", "(III)I"⟩, prog_8_method_86_code, 5, some .int, 3),
  (⟨RX6, "bestOf", "(III)I"⟩, prog_8_method_87_code, 8, some .int, 3),
  (⟨RX6, "peakAt", "(III)I"⟩, prog_8_method_88_code, 4, some .int, 3),
  (⟨RX6, "peak", "(III)I"⟩, prog_8_method_89_code, 5, some .int, 3),
  (⟨RX6, "comesWithout", "(III)I"⟩, prog_8_method_90_code, 4, some .int, 3),
  (⟨RX6, "without", "(III)I"⟩, prog_8_method_91_code, 4, some .int, 3),
  (⟨RX6, "spare", "(II)I"⟩, prog_8_method_92_code, 7, some .int, 2),
  (⟨RX6, "turned", "(II)I"⟩, prog_8_method_93_code, 4, some .int, 2),
  (⟨RX6, "keepNumbers", "(I)V"⟩, prog_8_method_94_code, 3, none, 1),
  (⟨RX6, "areKept", "(I)Z"⟩, prog_8_method_95_code, 3, some .boolean, 1),
  (⟨RX6, "commutes", "(II)I"⟩, prog_8_method_96_code, 4, some .int, 2),
  (⟨RX6, "areAlike", "(II)Z"⟩, prog_8_method_97_code, 3, some .boolean, 2),
  (⟨RX6, "joined", "(III)I"⟩, prog_8_method_98_code, 4, some .int, 3),
  (⟨RX6, "woven", "(III)I"⟩, prog_8_method_99_code, 6, some .int, 3),
  (⟨RX6, "same", "(II)I"⟩, prog_8_method_100_code, 3, some .int, 2),
  (⟨RX6, "law", "(III)I"⟩, prog_8_method_101_code, 4, some .int, 3),
  (⟨RX6, "layParts", "(II)V"⟩, prog_8_method_102_code, 5, none, 2),
  (⟨RX6, "shortest", "(IIII)I"⟩, prog_8_method_103_code, 7, some .int, 4),
  (⟨RX6, "windows", "(IIII)I"⟩, prog_8_method_104_code, 9, some .int, 4),
  (⟨RX6, "layRow", "(III)V"⟩, prog_8_method_105_code, 8, none, 3)]
def mtab_8 : List Mt := [(⟨RX6, "parted", "(IIII)I"⟩, prog_8_method_106_code, 7, some .int, 4),
  (⟨RX6, "were", "(IIII)I"⟩, prog_8_method_107_code, 6, some .int, 4),
  (⟨RX6, "cost", "(III)I"⟩, prog_8_method_108_code, 8, some .int, 3),
  (⟨RX6, "isWidth", "(I)Z"⟩, prog_8_method_109_code, 2, some .boolean, 1),
  (⟨RX6, "inPane", "(III)I"⟩, prog_8_method_110_code, 5, some .int, 3),
  (⟨RX6, "panes", "(II)I"⟩, prog_8_method_111_code, 5, some .int, 2),
  (⟨RX6, "fullest", "(II)I"⟩, prog_8_method_112_code, 6, some .int, 2),
  (⟨RX6, "isGap", "(I)Z"⟩, prog_8_method_113_code, 2, some .boolean, 1),
  (⟨RX6, "inSession", "(III)I"⟩, prog_8_method_114_code, 5, some .int, 3),
  (⟨RX6, "sessions", "(II)I"⟩, prog_8_method_115_code, 5, some .int, 2),
  (⟨RX6, "session", "(IIII)I"⟩, prog_8_method_116_code, 7, some .int, 4),
  (⟨RX6, "longest", "(II)I"⟩, prog_8_method_117_code, 7, some .int, 2),
  (⟨RX6, "lane", "(II)I"⟩, prog_8_method_118_code, 3, some .int, 2),
  (⟨RX6, "copyLane", "(II)V"⟩, prog_8_method_119_code, 4, none, 2),
  (⟨RX6, "keep", "(II)I"⟩, prog_8_method_120_code, 3, some .int, 2),
  (⟨RX6, "back", "(I)I"⟩, prog_8_method_121_code, 3, some .int, 1),
  (⟨RX6, "sumOf", "(I)I"⟩, prog_8_method_122_code, 4, some .int, 1),
  (⟨RX6, "boxesNow", "()I"⟩, prog_8_method_123_code, 3, some .int, 0),
  (⟨RX6, "toldNow", "(Z)I"⟩, prog_8_method_124_code, 4, some .int, 1),
  (⟨RX6, "linksNow", "()I"⟩, prog_8_method_125_code, 3, some .int, 0),
  (⟨RX6, "about", "(I)I"⟩, prog_8_method_126_code, 2, some .int, 1),
  (⟨RJ6, "bitCount", "(I)I"⟩, prog_9_method_49_code, 1, some .int, 1),
  (⟨RJ9, "floorMod", "(II)I"⟩, prog_10_method_50_code, 3, some .int, 2),
  (⟨RJ9, "abs", "(I)I"⟩, prog_10_method_59_code, 1, some .int, 1),
  (⟨RJ9, "max", "(II)I"⟩, prog_10_method_65_code, 2, some .int, 2),
  (⟨RJ9, "min", "(II)I"⟩, prog_10_method_69_code, 2, some .int, 2),
  (⟨RJ7, "fill", "([II)V"⟩, prog_12_method_103_code, 4, none, 2)]
def mt (M : Nat) : Mt := (match M / 30 with
  | 0 => mtab_0
  | 1 => mtab_1
  | 2 => mtab_2
  | 3 => mtab_3
  | 4 => mtab_4
  | 5 => mtab_5
  | 6 => mtab_6
  | 7 => mtab_7
  | _ => mtab_8).getD (M % 30) (⟨"", "", ""⟩, ⟨#[]⟩, 0, none, 0)
def my (M : Nat) : MethodName := (mt M).1
def mb (M : Nat) : ByteArray := (mt M).2.1
def ml (M : Nat) : Nat := (mt M).2.2.1
def mr (M : Nat) : Option FieldType := (mt M).2.2.2.1
def mp (M : Nat) : Nat := (mt M).2.2.2.2
def wsM (M : Nat) : List Cond := Cond.code (my M) (mb M) (ml M) (mr M) :: gT
def MOK (M : Nat) : Prop := Cond.code (my M) (mb M) (ml M) (mr M) ∈ gT ∧ Cond.initialized (my M).cls ∈ gT ∧ ((my M).cls ≠ "java/lang/invoke/MethodHandle" ∧ (my M).cls ≠ "java/lang/invoke/VarHandle") ∧ (parseMethodDescriptor (my M).desc).map (fun d => d.parameters.length) = some (mp M) ∧ ml M ≤ 21 ∧ plainFor (my M) = true
def LNK (own : String) (idx M : Nat) : Prop := Cond.methodLink own idx (my M) ∈ gT ∨ ∃ host : String, Cond.methodLinkNest own idx (my M) host ∈ nT
def VLk (own : String) (idx M : Nat) : Prop := LNK own idx M ∧ MOK M ∧ Cond.instanceMethod (my M) ∈ gT ∧ Cond.selects (my M).cls (my M) (my M) ∈ gT
def TLk (own : String) (idx M : Nat) : Prop := LNK own idx M ∧ MOK M ∧ Cond.static (my M) ∈ gT
def ILk (own : String) (idx M : Nat) : Prop := LNK own idx M ∧ MOK M ∧ Cond.instanceMethod (my M) ∈ gT ∧ (my M).name = "<init>" ∧ mr M = none
-- what the links of the code name
theorem gk_code : ∀ a b c d, goodWord (Cond.code a b c d) = true := fun _ _ _ _ => rfl
theorem gk_instanceMethod : ∀ a, goodWord (Cond.instanceMethod a) = true := fun _ => rfl
theorem gk_static : ∀ a, goodWord (Cond.static a) = true := fun _ => rfl
theorem gk_native : ∀ a, goodWord (Cond.native a) = true := fun _ => rfl
theorem gk_initialized : ∀ a, goodWord (Cond.initialized a) = true := fun _ => rfl
theorem gk_methodLink : ∀ a b c, goodWord (Cond.methodLink a b c) = true := fun _ _ _ => rfl
theorem gk_fieldLink : ∀ a b c d e, goodWord (Cond.fieldLink a b c d e) = true := fun _ _ _ _ _ => rfl
theorem gk_selects : ∀ a b c, goodWord (Cond.selects a b c) = true := fun _ _ _ => rfl
theorem gk_constant : ∀ a b c, goodWord (Cond.constant a b c) = true := fun _ _ _ => rfl
theorem gw1 {w : Cond} {i : Nat} (h : tables_1_1[i]? = some w) (g : goodWord w = true) : w ∈ gT := List.mem_filter.mpr ⟨List.mem_append_right _ (tb1 (List.mem_of_getElem? h)), g⟩
theorem nw1 {w : Cond} {i : Nat} (h : tables_1_1[i]? = some w) (g : isNest w = true) : w ∈ nT := List.mem_filter.mpr ⟨tb1 (List.mem_of_getElem? h), g⟩
theorem gw2 {w : Cond} {i : Nat} (h : tables_1_2[i]? = some w) (g : goodWord w = true) : w ∈ gT := List.mem_filter.mpr ⟨List.mem_append_right _ (tb2 (List.mem_of_getElem? h)), g⟩
theorem nw2 {w : Cond} {i : Nat} (h : tables_1_2[i]? = some w) (g : isNest w = true) : w ∈ nT := List.mem_filter.mpr ⟨tb2 (List.mem_of_getElem? h), g⟩
theorem gw3 {w : Cond} {i : Nat} (h : tables_1_3[i]? = some w) (g : goodWord w = true) : w ∈ gT := List.mem_filter.mpr ⟨List.mem_append_right _ (tb3 (List.mem_of_getElem? h)), g⟩
theorem nw3 {w : Cond} {i : Nat} (h : tables_1_3[i]? = some w) (g : isNest w = true) : w ∈ nT := List.mem_filter.mpr ⟨tb3 (List.mem_of_getElem? h), g⟩
theorem gw4 {w : Cond} {i : Nat} (h : tables_1_4[i]? = some w) (g : goodWord w = true) : w ∈ gT := List.mem_filter.mpr ⟨List.mem_append_right _ (tb4 (List.mem_of_getElem? h)), g⟩
theorem nw4 {w : Cond} {i : Nat} (h : tables_1_4[i]? = some w) (g : isNest w = true) : w ∈ nT := List.mem_filter.mpr ⟨tb4 (List.mem_of_getElem? h), g⟩
theorem gw5 {w : Cond} {i : Nat} (h : tables_1_5[i]? = some w) (g : goodWord w = true) : w ∈ gT := List.mem_filter.mpr ⟨List.mem_append_right _ (tb5 (List.mem_of_getElem? h)), g⟩
theorem nw5 {w : Cond} {i : Nat} (h : tables_1_5[i]? = some w) (g : isNest w = true) : w ∈ nT := List.mem_filter.mpr ⟨tb5 (List.mem_of_getElem? h), g⟩
theorem gw6 {w : Cond} {i : Nat} (h : tables_1_6[i]? = some w) (g : goodWord w = true) : w ∈ gT := List.mem_filter.mpr ⟨List.mem_append_right _ (tb6 (List.mem_of_getElem? h)), g⟩
theorem nw6 {w : Cond} {i : Nat} (h : tables_1_6[i]? = some w) (g : isNest w = true) : w ∈ nT := List.mem_filter.mpr ⟨tb6 (List.mem_of_getElem? h), g⟩
theorem pfor {y : MethodName} (h : plainName y.cls = true) : plainFor y = true := by
  unfold plainFor
  rw [h]
  rfl
theorem inG0 : ∀ w ∈ u_ws RX0 TX0 7, w ∈ gT := by
  intro w hw
  obtain ⟨k, hk, rfl⟩ := List.mem_map.mp hw
  have hk := List.mem_range.mp hk
  rcases (by omega : k = 0 ∨ k = 1 ∨ k = 2 ∨ k = 3 ∨ k = 4 ∨ k = 5 ∨ k = 6) with rfl | rfl | rfl | rfl | rfl | rfl | rfl
  · exact gw1 (i := 47) rfl rfl
  · exact gw1 (i := 49) rfl rfl
  · exact gw1 (i := 51) rfl rfl
  · exact gw1 (i := 53) rfl rfl
  · exact gw1 (i := 55) rfl rfl
  · exact gw1 (i := 57) rfl rfl
  · exact gw1 (i := 59) rfl rfl
theorem inG1 : ∀ w ∈ u_ws RX1 TX1 8, w ∈ gT := by
  intro w hw
  obtain ⟨k, hk, rfl⟩ := List.mem_map.mp hw
  have hk := List.mem_range.mp hk
  rcases (by omega : k = 0 ∨ k = 1 ∨ k = 2 ∨ k = 3 ∨ k = 4 ∨ k = 5 ∨ k = 6 ∨ k = 7) with rfl | rfl | rfl | rfl | rfl | rfl | rfl | rfl
  · exact gw1 (i := 200) rfl rfl
  · exact gw1 (i := 202) rfl rfl
  · exact gw1 (i := 204) rfl rfl
  · exact gw1 (i := 206) rfl rfl
  · exact gw1 (i := 208) rfl rfl
  · exact gw1 (i := 210) rfl rfl
  · exact gw1 (i := 212) rfl rfl
  · exact gw1 (i := 214) rfl rfl
theorem inG2 : ∀ w ∈ u_ws RX2 TX2 17, w ∈ gT := by
  intro w hw
  obtain ⟨k, hk, rfl⟩ := List.mem_map.mp hw
  have hk := List.mem_range.mp hk
  rcases (by omega : k = 0 ∨ k = 1 ∨ k = 2 ∨ k = 3 ∨ k = 4 ∨ k = 5 ∨ k = 6 ∨ k = 7 ∨ k = 8 ∨ k = 9 ∨ k = 10 ∨ k = 11 ∨ k = 12 ∨ k = 13 ∨ k = 14 ∨ k = 15 ∨ k = 16) with rfl | rfl | rfl | rfl | rfl | rfl | rfl | rfl | rfl | rfl | rfl | rfl | rfl | rfl | rfl | rfl | rfl
  · exact gw1 (i := 93) rfl rfl
  · exact gw1 (i := 95) rfl rfl
  · exact gw1 (i := 97) rfl rfl
  · exact gw1 (i := 99) rfl rfl
  · exact gw1 (i := 101) rfl rfl
  · exact gw1 (i := 103) rfl rfl
  · exact gw1 (i := 105) rfl rfl
  · exact gw1 (i := 107) rfl rfl
  · exact gw1 (i := 109) rfl rfl
  · exact gw1 (i := 111) rfl rfl
  · exact gw1 (i := 113) rfl rfl
  · exact gw1 (i := 115) rfl rfl
  · exact gw1 (i := 117) rfl rfl
  · exact gw1 (i := 119) rfl rfl
  · exact gw1 (i := 121) rfl rfl
  · exact gw1 (i := 123) rfl rfl
  · exact gw1 (i := 125) rfl rfl
theorem inG3 : ∀ w ∈ u_ws RX3 TX3 4, w ∈ gT := by
  intro w hw
  obtain ⟨k, hk, rfl⟩ := List.mem_map.mp hw
  have hk := List.mem_range.mp hk
  rcases (by omega : k = 0 ∨ k = 1 ∨ k = 2 ∨ k = 3) with rfl | rfl | rfl | rfl
  · exact gw1 (i := 141) rfl rfl
  · exact gw1 (i := 143) rfl rfl
  · exact gw1 (i := 145) rfl rfl
  · exact gw1 (i := 147) rfl rfl
theorem inG4 : ∀ w ∈ u_ws RX4 TX4 6, w ∈ gT := by
  intro w hw
  obtain ⟨k, hk, rfl⟩ := List.mem_map.mp hw
  have hk := List.mem_range.mp hk
  rcases (by omega : k = 0 ∨ k = 1 ∨ k = 2 ∨ k = 3 ∨ k = 4 ∨ k = 5) with rfl | rfl | rfl | rfl | rfl | rfl
  · exact gw1 (i := 168) rfl rfl
  · exact gw1 (i := 170) rfl rfl
  · exact gw1 (i := 172) rfl rfl
  · exact gw1 (i := 174) rfl rfl
  · exact gw1 (i := 176) rfl rfl
  · exact gw1 (i := 178) rfl rfl
theorem inG5 : ∀ w ∈ u_ws RX5 TX5 8, w ∈ gT := by
  intro w hw
  obtain ⟨k, hk, rfl⟩ := List.mem_map.mp hw
  have hk := List.mem_range.mp hk
  rcases (by omega : k = 0 ∨ k = 1 ∨ k = 2 ∨ k = 3 ∨ k = 4 ∨ k = 5 ∨ k = 6 ∨ k = 7) with rfl | rfl | rfl | rfl | rfl | rfl | rfl | rfl
  · exact gw1 (i := 229) rfl rfl
  · exact gw1 (i := 231) rfl rfl
  · exact gw1 (i := 233) rfl rfl
  · exact gw1 (i := 235) rfl rfl
  · exact gw1 (i := 237) rfl rfl
  · exact gw1 (i := 239) rfl rfl
  · exact gw2 (i := 1) rfl rfl
  · exact gw2 (i := 3) rfl rfl
theorem inG6 : ∀ w ∈ u_ws RX6 TX6 23, w ∈ gT := by
  intro w hw
  obtain ⟨k, hk, rfl⟩ := List.mem_map.mp hw
  have hk := List.mem_range.mp hk
  rcases (by omega : k = 0 ∨ k = 1 ∨ k = 2 ∨ k = 3 ∨ k = 4 ∨ k = 5 ∨ k = 6 ∨ k = 7 ∨ k = 8 ∨ k = 9 ∨ k = 10 ∨ k = 11 ∨ k = 12 ∨ k = 13 ∨ k = 14 ∨ k = 15 ∨ k = 16 ∨ k = 17 ∨ k = 18 ∨ k = 19 ∨ k = 20 ∨ k = 21 ∨ k = 22) with rfl | rfl | rfl | rfl | rfl | rfl | rfl | rfl | rfl | rfl | rfl | rfl | rfl | rfl | rfl | rfl | rfl | rfl | rfl | rfl | rfl | rfl | rfl
  · exact gw4 (i := 103) rfl rfl
  · exact gw4 (i := 105) rfl rfl
  · exact gw4 (i := 107) rfl rfl
  · exact gw4 (i := 109) rfl rfl
  · exact gw4 (i := 111) rfl rfl
  · exact gw4 (i := 113) rfl rfl
  · exact gw4 (i := 115) rfl rfl
  · exact gw4 (i := 117) rfl rfl
  · exact gw4 (i := 119) rfl rfl
  · exact gw4 (i := 121) rfl rfl
  · exact gw4 (i := 123) rfl rfl
  · exact gw4 (i := 125) rfl rfl
  · exact gw4 (i := 127) rfl rfl
  · exact gw4 (i := 129) rfl rfl
  · exact gw4 (i := 131) rfl rfl
  · exact gw4 (i := 133) rfl rfl
  · exact gw4 (i := 135) rfl rfl
  · exact gw4 (i := 137) rfl rfl
  · exact gw4 (i := 139) rfl rfl
  · exact gw4 (i := 141) rfl rfl
  · exact gw4 (i := 143) rfl rfl
  · exact gw4 (i := 145) rfl rfl
  · exact gw4 (i := 147) rfl rfl
theorem cn_0 : RX5 ≠ "java/lang/invoke/MethodHandle" ∧ RX5 ≠ "java/lang/invoke/VarHandle" := ⟨by decide +kernel, by decide +kernel⟩
theorem pn_0 : plainName RX5 = true := by decide +kernel
theorem cn_1 : RX0 ≠ "java/lang/invoke/MethodHandle" ∧ RX0 ≠ "java/lang/invoke/VarHandle" := ⟨by decide +kernel, by decide +kernel⟩
theorem pn_1 : plainName RX0 = true := by decide +kernel
theorem cn_2 : RX1 ≠ "java/lang/invoke/MethodHandle" ∧ RX1 ≠ "java/lang/invoke/VarHandle" := ⟨by decide +kernel, by decide +kernel⟩
theorem pn_2 : plainName RX1 = true := by decide +kernel
theorem cn_3 : RX2 ≠ "java/lang/invoke/MethodHandle" ∧ RX2 ≠ "java/lang/invoke/VarHandle" := ⟨by decide +kernel, by decide +kernel⟩
theorem pn_3 : plainName RX2 = true := by decide +kernel
theorem cn_4 : RX3 ≠ "java/lang/invoke/MethodHandle" ∧ RX3 ≠ "java/lang/invoke/VarHandle" := ⟨by decide +kernel, by decide +kernel⟩
theorem pn_4 : plainName RX3 = true := by decide +kernel
theorem cn_5 : RX4 ≠ "java/lang/invoke/MethodHandle" ∧ RX4 ≠ "java/lang/invoke/VarHandle" := ⟨by decide +kernel, by decide +kernel⟩
theorem pn_5 : plainName RX4 = true := by decide +kernel
theorem cn_6 : RX6 ≠ "java/lang/invoke/MethodHandle" ∧ RX6 ≠ "java/lang/invoke/VarHandle" := ⟨by decide +kernel, by decide +kernel⟩
theorem pn_6 : plainName RX6 = true := by decide +kernel
theorem cn_7 : RJ6 ≠ "java/lang/invoke/MethodHandle" ∧ RJ6 ≠ "java/lang/invoke/VarHandle" := ⟨by decide +kernel, by decide +kernel⟩
theorem cn_8 : RJ9 ≠ "java/lang/invoke/MethodHandle" ∧ RJ9 ≠ "java/lang/invoke/VarHandle" := ⟨by decide +kernel, by decide +kernel⟩
theorem cn_9 : RJ7 ≠ "java/lang/invoke/MethodHandle" ∧ RJ7 ≠ "java/lang/invoke/VarHandle" := ⟨by decide +kernel, by decide +kernel⟩
theorem ds_0 : (parseMethodDescriptor "()I").map (fun d => d.parameters.length) = some 0 := by decide +kernel
theorem ds_1 : (parseMethodDescriptor "()V").map (fun d => d.parameters.length) = some 0 := by decide +kernel
theorem ds_2 : (parseMethodDescriptor "()Z").map (fun d => d.parameters.length) = some 0 := by decide +kernel
theorem ds_3 : (parseMethodDescriptor "(I)I").map (fun d => d.parameters.length) = some 1 := by decide +kernel
theorem ds_4 : (parseMethodDescriptor "(I)LSlideFold$Lane;").map (fun d => d.parameters.length) = some 1 := by decide +kernel
theorem ds_5 : (parseMethodDescriptor "(I)V").map (fun d => d.parameters.length) = some 1 := by decide +kernel
theorem ds_6 : (parseMethodDescriptor "(I)Z").map (fun d => d.parameters.length) = some 1 := by decide +kernel
theorem ds_7 : (parseMethodDescriptor "(II)I").map (fun d => d.parameters.length) = some 2 := by decide +kernel
theorem ds_8 : (parseMethodDescriptor "(II)LSlideFold$Lane;").map (fun d => d.parameters.length) = some 2 := by decide +kernel
theorem ds_9 : (parseMethodDescriptor "(II)V").map (fun d => d.parameters.length) = some 2 := by decide +kernel
theorem ds_10 : (parseMethodDescriptor "(II)Z").map (fun d => d.parameters.length) = some 2 := by decide +kernel
theorem ds_11 : (parseMethodDescriptor "(III)I").map (fun d => d.parameters.length) = some 3 := by decide +kernel
theorem ds_12 : (parseMethodDescriptor "(III)V").map (fun d => d.parameters.length) = some 3 := by decide +kernel
theorem ds_13 : (parseMethodDescriptor "(III)Z").map (fun d => d.parameters.length) = some 3 := by decide +kernel
theorem ds_14 : (parseMethodDescriptor "(IIII)I").map (fun d => d.parameters.length) = some 4 := by decide +kernel
theorem ds_15 : (parseMethodDescriptor "(IIII)V").map (fun d => d.parameters.length) = some 4 := by decide +kernel
theorem ds_16 : (parseMethodDescriptor "(IIII)Z").map (fun d => d.parameters.length) = some 4 := by decide +kernel
theorem ds_17 : (parseMethodDescriptor "(IIIII)I").map (fun d => d.parameters.length) = some 5 := by decide +kernel
theorem ds_18 : (parseMethodDescriptor "(IIIZ)V").map (fun d => d.parameters.length) = some 4 := by decide +kernel
theorem ds_19 : (parseMethodDescriptor "(IIZ)V").map (fun d => d.parameters.length) = some 3 := by decide +kernel
theorem ds_20 : (parseMethodDescriptor "(J)I").map (fun d => d.parameters.length) = some 1 := by decide +kernel
theorem ds_21 : (parseMethodDescriptor "(LSlideFold$Flip;)V").map (fun d => d.parameters.length) = some 1 := by decide +kernel
theorem ds_22 : (parseMethodDescriptor "(LSlideFold$Lane;)V").map (fun d => d.parameters.length) = some 1 := by decide +kernel
theorem ds_23 : (parseMethodDescriptor "(LSlideFold$Lane;I)V").map (fun d => d.parameters.length) = some 2 := by decide +kernel
theorem ds_24 : (parseMethodDescriptor "(LSlideFold$Lane;II)I").map (fun d => d.parameters.length) = some 3 := by decide +kernel
theorem ds_25 : (parseMethodDescriptor "(LSlideFold$Lane;II)V").map (fun d => d.parameters.length) = some 3 := by decide +kernel
theorem ds_26 : (parseMethodDescriptor "(LSlideFold$Lane;III)I").map (fun d => d.parameters.length) = some 4 := by decide +kernel
theorem ds_27 : (parseMethodDescriptor "(LSlideFold$Lane;III)V").map (fun d => d.parameters.length) = some 4 := by decide +kernel
theorem ds_28 : (parseMethodDescriptor "(Z)I").map (fun d => d.parameters.length) = some 1 := by decide +kernel
theorem ds_29 : (parseMethodDescriptor "(ZI)V").map (fun d => d.parameters.length) = some 2 := by decide +kernel
theorem ds_30 : (parseMethodDescriptor "([II)V").map (fun d => d.parameters.length) = some 2 := by decide +kernel
theorem mokI {M : Nat} {y : MethodName} {b : ByteArray} {l : Nat} {r : Option FieldType} {k : Nat} (e : mt M = (y, b, l, r, k)) (h1 : Cond.code y b l r ∈ gT) (h2 : Cond.initialized y.cls ∈ gT) (h3 : y.cls ≠ "java/lang/invoke/MethodHandle" ∧ y.cls ≠ "java/lang/invoke/VarHandle") (h4 : (parseMethodDescriptor y.desc).map (fun d => d.parameters.length) = some k) (h5 : l ≤ 21) (h6 : plainFor y = true) : MOK M := by
  unfold MOK my mb ml mr mp
  rw [e]
  exact ⟨h1, h2, h3, h4, h5, h6⟩
