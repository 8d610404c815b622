-- the values, the memory of whole numbers, ranges
abbrev Vl : Type := Int ⊕ (Option (Nat × Int)) ⊕ Int
abbrev Mm : Type := Nat → Int → Int → Int
abbrev vI (a : Int) : Vl := Sum.inl a
abbrev vR (c : Nat) (i : Int) : Vl := Sum.inr (Sum.inl (some (c, i)))
abbrev vN : Vl := Sum.inr (Sum.inl none)
abbrev vL (a : Int) : Vl := Sum.inr (Sum.inr a)
def inR (a : Int) : Prop := -2147483648 ≤ a ∧ a < 2147483648
def inL (a : Int) : Prop := -9223372036854775808 ≤ a ∧ a < 9223372036854775808
def i3 (a : Int) : Int32 := Int32.ofInt a
def wr (a : Int) : Int := (Int32.ofInt a).toInt
def wl (a : Int) : Int := (Int64.ofInt a).toInt
def iand (a b : Int) : Int := (i3 a &&& i3 b).toInt
def ior (a b : Int) : Int := (i3 a ||| i3 b).toInt
def ixor (a b : Int) : Int := (i3 a ^^^ i3 b).toInt
def ishl (a b : Int) : Int := (i3 a <<< (i3 b &&& 31)).toInt
def ishr (a b : Int) : Int := (i3 a >>> (i3 b &&& 31)).toInt
def iushr (a b : Int) : Int := ((i3 a).toUInt32 >>> ((i3 b).toUInt32 &&& Int32.toUInt32 31)).toInt32.toInt
def lcmp (a b : Int) : Int := if a < b then -1 else if a = b then 0 else 1
theorem i3_toInt {a : Int} (h : inR a) : (i3 a).toInt = a := Int32.toInt_ofInt_of_le h.1 h.2
theorem i3_of (x : Int32) : i3 x.toInt = x := Int32.ofInt_toInt x
theorem inR_of (x : Int32) : inR x.toInt := ⟨Int32.le_toInt x, Int32.toInt_lt x⟩
theorem inR_wr (a : Int) : inR (wr a) := inR_of _
theorem i3_wr (a : Int) : i3 (wr a) = i3 a := Int32.ofInt_toInt _
theorem wr_id {a : Int} (h : inR a) : wr a = a := i3_toInt h
theorem i3_add (a b : Int) : i3 (a + b) = i3 a + i3 b := Int32.ofInt_add a b
theorem i3_sub (a b : Int) : i3 (a - b) = i3 a - i3 b := Int32.ofInt_sub a b
theorem i3_mul (a b : Int) : i3 (a * b) = i3 a * i3 b := Int32.ofInt_mul a b
theorem i3_neg (a : Int) : i3 (-a) = -i3 a := Int32.ofInt_neg a
theorem i3_inj {a b : Int} (ha : inR a) (hb : inR b) : i3 a = i3 b ↔ a = b := by
  constructor
  · intro h
    have h1 := congrArg Int32.toInt h
    rwa [i3_toInt ha, i3_toInt hb] at h1
  · intro h
    rw [h]
theorem i3_lt {a b : Int} (ha : inR a) (hb : inR b) : i3 a < i3 b ↔ a < b := by rw [Int32.lt_iff_toInt_lt, i3_toInt ha, i3_toInt hb]
theorem i3_le {a b : Int} (ha : inR a) (hb : inR b) : i3 a ≤ i3 b ↔ a ≤ b := by rw [Int32.le_iff_toInt_le, i3_toInt ha, i3_toInt hb]
theorem i3_nat {a : Int} (ha : inR a) : (i3 a).toNatClampNeg = a.toNat := by
  show (i3 a).toInt.toNat = _
  rw [i3_toInt ha]
theorem i3_div {a b : Int} (ha : inR a) (hb : inR b) : i3 (a.tdiv b) = i3 a / i3 b :=
  Int32.ofInt_tdiv (by have := ha.1; exact this) (by have := ha.2; exact Int.le_of_lt_add_one this) (by have := hb.1; exact this) (by have := hb.2; exact Int.le_of_lt_add_one this)
theorem tdiv_inR {a b : Int} (ha : inR a) (hb : 0 < b) : inR (a.tdiv b) := by
  have h1 : (a.tdiv b).natAbs ≤ a.natAbs := by
    rw [Int.natAbs_tdiv]
    exact Nat.div_le_self _ _
  obtain ⟨h2, h3⟩ := ha
  rcases Int.le_total 0 a with h0 | h0
  · have h4 : 0 ≤ a.tdiv b := Int.tdiv_nonneg h0 (by omega)
    constructor <;> omega
  · by_cases h5 : a = -2147483648
    · by_cases h6 : 0 < a.tdiv b
      · exfalso
        have h7 : a.tdiv b ≤ 0 := by
          have h8 : (-a).tdiv b = -(a.tdiv b) := Int.neg_tdiv a b
          have h9 : 0 ≤ (-a).tdiv b := Int.tdiv_nonneg (by omega) (by omega)
          omega
        omega
      · constructor <;> omega
    · constructor <;> omega
theorem tmod_eq (a b : Int) : a - a.tdiv b * b = a.tmod b := by
  have h := Int.tmod_add_tdiv_mul a b
  omega
theorem tmod_inR {a b : Int} (ha : inR a) (hb : 0 < b) (hb2 : inR b) : inR (a.tmod b) := by
  have h1 := Int.tmod_lt_of_pos a hb
  have h2 : -b < a.tmod b := by
    have h3 : (-a).tmod b = -(a.tmod b) := Int.neg_tmod a b
    have h4 := Int.tmod_lt_of_pos (-a) hb
    omega
  obtain ⟨h5, h6⟩ := hb2
  constructor <;> omega
theorem inR_lit {a : Int} (h : (decide (-2147483648 ≤ a) && decide (a < 2147483648)) = true) : inR a := by
  simp only [Bool.and_eq_true, decide_eq_true_eq] at h
  exact h
-- a value of ours as one of the machine's
def mv (ad : Nat → Int → Nat) : Vl → Value
  | .inl a => .int (i3 a)
  | .inr (.inl none) => .null
  | .inr (.inl (some q)) => .ref (ad q.1 q.2)
  | .inr (.inr a) => .long (Int64.ofInt a)
def rV (vd : Nat × Int → Prop) : Vl → Prop
  | .inl a => inR a
  | .inr (.inl none) => True
  | .inr (.inl (some q)) => vd q
  | .inr (.inr a) => inL a
def rS (vd : Nat × Int → Prop) (st : List Vl) : Prop := ∀ v ∈ st, rV vd v
theorem rS_nil {vd : Nat × Int → Prop} : rS vd [] := fun v h => by cases h
theorem rS_cons {vd : Nat × Int → Prop} {v : Vl} {st : List Vl} : rS vd (v :: st) ↔ rV vd v ∧ rS vd st :=
  ⟨fun h => ⟨h v List.mem_cons_self, fun w hw => h w (List.mem_cons_of_mem _ hw)⟩, fun h w hw => by
    rcases List.mem_cons.mp hw with rfl | hw
    · exact h.1
    · exact h.2 w hw⟩
theorem rS_app {vd : Nat × Int → Prop} {a b : List Vl} : rS vd (a ++ b) ↔ rS vd a ∧ rS vd b :=
  ⟨fun h => ⟨fun w hw => h w (List.mem_append_left _ hw), fun w hw => h w (List.mem_append_right _ hw)⟩, fun h w hw => by
    rcases List.mem_append.mp hw with hw | hw
    · exact h.1 w hw
    · exact h.2 w hw⟩
theorem rS_rev {vd : Nat × Int → Prop} {a : List Vl} : rS vd a.reverse ↔ rS vd a :=
  ⟨fun h w hw => h w (List.mem_reverse.mpr hw), fun h w hw => h w (List.mem_reverse.mp hw)⟩
-- how many words a value takes
def csz : Vl → Nat
  | .inr (.inr _) => 2
  | _ => 1
def csum (l : List Vl) : Nat := (l.map csz).sum
theorem mv_cat (ad : Nat → Int → Nat) (v : Vl) : (mv ad v).category = csz v := by
  rcases v with a | (_ | q) | a <;> rfl
theorem mv_sum (ad : Nat → Int → Nat) (l : List Vl) : ((l.map (mv ad)).map fun v => v.category).sum = csum l := by
  unfold csum
  rw [List.map_map]
  congr 1
  exact List.map_congr_left fun v _ => mv_cat ad v
-- locals: by their places; what isn't known is none
abbrev Lc : Type := List (Option Vl)
def lpairs (ad : Nat → Int → Nat) : Nat → Lc → List (Nat × Value)
  | _, [] => []
  | k, none :: t => lpairs ad (k + 1) t
  | k, some v :: t => (k, mv ad v) :: lpairs ad (k + 1) t
theorem lpairs_mem {ad : Nat → Int → Nat} {q : Nat × Value} : ∀ {ls : Lc} {k : Nat}, q ∈ lpairs ad k ls ↔ ∃ (i : Nat) (v : Vl), ls[i]? = some (some v) ∧ q = (k + i, mv ad v)
  | [], k => by simp [lpairs]
  | none :: t, k => by
    rw [lpairs, lpairs_mem (ls := t)]
    constructor
    · rintro ⟨i, v, h, rfl⟩
      exact ⟨i + 1, v, by simpa using h, by rw [Nat.add_assoc, Nat.add_comm 1 i]⟩
    · rintro ⟨i, v, h, rfl⟩
      cases i with
      | zero => simp at h
      | succ i => exact ⟨i, v, by simpa using h, by rw [Nat.add_assoc, Nat.add_comm 1 i]⟩
  | some w :: t, k => by
    rw [lpairs, List.mem_cons, lpairs_mem (ls := t)]
    constructor
    · rintro (rfl | ⟨i, v, h, rfl⟩)
      · exact ⟨0, w, by simp, by simp⟩
      · exact ⟨i + 1, v, by simpa using h, by rw [Nat.add_assoc, Nat.add_comm 1 i]⟩
    · rintro ⟨i, v, h, rfl⟩
      cases i with
      | zero =>
        simp at h
        subst h
        exact Or.inl (by simp)
      | succ i => exact Or.inr ⟨i, v, by simpa using h, by rw [Nat.add_assoc, Nat.add_comm 1 i]⟩
def lOK (ad : Nat → Int → Nat) (nL : Nat) (ls : Lc) (lsA : Array Slot) : Prop := ls.length = nL ∧ lv_has lsA nL (lpairs ad 0 ls)
theorem lOK.at {ad : Nat → Int → Nat} {nL : Nat} {ls : Lc} {lsA : Array Slot} (h : lOK ad nL ls lsA) {i : Nat} {v : Vl} (hi : ls[i]? = some (some v)) : lsA[i]? = some (.val (mv ad v)) :=
  h.2.2.2 (i, mv ad v) (lpairs_mem.mpr ⟨i, v, hi, by simp⟩)
/-- no long lies just ahead of the place -/
def lfree (ls : Lc) (i : Nat) : Bool := match i with
  | 0 => true
  | j + 1 => match ls[j]? with
    | some (some (.inr (.inr _))) => false
    | _ => true
theorem lOK.set {ad : Nat → Int → Nat} {nL : Nat} {ls : Lc} {lsA lsB : Array Slot} {i : Nat} {v : Vl} (h : lOK ad nL ls lsA) (hi : lfree ls i = true)
    (h2 : lv_has lsB nL ((i, mv ad v) :: (lpairs ad 0 ls).filter (fun q => !(q.1 == i) && !(q.1 + 1 == i && q.2.category == 2)))) : lOK ad nL (ls.set i (some v)) lsB := by
  refine ⟨by rw [List.length_set]; exact h.1, h2.1, h2.2.1, fun q hq => ?_⟩
  obtain ⟨j, w, hj, rfl⟩ := lpairs_mem.mp hq
  rw [Nat.zero_add]
  by_cases hij : i = j
  · subst hij
    have hlt : i < ls.length := by
      have := (List.getElem?_eq_some_iff.mp hj).1
      simpa using this
    rw [List.getElem?_set_self hlt] at hj
    cases hj
    exact h2.2.2 (i, mv ad v) List.mem_cons_self
  · rw [List.getElem?_set_ne hij] at hj
    refine h2.2.2 (j, mv ad w) (List.mem_cons_of_mem _ (List.mem_filter.mpr ⟨lpairs_mem.mpr ⟨j, w, hj, by simp⟩, ?_⟩))
    have h3 : (j == i) = false := by simp; omega
    rw [h3]
    by_cases h4 : j + 1 = i
    · subst h4
      have h5 : csz w = 1 := by
        unfold lfree at hi
        rcases w with a | (_ | q) | a
        · rfl
        · rfl
        · rfl
        · simp [hj] at hi
      simp [mv_cat, h5]
    · simp [h4]
/-- less is known -/
def lle : Lc → Lc → Bool
  | [], [] => true
  | none :: s, _ :: t => lle s t
  | some _ :: s, some _ :: t => lle s t
  | _, _ => false
def lsub (a b : Lc) : Prop := a.length = b.length ∧ ∀ (i : Nat) (v : Vl), a[i]? = some (some v) → b[i]? = some (some v)
theorem lOK.sub {ad : Nat → Int → Nat} {nL : Nat} {ls ls' : Lc} {lsA : Array Slot} (h : lOK ad nL ls lsA) (hs : lsub ls' ls) : lOK ad nL ls' lsA := by
  refine ⟨hs.1.trans h.1, h.2.1, h.2.2.1, fun q hq => ?_⟩
  obtain ⟨i, v, hi, rfl⟩ := lpairs_mem.mp hq
  exact h.2.2.2 _ (lpairs_mem.mpr ⟨i, v, hs.2 i v hi, rfl⟩)
theorem lsub_nil : lsub [] [] := ⟨rfl, fun i v h => by simp at h⟩
theorem lsub_none {s t : Lc} {x : Option Vl} (h : lsub s t) : lsub (none :: s) (x :: t) := ⟨by simp [h.1], fun i v hi => by
  cases i with
  | zero => simp at hi
  | succ i => simpa using h.2 i v (by simpa using hi)⟩
theorem lsub_some {s t : Lc} {x : Option Vl} (h : lsub s t) : lsub (x :: s) (x :: t) := ⟨by simp [h.1], fun i v hi => by
  cases i with
  | zero => simpa using hi
  | succ i => simpa using h.2 i v (by simpa using hi)⟩
-- the locals with which a method begins
def entL : List Vl → Lc
  | [] => []
  | .inr (.inr a) :: t => some (vL a) :: none :: entL t
  | v :: t => some v :: entL t
def ent (n : Nat) (as : List Vl) : Lc := entL as ++ List.replicate (n - (entL as).length) none
theorem entL_len : ∀ as : List Vl, (entL as).length = csum as
  | [] => rfl
  | .inr (.inr a) :: t => by
    show (entL t).length + 1 + 1 = 2 + csum t
    rw [entL_len t]
    omega
  | .inl a :: t => by
    show (entL t).length + 1 = 1 + csum t
    rw [entL_len t]
    omega
  | .inr (.inl r) :: t => by
    show (entL t).length + 1 = 1 + csum t
    rw [entL_len t]
    omega
theorem lpairs_app {ad : Nat → Int → Nat} : ∀ (a b : Lc) (k : Nat), lpairs ad k (a ++ b) = lpairs ad k a ++ lpairs ad (k + a.length) b
  | [], b, k => by simp [lpairs]
  | none :: t, b, k => by
    show lpairs ad (k + 1) (t ++ b) = _
    rw [lpairs_app t b (k + 1)]
    simp [lpairs, Nat.add_assoc, Nat.add_comm 1]
  | some v :: t, b, k => by
    show (k, mv ad v) :: lpairs ad (k + 1) (t ++ b) = _
    rw [lpairs_app t b (k + 1)]
    simp [lpairs, Nat.add_assoc, Nat.add_comm 1]
theorem lpairs_nones {ad : Nat → Int → Nat} : ∀ (n k : Nat), lpairs ad k (List.replicate n none) = []
  | 0, k => rfl
  | n + 1, k => by
    rw [List.replicate_succ]
    exact lpairs_nones n (k + 1)
theorem lpairs_ent {ad : Nat → Int → Nat} : ∀ (as : List Vl) (k : Nat), lpairs ad k (entL as) = lv_args k (as.map (mv ad))
  | [], k => rfl
  | .inr (.inr a) :: t, k => by
    show (k, Value.long _) :: lpairs ad (k + 1 + 1) (entL t) = _
    rw [lpairs_ent t (k + 1 + 1)]
    rfl
  | .inl a :: t, k => by
    show (k, Value.int _) :: lpairs ad (k + 1) (entL t) = _
    rw [lpairs_ent t (k + 1)]
    rfl
  | .inr (.inl none) :: t, k => by
    show (k, Value.null) :: lpairs ad (k + 1) (entL t) = _
    rw [lpairs_ent t (k + 1)]
    rfl
  | .inr (.inl (some q)) :: t, k => by
    show (k, Value.ref _) :: lpairs ad (k + 1) (entL t) = _
    rw [lpairs_ent t (k + 1)]
    rfl
theorem lg_sl_len (ad : Nat → Int → Nat) : ∀ as : List Vl, (lg_sl (as.map (mv ad))).length = csum as
  | [] => rfl
  | .inr (.inr a) :: t => by
    have h := lg_sl_len ad t
    simp only [lg_sl, List.map_cons, List.flatMap_cons, List.length_append] at h ⊢
    rw [h]
    simp [mv, Value.category, csum, csz]
  | .inl a :: t => by
    have h := lg_sl_len ad t
    simp only [lg_sl, List.map_cons, List.flatMap_cons, List.length_append] at h ⊢
    rw [h]
    simp [mv, Value.category, csum, csz]
  | .inr (.inl none) :: t => by
    have h := lg_sl_len ad t
    simp only [lg_sl, List.map_cons, List.flatMap_cons, List.length_append] at h ⊢
    rw [h]
    simp [mv, Value.category, csum, csz]
  | .inr (.inl (some q)) :: t => by
    have h := lg_sl_len ad t
    simp only [lg_sl, List.map_cons, List.flatMap_cons, List.length_append] at h ⊢
    rw [h]
    simp [mv, Value.category, csum, csz]
theorem ent_ok (ad : Nat → Int → Nat) (as : List Vl) {n : Nat} (h : csum as ≤ n) : lOK ad n (ent n as) ((lg_sl (as.map (mv ad)) ++ List.replicate (n - (lg_sl (as.map (mv ad))).length) Slot.unset).toArray) := by
  refine ⟨?_, ?_⟩
  · unfold ent
    rw [List.length_append, List.length_replicate, entL_len]
    omega
  · unfold ent
    rw [lpairs_app, lpairs_nones, List.append_nil, lpairs_ent]
    exact lv_entry (as.map (mv ad)) (by rw [lg_sl_len]; exact h)
theorem ent_rng {vd : Nat × Int → Prop} {n : Nat} {as : List Vl} (h : rS vd as) : ∀ v : Vl, some v ∈ ent n as → rV vd v := by
  intro v hv0
  unfold ent at hv0
  rcases List.mem_append.mp hv0 with hv | hv
  · clear hv0
    induction as with
    | nil => simp [entL] at hv
    | cons a t ih =>
      obtain ⟨h1, h2⟩ := rS_cons.mp h
      rcases a with a | r | a
      · rcases List.mem_cons.mp (show some v ∈ some (Sum.inl a) :: entL t from hv) with e | e
        · cases e; exact h1
        · exact ih h2 e
      · rcases List.mem_cons.mp (show some v ∈ some (Sum.inr (Sum.inl r)) :: entL t from hv) with e | e
        · cases e; exact h1
        · exact ih h2 e
      · rcases List.mem_cons.mp (show some v ∈ some (vL a) :: none :: entL t from hv) with e | e
        · cases e; exact h1
        · rcases List.mem_cons.mp e with e | e
          · cases e
          · exact ih h2 e
  · have := List.eq_of_mem_replicate hv
    cases this
-- the rules of control and numbers: 'K' is closed under them; the machine's own predicate is
def gT : List Cond := lw_tbl.filter goodWord
def isNest : Cond → Bool
  | .fieldLinkNest .. => true
  | .methodLinkNest .. => true
  | _ => false
def nT : List Cond := tables_1.filter isNest
section GMAC
variable {α : Type} (ad : Nat → Int → Nat) (vd : α → Nat × Int → Prop) (Wd : α → Heap → Prop) (cf sf : α → Nat) (rg : α → Prop)
variable (p : Program) (l : Launch) (e : Env) (R : Room) (s : State) (m : MethodId) (args : Array Value) (below : List Frame) (meth : Method) (c : Code) (A : Nat → Prop) (Q : State → Prop) (nL : Nat)
def Gm (pc : Nat) (ls : Lc) (st : List Vl) (μ : α) : Prop :=
  rg μ → (∀ v : Vl, some v ∈ ls → rV (vd μ) v) → rS (vd μ) st → ∀ (H : Heap) (locs : List Loc) (lsA : Array Slot), Wd μ H → va_S A s.heap H locs → lOK ad nL ls lsA → W p l e R s m args below meth c H locs (cf μ) (sf μ) Q (F0 m pc lsA (st.map (mv ad)))
end GMAC
abbrev Cx (p : Program) (s : State) (m : MethodId) (args : Array Value) (meth : Method) (c : Code) (cc : ByteArray) (own : String) (nL : Nat) : Prop :=
  p.tables.exec = Jvm.exec ∧ c.code = cc ∧ c.maxLocals = nL ∧ s.vm.findClass own = some m.cls ∧ (∀ w ∈ gT, w.before args s = true) ∧ (∀ w ∈ nT, va_Nw w s) ∧ meth.locks = false
section LVX
variable {p : Program} {l : Launch} {e : Env} {R : Room} {s : State} {m : MethodId} {args : Array Value} {below : List Frame} {meth : Method} {c : Code} {H : Heap} {locs : List Loc} {cells slots : Nat} {Q : State → Prop}
variable {cc : ByteArray} {pc : Nat} {ls : Array Slot} {rest : List Value}
theorem gm_aloadN_n (hexec : p.tables.exec = Jvm.exec) (hb : c.code = cc) {k : Fin 4} {i : Nat} (hdg : decode cc pc = .ok (.aload_n k, 1)) (hi : (k : Nat) = i) (hl : ls[i]? = some (.val (.null)))
    (k : W p l e R s m args below meth c H locs cells slots Q (F0 m (pc + 1) ls (.null :: rest))) : W p l e R s m args below meth c H locs cells slots Q (F0 m pc ls (rest)) := by
  subst hi
  intro T hT X
  obtain ⟨t, a, b⟩ := k T hT X
  refine ⟨t, ?_, b⟩
  jvm_step X.here [X.here.top, hexec, hb, hdg, hl, Value.isRef]
  exact a
theorem gm_astoreN_n (hexec : p.tables.exec = Jvm.exec) (hb : c.code = cc) {k : Fin 4} {i nL : Nat} {lv lv' : List (Nat × Value)} (hdg : decode cc pc = .ok (.astore_n k, 1)) (hi : (k : Nat) = i) (h : lv_has ls nL lv) (hn : i < nL) (hl : (i, Value.null) :: lv.filter (fun q => !(q.1 == i) && !(q.1 + 1 == i && q.2.category == 2)) = lv')
    (kk : ∀ ls' : Array Slot, lv_has ls' nL lv' → W p l e R s m args below meth c H locs cells slots Q (F0 m (pc + 1) ls' rest)) : W p l e R s m args below meth c H locs cells slots Q (F0 m pc ls (.null :: rest)) := by
  subst hi
  obtain ⟨ls', e', h'⟩ := lv_store1 (v := .null) h hn rfl
  intro T hT X
  obtain ⟨t, a, b⟩ := kk ls' (hl ▸ h') T hT X
  refine ⟨t, ?_, b⟩
  jvm_step X.here [X.here.top, ↓top_set X.here.top, hexec, hb, hdg, e', Value.isRef]
  exact a
end LVX

def Q_iconst {α : Type} (vd : α → Nat × Int → Prop) (rg : α → Prop) (cc : ByteArray) (own : String) (K : Nat → Lc → List Vl → α → Prop) : Prop := ∀ {pc : Nat} {ls : Lc} {st : List Vl} {μ : α} {n : Int}, (decode cc pc = .ok (.iconst n, 1)) → ((decide (-2147483648 ≤ n) && decide (n < 2147483648)) = true) → (K (pc + 1) ls (vI n :: st) μ) → K pc ls st μ
def Q_bipush {α : Type} (vd : α → Nat × Int → Prop) (rg : α → Prop) (cc : ByteArray) (own : String) (K : Nat → Lc → List Vl → α → Prop) : Prop := ∀ {pc : Nat} {ls : Lc} {st : List Vl} {μ : α} {n : Int}, (decode cc pc = .ok (.bipush n, 2)) → ((decide (-128 ≤ n) && decide (n < 128)) = true) → (K (pc + 2) ls (vI n :: st) μ) → K pc ls st μ
def Q_sipush {α : Type} (vd : α → Nat × Int → Prop) (rg : α → Prop) (cc : ByteArray) (own : String) (K : Nat → Lc → List Vl → α → Prop) : Prop := ∀ {pc : Nat} {ls : Lc} {st : List Vl} {μ : α} {n : Int}, (decode cc pc = .ok (.sipush n, 3)) → ((decide (-32768 ≤ n) && decide (n < 32768)) = true) → (K (pc + 3) ls (vI n :: st) μ) → K pc ls st μ
def Q_ldc {α : Type} (vd : α → Nat × Int → Prop) (rg : α → Prop) (cc : ByteArray) (own : String) (K : Nat → Lc → List Vl → α → Prop) : Prop := ∀ {pc : Nat} {ls : Lc} {st : List Vl} {μ : α} {x : Nat} {n : Int}, (decode cc pc = .ok (.ldc x, 2)) → (Cond.constant own x (i3 n) ∈ gT) → ((decide (-2147483648 ≤ n) && decide (n < 2147483648)) = true) → (K (pc + 2) ls (vI n :: st) μ) → K pc ls st μ
def Q_ldcw {α : Type} (vd : α → Nat × Int → Prop) (rg : α → Prop) (cc : ByteArray) (own : String) (K : Nat → Lc → List Vl → α → Prop) : Prop := ∀ {pc : Nat} {ls : Lc} {st : List Vl} {μ : α} {x : Nat} {n : Int}, (decode cc pc = .ok (.ldc_w x, 3)) → (Cond.constant own x (i3 n) ∈ gT) → ((decide (-2147483648 ≤ n) && decide (n < 2147483648)) = true) → (K (pc + 3) ls (vI n :: st) μ) → K pc ls st μ
def Q_iload_n {α : Type} (vd : α → Nat × Int → Prop) (rg : α → Prop) (cc : ByteArray) (own : String) (K : Nat → Lc → List Vl → α → Prop) : Prop := ∀ {pc : Nat} {ls : Lc} {st : List Vl} {μ : α} {x : Fin 4} {a : Int}, (decode cc pc = .ok (.iload_n x, 1)) → (ls[(x : Nat)]? = some (some (vI a))) → (K (pc + 1) ls (vI a :: st) μ) → K pc ls st μ
def Q_iload {α : Type} (vd : α → Nat × Int → Prop) (rg : α → Prop) (cc : ByteArray) (own : String) (K : Nat → Lc → List Vl → α → Prop) : Prop := ∀ {pc : Nat} {ls : Lc} {st : List Vl} {μ : α} {x : Nat} {a : Int}, (decode cc pc = .ok (.iload x, 2)) → (ls[x]? = some (some (vI a))) → (K (pc + 2) ls (vI a :: st) μ) → K pc ls st μ
def Q_lload_n {α : Type} (vd : α → Nat × Int → Prop) (rg : α → Prop) (cc : ByteArray) (own : String) (K : Nat → Lc → List Vl → α → Prop) : Prop := ∀ {pc : Nat} {ls : Lc} {st : List Vl} {μ : α} {x : Fin 4} {a : Int}, (decode cc pc = .ok (.lload_n x, 1)) → (ls[(x : Nat)]? = some (some (vL a))) → (K (pc + 1) ls (vL a :: st) μ) → K pc ls st μ
def Q_aload_n {α : Type} (vd : α → Nat × Int → Prop) (rg : α → Prop) (cc : ByteArray) (own : String) (K : Nat → Lc → List Vl → α → Prop) : Prop := ∀ {pc : Nat} {ls : Lc} {st : List Vl} {μ : α} {x : Fin 4} {q : Nat × Int}, (decode cc pc = .ok (.aload_n x, 1)) → (ls[(x : Nat)]? = some (some (Sum.inr (Sum.inl (some q))))) → (K (pc + 1) ls (Sum.inr (Sum.inl (some q)) :: st) μ) → K pc ls st μ
def Q_aload {α : Type} (vd : α → Nat × Int → Prop) (rg : α → Prop) (cc : ByteArray) (own : String) (K : Nat → Lc → List Vl → α → Prop) : Prop := ∀ {pc : Nat} {ls : Lc} {st : List Vl} {μ : α} {x : Nat} {q : Nat × Int}, (decode cc pc = .ok (.aload x, 2)) → (ls[x]? = some (some (Sum.inr (Sum.inl (some q))))) → (K (pc + 2) ls (Sum.inr (Sum.inl (some q)) :: st) μ) → K pc ls st μ
def Q_aloadN_n {α : Type} (vd : α → Nat × Int → Prop) (rg : α → Prop) (cc : ByteArray) (own : String) (K : Nat → Lc → List Vl → α → Prop) : Prop := ∀ {pc : Nat} {ls : Lc} {st : List Vl} {μ : α} {x : Fin 4}, (decode cc pc = .ok (.aload_n x, 1)) → (ls[(x : Nat)]? = some (some (vN))) → (K (pc + 1) ls (vN :: st) μ) → K pc ls st μ
def Q_aloadN {α : Type} (vd : α → Nat × Int → Prop) (rg : α → Prop) (cc : ByteArray) (own : String) (K : Nat → Lc → List Vl → α → Prop) : Prop := ∀ {pc : Nat} {ls : Lc} {st : List Vl} {μ : α} {x : Nat}, (decode cc pc = .ok (.aload x, 2)) → (ls[x]? = some (some (vN))) → (K (pc + 2) ls (vN :: st) μ) → K pc ls st μ
def Q_istore_n {α : Type} (vd : α → Nat × Int → Prop) (rg : α → Prop) (cc : ByteArray) (own : String) (K : Nat → Lc → List Vl → α → Prop) : Prop := ∀ {pc : Nat} {ls : Lc} {st : List Vl} {μ : α} {x : Fin 4} {a : Int}, (decode cc pc = .ok (.istore_n x, 1)) → ((Nat.blt (x : Nat) ls.length && lfree ls (x : Nat)) = true) → (K (pc + 1) (ls.set (x : Nat) (some (vI a))) st μ) → K pc ls (vI a :: st) μ
def Q_istore {α : Type} (vd : α → Nat × Int → Prop) (rg : α → Prop) (cc : ByteArray) (own : String) (K : Nat → Lc → List Vl → α → Prop) : Prop := ∀ {pc : Nat} {ls : Lc} {st : List Vl} {μ : α} {x : Nat} {a : Int}, (decode cc pc = .ok (.istore x, 2)) → ((Nat.blt x ls.length && lfree ls x) = true) → (K (pc + 2) (ls.set x (some (vI a))) st μ) → K pc ls (vI a :: st) μ
def Q_astore_n {α : Type} (vd : α → Nat × Int → Prop) (rg : α → Prop) (cc : ByteArray) (own : String) (K : Nat → Lc → List Vl → α → Prop) : Prop := ∀ {pc : Nat} {ls : Lc} {st : List Vl} {μ : α} {x : Fin 4} {q : Nat × Int}, (decode cc pc = .ok (.astore_n x, 1)) → ((Nat.blt (x : Nat) ls.length && lfree ls (x : Nat)) = true) → (K (pc + 1) (ls.set (x : Nat) (some (Sum.inr (Sum.inl (some q))))) st μ) → K pc ls (Sum.inr (Sum.inl (some q)) :: st) μ
def Q_astore {α : Type} (vd : α → Nat × Int → Prop) (rg : α → Prop) (cc : ByteArray) (own : String) (K : Nat → Lc → List Vl → α → Prop) : Prop := ∀ {pc : Nat} {ls : Lc} {st : List Vl} {μ : α} {x : Nat} {q : Nat × Int}, (decode cc pc = .ok (.astore x, 2)) → ((Nat.blt x ls.length && lfree ls x) = true) → (K (pc + 2) (ls.set x (some (Sum.inr (Sum.inl (some q))))) st μ) → K pc ls (Sum.inr (Sum.inl (some q)) :: st) μ
def Q_astoreN_n {α : Type} (vd : α → Nat × Int → Prop) (rg : α → Prop) (cc : ByteArray) (own : String) (K : Nat → Lc → List Vl → α → Prop) : Prop := ∀ {pc : Nat} {ls : Lc} {st : List Vl} {μ : α} {x : Fin 4}, (decode cc pc = .ok (.astore_n x, 1)) → ((Nat.blt (x : Nat) ls.length && lfree ls (x : Nat)) = true) → (K (pc + 1) (ls.set (x : Nat) (some (vN))) st μ) → K pc ls (vN :: st) μ
def Q_astoreN {α : Type} (vd : α → Nat × Int → Prop) (rg : α → Prop) (cc : ByteArray) (own : String) (K : Nat → Lc → List Vl → α → Prop) : Prop := ∀ {pc : Nat} {ls : Lc} {st : List Vl} {μ : α} {x : Nat}, (decode cc pc = .ok (.astore x, 2)) → ((Nat.blt x ls.length && lfree ls x) = true) → (K (pc + 2) (ls.set x (some (vN))) st μ) → K pc ls (vN :: st) μ
def Q_iinc {α : Type} (vd : α → Nat × Int → Prop) (rg : α → Prop) (cc : ByteArray) (own : String) (K : Nat → Lc → List Vl → α → Prop) : Prop := ∀ {pc : Nat} {ls : Lc} {st : List Vl} {μ : α} {x : Nat} {n a : Int}, (decode cc pc = .ok (.iinc x n, 3)) → (ls[x]? = some (some (vI a))) → (lfree ls x = true) → (K (pc + 3) (ls.set x (some (vI (wr (a + n))))) st μ) → K pc ls st μ
def Q_iadd {α : Type} (vd : α → Nat × Int → Prop) (rg : α → Prop) (cc : ByteArray) (own : String) (K : Nat → Lc → List Vl → α → Prop) : Prop := ∀ {pc : Nat} {ls : Lc} {st : List Vl} {μ : α} {a b : Int}, (decode cc pc = .ok (.iadd, 1)) → (K (pc + 1) ls (vI (wr (a + b)) :: st) μ) → K pc ls (vI b :: vI a :: st) μ
def Q_isub {α : Type} (vd : α → Nat × Int → Prop) (rg : α → Prop) (cc : ByteArray) (own : String) (K : Nat → Lc → List Vl → α → Prop) : Prop := ∀ {pc : Nat} {ls : Lc} {st : List Vl} {μ : α} {a b : Int}, (decode cc pc = .ok (.isub, 1)) → (K (pc + 1) ls (vI (wr (a - b)) :: st) μ) → K pc ls (vI b :: vI a :: st) μ
def Q_imul {α : Type} (vd : α → Nat × Int → Prop) (rg : α → Prop) (cc : ByteArray) (own : String) (K : Nat → Lc → List Vl → α → Prop) : Prop := ∀ {pc : Nat} {ls : Lc} {st : List Vl} {μ : α} {a b : Int}, (decode cc pc = .ok (.imul, 1)) → (K (pc + 1) ls (vI (wr (a * b)) :: st) μ) → K pc ls (vI b :: vI a :: st) μ
def Q_iand {α : Type} (vd : α → Nat × Int → Prop) (rg : α → Prop) (cc : ByteArray) (own : String) (K : Nat → Lc → List Vl → α → Prop) : Prop := ∀ {pc : Nat} {ls : Lc} {st : List Vl} {μ : α} {a b : Int}, (decode cc pc = .ok (.iand, 1)) → (K (pc + 1) ls (vI (iand a b) :: st) μ) → K pc ls (vI b :: vI a :: st) μ
def Q_ior {α : Type} (vd : α → Nat × Int → Prop) (rg : α → Prop) (cc : ByteArray) (own : String) (K : Nat → Lc → List Vl → α → Prop) : Prop := ∀ {pc : Nat} {ls : Lc} {st : List Vl} {μ : α} {a b : Int}, (decode cc pc = .ok (.ior, 1)) → (K (pc + 1) ls (vI (ior a b) :: st) μ) → K pc ls (vI b :: vI a :: st) μ
def Q_ixor {α : Type} (vd : α → Nat × Int → Prop) (rg : α → Prop) (cc : ByteArray) (own : String) (K : Nat → Lc → List Vl → α → Prop) : Prop := ∀ {pc : Nat} {ls : Lc} {st : List Vl} {μ : α} {a b : Int}, (decode cc pc = .ok (.ixor, 1)) → (K (pc + 1) ls (vI (ixor a b) :: st) μ) → K pc ls (vI b :: vI a :: st) μ
def Q_ishl {α : Type} (vd : α → Nat × Int → Prop) (rg : α → Prop) (cc : ByteArray) (own : String) (K : Nat → Lc → List Vl → α → Prop) : Prop := ∀ {pc : Nat} {ls : Lc} {st : List Vl} {μ : α} {a b : Int}, (decode cc pc = .ok (.ishl, 1)) → (K (pc + 1) ls (vI (ishl a b) :: st) μ) → K pc ls (vI b :: vI a :: st) μ
def Q_ishr {α : Type} (vd : α → Nat × Int → Prop) (rg : α → Prop) (cc : ByteArray) (own : String) (K : Nat → Lc → List Vl → α → Prop) : Prop := ∀ {pc : Nat} {ls : Lc} {st : List Vl} {μ : α} {a b : Int}, (decode cc pc = .ok (.ishr, 1)) → (K (pc + 1) ls (vI (ishr a b) :: st) μ) → K pc ls (vI b :: vI a :: st) μ
def Q_iushr {α : Type} (vd : α → Nat × Int → Prop) (rg : α → Prop) (cc : ByteArray) (own : String) (K : Nat → Lc → List Vl → α → Prop) : Prop := ∀ {pc : Nat} {ls : Lc} {st : List Vl} {μ : α} {a b : Int}, (decode cc pc = .ok (.iushr, 1)) → (K (pc + 1) ls (vI (iushr a b) :: st) μ) → K pc ls (vI b :: vI a :: st) μ
def Q_idiv {α : Type} (vd : α → Nat × Int → Prop) (rg : α → Prop) (cc : ByteArray) (own : String) (K : Nat → Lc → List Vl → α → Prop) : Prop := ∀ {pc : Nat} {ls : Lc} {st : List Vl} {μ : α} {a b : Int}, (decode cc pc = .ok (.idiv, 1)) → (0 < b) → (K (pc + 1) ls (vI (a.tdiv b) :: st) μ) → K pc ls (vI b :: vI a :: st) μ
def Q_irem {α : Type} (vd : α → Nat × Int → Prop) (rg : α → Prop) (cc : ByteArray) (own : String) (K : Nat → Lc → List Vl → α → Prop) : Prop := ∀ {pc : Nat} {ls : Lc} {st : List Vl} {μ : α} {a b : Int}, (decode cc pc = .ok (.irem, 1)) → (0 < b) → (K (pc + 1) ls (vI (a.tmod b) :: st) μ) → K pc ls (vI b :: vI a :: st) μ
def Q_ineg {α : Type} (vd : α → Nat × Int → Prop) (rg : α → Prop) (cc : ByteArray) (own : String) (K : Nat → Lc → List Vl → α → Prop) : Prop := ∀ {pc : Nat} {ls : Lc} {st : List Vl} {μ : α} {a : Int}, (decode cc pc = .ok (.ineg, 1)) → (K (pc + 1) ls (vI (wr (-a)) :: st) μ) → K pc ls (vI a :: st) μ
def Q_i2l {α : Type} (vd : α → Nat × Int → Prop) (rg : α → Prop) (cc : ByteArray) (own : String) (K : Nat → Lc → List Vl → α → Prop) : Prop := ∀ {pc : Nat} {ls : Lc} {st : List Vl} {μ : α} {a : Int}, (decode cc pc = .ok (.i2l, 1)) → (K (pc + 1) ls (vL a :: st) μ) → K pc ls (vI a :: st) μ
def Q_lconst {α : Type} (vd : α → Nat × Int → Prop) (rg : α → Prop) (cc : ByteArray) (own : String) (K : Nat → Lc → List Vl → α → Prop) : Prop := ∀ {pc : Nat} {ls : Lc} {st : List Vl} {μ : α} {n : Fin 2} {a : Int}, (decode cc pc = .ok (.lconst n, 1)) → (((n : Nat) : Int) = a) → (K (pc + 1) ls (vL a :: st) μ) → K pc ls st μ
def Q_lsub {α : Type} (vd : α → Nat × Int → Prop) (rg : α → Prop) (cc : ByteArray) (own : String) (K : Nat → Lc → List Vl → α → Prop) : Prop := ∀ {pc : Nat} {ls : Lc} {st : List Vl} {μ : α} {a b : Int}, (decode cc pc = .ok (.lsub, 1)) → (K (pc + 1) ls (vL (wl (a - b)) :: st) μ) → K pc ls (vL b :: vL a :: st) μ
def Q_lcmp {α : Type} (vd : α → Nat × Int → Prop) (rg : α → Prop) (cc : ByteArray) (own : String) (K : Nat → Lc → List Vl → α → Prop) : Prop := ∀ {pc : Nat} {ls : Lc} {st : List Vl} {μ : α} {a b : Int}, (decode cc pc = .ok (.lcmp, 1)) → (K (pc + 1) ls (vI (lcmp a b) :: st) μ) → K pc ls (vL b :: vL a :: st) μ
def Q_dup {α : Type} (vd : α → Nat × Int → Prop) (rg : α → Prop) (cc : ByteArray) (own : String) (K : Nat → Lc → List Vl → α → Prop) : Prop := ∀ {pc : Nat} {ls : Lc} {st : List Vl} {μ : α} {v : Vl}, (decode cc pc = .ok (.dup, 1)) → (csz v = 1) → (K (pc + 1) ls (v :: v :: st) μ) → K pc ls (v :: st) μ
def Q_dup2 {α : Type} (vd : α → Nat × Int → Prop) (rg : α → Prop) (cc : ByteArray) (own : String) (K : Nat → Lc → List Vl → α → Prop) : Prop := ∀ {pc : Nat} {ls : Lc} {st : List Vl} {μ : α} {v u : Vl}, (decode cc pc = .ok (.dup2, 1)) → (csz v = 1) → (csz u = 1) → (K (pc + 1) ls (v :: u :: v :: u :: st) μ) → K pc ls (v :: u :: st) μ
def Q_pop {α : Type} (vd : α → Nat × Int → Prop) (rg : α → Prop) (cc : ByteArray) (own : String) (K : Nat → Lc → List Vl → α → Prop) : Prop := ∀ {pc : Nat} {ls : Lc} {st : List Vl} {μ : α} {v : Vl}, (decode cc pc = .ok (.pop, 1)) → (csz v = 1) → (K (pc + 1) ls st μ) → K pc ls (v :: st) μ
def Q_goto {α : Type} (vd : α → Nat × Int → Prop) (rg : α → Prop) (cc : ByteArray) (own : String) (K : Nat → Lc → List Vl → α → Prop) : Prop := ∀ {pc : Nat} {ls : Lc} {st : List Vl} {μ : α} {off : Int} {tgt : Nat}, (decode cc pc = .ok (.goto off, 3)) → ((pc : Int) + off = (tgt : Int)) → (K tgt ls st μ) → K pc ls st μ
def Q_null {α : Type} (vd : α → Nat × Int → Prop) (rg : α → Prop) (cc : ByteArray) (own : String) (K : Nat → Lc → List Vl → α → Prop) : Prop := ∀ {pc : Nat} {ls : Lc} {st : List Vl} {μ : α}, (decode cc pc = .ok (.aconst_null, 1)) → (K (pc + 1) ls (vN :: st) μ) → K pc ls st μ
def Q_if_eq {α : Type} (vd : α → Nat × Int → Prop) (rg : α → Prop) (cc : ByteArray) (own : String) (K : Nat → Lc → List Vl → α → Prop) : Prop := ∀ {pc : Nat} {ls : Lc} {st : List Vl} {μ : α} {a : Int} {off : Int} {tgt : Nat}, (decode cc pc = .ok (.ifCond .eq off, 3)) → ((pc : Int) + off = (tgt : Int)) → ((a = 0) → K tgt ls st μ) → ((¬ a = 0) → K (pc + 3) ls st μ) → K pc ls (vI a :: st) μ
def Q_icmp_eq {α : Type} (vd : α → Nat × Int → Prop) (rg : α → Prop) (cc : ByteArray) (own : String) (K : Nat → Lc → List Vl → α → Prop) : Prop := ∀ {pc : Nat} {ls : Lc} {st : List Vl} {μ : α} {a b : Int} {off : Int} {tgt : Nat}, (decode cc pc = .ok (.if_icmp .eq off, 3)) → ((pc : Int) + off = (tgt : Int)) → ((a = b) → K tgt ls st μ) → ((¬ a = b) → K (pc + 3) ls st μ) → K pc ls (vI b :: vI a :: st) μ
def Q_if_ne {α : Type} (vd : α → Nat × Int → Prop) (rg : α → Prop) (cc : ByteArray) (own : String) (K : Nat → Lc → List Vl → α → Prop) : Prop := ∀ {pc : Nat} {ls : Lc} {st : List Vl} {μ : α} {a : Int} {off : Int} {tgt : Nat}, (decode cc pc = .ok (.ifCond .ne off, 3)) → ((pc : Int) + off = (tgt : Int)) → ((¬ a = 0) → K tgt ls st μ) → ((a = 0) → K (pc + 3) ls st μ) → K pc ls (vI a :: st) μ
def Q_icmp_ne {α : Type} (vd : α → Nat × Int → Prop) (rg : α → Prop) (cc : ByteArray) (own : String) (K : Nat → Lc → List Vl → α → Prop) : Prop := ∀ {pc : Nat} {ls : Lc} {st : List Vl} {μ : α} {a b : Int} {off : Int} {tgt : Nat}, (decode cc pc = .ok (.if_icmp .ne off, 3)) → ((pc : Int) + off = (tgt : Int)) → ((¬ a = b) → K tgt ls st μ) → ((a = b) → K (pc + 3) ls st μ) → K pc ls (vI b :: vI a :: st) μ
def Q_if_lt {α : Type} (vd : α → Nat × Int → Prop) (rg : α → Prop) (cc : ByteArray) (own : String) (K : Nat → Lc → List Vl → α → Prop) : Prop := ∀ {pc : Nat} {ls : Lc} {st : List Vl} {μ : α} {a : Int} {off : Int} {tgt : Nat}, (decode cc pc = .ok (.ifCond .lt off, 3)) → ((pc : Int) + off = (tgt : Int)) → ((a < 0) → K tgt ls st μ) → ((0 ≤ a) → K (pc + 3) ls st μ) → K pc ls (vI a :: st) μ
def Q_icmp_lt {α : Type} (vd : α → Nat × Int → Prop) (rg : α → Prop) (cc : ByteArray) (own : String) (K : Nat → Lc → List Vl → α → Prop) : Prop := ∀ {pc : Nat} {ls : Lc} {st : List Vl} {μ : α} {a b : Int} {off : Int} {tgt : Nat}, (decode cc pc = .ok (.if_icmp .lt off, 3)) → ((pc : Int) + off = (tgt : Int)) → ((a < b) → K tgt ls st μ) → ((b ≤ a) → K (pc + 3) ls st μ) → K pc ls (vI b :: vI a :: st) μ
def Q_if_ge {α : Type} (vd : α → Nat × Int → Prop) (rg : α → Prop) (cc : ByteArray) (own : String) (K : Nat → Lc → List Vl → α → Prop) : Prop := ∀ {pc : Nat} {ls : Lc} {st : List Vl} {μ : α} {a : Int} {off : Int} {tgt : Nat}, (decode cc pc = .ok (.ifCond .ge off, 3)) → ((pc : Int) + off = (tgt : Int)) → ((0 ≤ a) → K tgt ls st μ) → ((a < 0) → K (pc + 3) ls st μ) → K pc ls (vI a :: st) μ
def Q_icmp_ge {α : Type} (vd : α → Nat × Int → Prop) (rg : α → Prop) (cc : ByteArray) (own : String) (K : Nat → Lc → List Vl → α → Prop) : Prop := ∀ {pc : Nat} {ls : Lc} {st : List Vl} {μ : α} {a b : Int} {off : Int} {tgt : Nat}, (decode cc pc = .ok (.if_icmp .ge off, 3)) → ((pc : Int) + off = (tgt : Int)) → ((b ≤ a) → K tgt ls st μ) → ((a < b) → K (pc + 3) ls st μ) → K pc ls (vI b :: vI a :: st) μ
def Q_if_gt {α : Type} (vd : α → Nat × Int → Prop) (rg : α → Prop) (cc : ByteArray) (own : String) (K : Nat → Lc → List Vl → α → Prop) : Prop := ∀ {pc : Nat} {ls : Lc} {st : List Vl} {μ : α} {a : Int} {off : Int} {tgt : Nat}, (decode cc pc = .ok (.ifCond .gt off, 3)) → ((pc : Int) + off = (tgt : Int)) → ((0 < a) → K tgt ls st μ) → ((a ≤ 0) → K (pc + 3) ls st μ) → K pc ls (vI a :: st) μ
def Q_icmp_gt {α : Type} (vd : α → Nat × Int → Prop) (rg : α → Prop) (cc : ByteArray) (own : String) (K : Nat → Lc → List Vl → α → Prop) : Prop := ∀ {pc : Nat} {ls : Lc} {st : List Vl} {μ : α} {a b : Int} {off : Int} {tgt : Nat}, (decode cc pc = .ok (.if_icmp .gt off, 3)) → ((pc : Int) + off = (tgt : Int)) → ((b < a) → K tgt ls st μ) → ((a ≤ b) → K (pc + 3) ls st μ) → K pc ls (vI b :: vI a :: st) μ
def Q_if_le {α : Type} (vd : α → Nat × Int → Prop) (rg : α → Prop) (cc : ByteArray) (own : String) (K : Nat → Lc → List Vl → α → Prop) : Prop := ∀ {pc : Nat} {ls : Lc} {st : List Vl} {μ : α} {a : Int} {off : Int} {tgt : Nat}, (decode cc pc = .ok (.ifCond .le off, 3)) → ((pc : Int) + off = (tgt : Int)) → ((a ≤ 0) → K tgt ls st μ) → ((0 < a) → K (pc + 3) ls st μ) → K pc ls (vI a :: st) μ
def Q_icmp_le {α : Type} (vd : α → Nat × Int → Prop) (rg : α → Prop) (cc : ByteArray) (own : String) (K : Nat → Lc → List Vl → α → Prop) : Prop := ∀ {pc : Nat} {ls : Lc} {st : List Vl} {μ : α} {a b : Int} {off : Int} {tgt : Nat}, (decode cc pc = .ok (.if_icmp .le off, 3)) → ((pc : Int) + off = (tgt : Int)) → ((a ≤ b) → K tgt ls st μ) → ((b < a) → K (pc + 3) ls st μ) → K pc ls (vI b :: vI a :: st) μ
def Q_ifnullN {α : Type} (vd : α → Nat × Int → Prop) (rg : α → Prop) (cc : ByteArray) (own : String) (K : Nat → Lc → List Vl → α → Prop) : Prop := ∀ {pc : Nat} {ls : Lc} {st : List Vl} {μ : α} {off : Int} {tgt : Nat}, (decode cc pc = .ok (.ifnull off, 3)) → ((pc : Int) + off = (tgt : Int)) → (K tgt ls st μ) → K pc ls (vN :: st) μ
def Q_ifnullR {α : Type} (vd : α → Nat × Int → Prop) (rg : α → Prop) (cc : ByteArray) (own : String) (K : Nat → Lc → List Vl → α → Prop) : Prop := ∀ {pc : Nat} {ls : Lc} {st : List Vl} {μ : α} {off : Int} {q : Nat × Int}, (decode cc pc = .ok (.ifnull off, 3)) → (K (pc + 3) ls st μ) → K pc ls (Sum.inr (Sum.inl (some q)) :: st) μ
def Q_ifnonnullN {α : Type} (vd : α → Nat × Int → Prop) (rg : α → Prop) (cc : ByteArray) (own : String) (K : Nat → Lc → List Vl → α → Prop) : Prop := ∀ {pc : Nat} {ls : Lc} {st : List Vl} {μ : α} {off : Int}, (decode cc pc = .ok (.ifnonnull off, 3)) → (K (pc + 3) ls st μ) → K pc ls (vN :: st) μ
def Q_ifnonnullR {α : Type} (vd : α → Nat × Int → Prop) (rg : α → Prop) (cc : ByteArray) (own : String) (K : Nat → Lc → List Vl → α → Prop) : Prop := ∀ {pc : Nat} {ls : Lc} {st : List Vl} {μ : α} {off : Int} {tgt : Nat} {q : Nat × Int}, (decode cc pc = .ok (.ifnonnull off, 3)) → ((pc : Int) + off = (tgt : Int)) → (K tgt ls st μ) → K pc ls (Sum.inr (Sum.inl (some q)) :: st) μ
def Q_tableOut {α : Type} (vd : α → Nat × Int → Prop) (rg : α → Prop) (cc : ByteArray) (own : String) (K : Nat → Lc → List Vl → α → Prop) : Prop := ∀ {pc : Nat} {ls : Lc} {st : List Vl} {μ : α} {a dflt lo hi : Int} {offs : Array Int} {len tgt : Nat}, (decode cc pc = .ok (.tableswitch dflt lo hi offs, len)) → (a < lo ∨ hi < a) → ((pc : Int) + dflt = (tgt : Int)) → (K tgt ls st μ) → K pc ls (vI a :: st) μ
def Q_tableIn {α : Type} (vd : α → Nat × Int → Prop) (rg : α → Prop) (cc : ByteArray) (own : String) (K : Nat → Lc → List Vl → α → Prop) : Prop := ∀ {pc : Nat} {ls : Lc} {st : List Vl} {μ : α} {a dflt lo hi off : Int} {offs : Array Int} {len tgt : Nat}, (decode cc pc = .ok (.tableswitch dflt lo hi offs, len)) → (lo ≤ a) → (a ≤ hi) → (offs[(a - lo).toNat]? = some off) → ((pc : Int) + off = (tgt : Int)) → (K tgt ls st μ) → K pc ls (vI a :: st) μ
def Q_forget {α : Type} (vd : α → Nat × Int → Prop) (rg : α → Prop) (cc : ByteArray) (own : String) (K : Nat → Lc → List Vl → α → Prop) : Prop := ∀ {pc : Nat} {ls : Lc} {st : List Vl} {μ : α} {ls2 : Lc}, (lsub ls2 ls) → (K pc ls2 st μ) → K pc ls st μ
def Q_rng {α : Type} (vd : α → Nat × Int → Prop) (rg : α → Prop) (cc : ByteArray) (own : String) (K : Nat → Lc → List Vl → α → Prop) : Prop := ∀ {pc : Nat} {ls : Lc} {st : List Vl} {μ : α}, ((rg μ → (∀ v : Vl, some v ∈ ls → rV (vd μ) v) → K pc ls st μ)) → K pc ls st μ
def StpC {α : Type} (vd : α → Nat × Int → Prop) (rg : α → Prop) (cc : ByteArray) (own : String) (K : Nat → Lc → List Vl → α → Prop) : Prop := Q_iconst vd rg cc own K ∧ Q_bipush vd rg cc own K ∧ Q_sipush vd rg cc own K ∧ Q_ldc vd rg cc own K ∧ Q_ldcw vd rg cc own K ∧ Q_iload_n vd rg cc own K ∧ Q_iload vd rg cc own K ∧ Q_lload_n vd rg cc own K ∧ Q_aload_n vd rg cc own K ∧ Q_aload vd rg cc own K ∧ Q_aloadN_n vd rg cc own K ∧ Q_aloadN vd rg cc own K ∧ Q_istore_n vd rg cc own K ∧ Q_istore vd rg cc own K ∧ Q_astore_n vd rg cc own K ∧ Q_astore vd rg cc own K ∧ Q_astoreN_n vd rg cc own K ∧ Q_astoreN vd rg cc own K ∧ Q_iinc vd rg cc own K ∧ Q_iadd vd rg cc own K ∧ Q_isub vd rg cc own K ∧ Q_imul vd rg cc own K ∧ Q_iand vd rg cc own K ∧ Q_ior vd rg cc own K ∧ Q_ixor vd rg cc own K ∧ Q_ishl vd rg cc own K ∧ Q_ishr vd rg cc own K ∧ Q_iushr vd rg cc own K ∧ Q_idiv vd rg cc own K ∧ Q_irem vd rg cc own K ∧ Q_ineg vd rg cc own K ∧ Q_i2l vd rg cc own K ∧ Q_lconst vd rg cc own K ∧ Q_lsub vd rg cc own K ∧ Q_lcmp vd rg cc own K ∧ Q_dup vd rg cc own K ∧ Q_dup2 vd rg cc own K ∧ Q_pop vd rg cc own K ∧ Q_goto vd rg cc own K ∧ Q_null vd rg cc own K ∧ Q_if_eq vd rg cc own K ∧ Q_icmp_eq vd rg cc own K ∧ Q_if_ne vd rg cc own K ∧ Q_icmp_ne vd rg cc own K ∧ Q_if_lt vd rg cc own K ∧ Q_icmp_lt vd rg cc own K ∧ Q_if_ge vd rg cc own K ∧ Q_icmp_ge vd rg cc own K ∧ Q_if_gt vd rg cc own K ∧ Q_icmp_gt vd rg cc own K ∧ Q_if_le vd rg cc own K ∧ Q_icmp_le vd rg cc own K ∧ Q_ifnullN vd rg cc own K ∧ Q_ifnullR vd rg cc own K ∧ Q_ifnonnullN vd rg cc own K ∧ Q_ifnonnullR vd rg cc own K ∧ Q_tableOut vd rg cc own K ∧ Q_tableIn vd rg cc own K ∧ Q_forget vd rg cc own K ∧ Q_rng vd rg cc own K
section ROWS
variable {α : Type} {vd : α → Nat × Int → Prop} {rg : α → Prop} {cc : ByteArray} {own : String} {K : Nat → Lc → List Vl → α → Prop}
theorem r_iconst (hK : StpC vd rg cc own K) {pc : Nat} {ls : Lc} {st : List Vl} {μ : α} {n : Int} (hd : decode cc pc = .ok (.iconst n, 1)) (hn : (decide (-2147483648 ≤ n) && decide (n < 2147483648)) = true) (k : K (pc + 1) ls (vI n :: st) μ) : K pc ls st μ := hK.1 hd hn k
theorem r_bipush (hK : StpC vd rg cc own K) {pc : Nat} {ls : Lc} {st : List Vl} {μ : α} {n : Int} (hd : decode cc pc = .ok (.bipush n, 2)) (hn : (decide (-128 ≤ n) && decide (n < 128)) = true) (k : K (pc + 2) ls (vI n :: st) μ) : K pc ls st μ := hK.2.1 hd hn k
theorem r_sipush (hK : StpC vd rg cc own K) {pc : Nat} {ls : Lc} {st : List Vl} {μ : α} {n : Int} (hd : decode cc pc = .ok (.sipush n, 3)) (hn : (decide (-32768 ≤ n) && decide (n < 32768)) = true) (k : K (pc + 3) ls (vI n :: st) μ) : K pc ls st μ := hK.2.2.1 hd hn k
theorem r_ldc (hK : StpC vd rg cc own K) {pc : Nat} {ls : Lc} {st : List Vl} {μ : α} {x : Nat} {n : Int} (hd : decode cc pc = .ok (.ldc x, 2)) (hc : Cond.constant own x (i3 n) ∈ gT) (hn : (decide (-2147483648 ≤ n) && decide (n < 2147483648)) = true) (k : K (pc + 2) ls (vI n :: st) μ) : K pc ls st μ := hK.2.2.2.1 hd hc hn k
theorem r_ldcw (hK : StpC vd rg cc own K) {pc : Nat} {ls : Lc} {st : List Vl} {μ : α} {x : Nat} {n : Int} (hd : decode cc pc = .ok (.ldc_w x, 3)) (hc : Cond.constant own x (i3 n) ∈ gT) (hn : (decide (-2147483648 ≤ n) && decide (n < 2147483648)) = true) (k : K (pc + 3) ls (vI n :: st) μ) : K pc ls st μ := hK.2.2.2.2.1 hd hc hn k
theorem r_iload_n (hK : StpC vd rg cc own K) {pc : Nat} {ls : Lc} {st : List Vl} {μ : α} {x : Fin 4} {a : Int} (hd : decode cc pc = .ok (.iload_n x, 1)) (hl : ls[(x : Nat)]? = some (some (vI a))) (k : K (pc + 1) ls (vI a :: st) μ) : K pc ls st μ := hK.2.2.2.2.2.1 hd hl k
theorem r_iload (hK : StpC vd rg cc own K) {pc : Nat} {ls : Lc} {st : List Vl} {μ : α} {x : Nat} {a : Int} (hd : decode cc pc = .ok (.iload x, 2)) (hl : ls[x]? = some (some (vI a))) (k : K (pc + 2) ls (vI a :: st) μ) : K pc ls st μ := hK.2.2.2.2.2.2.1 hd hl k
theorem r_lload_n (hK : StpC vd rg cc own K) {pc : Nat} {ls : Lc} {st : List Vl} {μ : α} {x : Fin 4} {a : Int} (hd : decode cc pc = .ok (.lload_n x, 1)) (hl : ls[(x : Nat)]? = some (some (vL a))) (k : K (pc + 1) ls (vL a :: st) μ) : K pc ls st μ := hK.2.2.2.2.2.2.2.1 hd hl k
theorem r_aload_n (hK : StpC vd rg cc own K) {pc : Nat} {ls : Lc} {st : List Vl} {μ : α} {x : Fin 4} {q : Nat × Int} (hd : decode cc pc = .ok (.aload_n x, 1)) (hl : ls[(x : Nat)]? = some (some (Sum.inr (Sum.inl (some q))))) (k : K (pc + 1) ls (Sum.inr (Sum.inl (some q)) :: st) μ) : K pc ls st μ := hK.2.2.2.2.2.2.2.2.1 hd hl k
theorem r_aload (hK : StpC vd rg cc own K) {pc : Nat} {ls : Lc} {st : List Vl} {μ : α} {x : Nat} {q : Nat × Int} (hd : decode cc pc = .ok (.aload x, 2)) (hl : ls[x]? = some (some (Sum.inr (Sum.inl (some q))))) (k : K (pc + 2) ls (Sum.inr (Sum.inl (some q)) :: st) μ) : K pc ls st μ := hK.2.2.2.2.2.2.2.2.2.1 hd hl k
theorem r_aloadN_n (hK : StpC vd rg cc own K) {pc : Nat} {ls : Lc} {st : List Vl} {μ : α} {x : Fin 4} (hd : decode cc pc = .ok (.aload_n x, 1)) (hl : ls[(x : Nat)]? = some (some (vN))) (k : K (pc + 1) ls (vN :: st) μ) : K pc ls st μ := hK.2.2.2.2.2.2.2.2.2.2.1 hd hl k
theorem r_aloadN (hK : StpC vd rg cc own K) {pc : Nat} {ls : Lc} {st : List Vl} {μ : α} {x : Nat} (hd : decode cc pc = .ok (.aload x, 2)) (hl : ls[x]? = some (some (vN))) (k : K (pc + 2) ls (vN :: st) μ) : K pc ls st μ := hK.2.2.2.2.2.2.2.2.2.2.2.1 hd hl k
theorem r_istore_n (hK : StpC vd rg cc own K) {pc : Nat} {ls : Lc} {st : List Vl} {μ : α} {x : Fin 4} {a : Int} (hd : decode cc pc = .ok (.istore_n x, 1)) (hi : (Nat.blt (x : Nat) ls.length && lfree ls (x : Nat)) = true) (k : K (pc + 1) (ls.set (x : Nat) (some (vI a))) st μ) : K pc ls (vI a :: st) μ := hK.2.2.2.2.2.2.2.2.2.2.2.2.1 hd hi k
theorem r_istore (hK : StpC vd rg cc own K) {pc : Nat} {ls : Lc} {st : List Vl} {μ : α} {x : Nat} {a : Int} (hd : decode cc pc = .ok (.istore x, 2)) (hi : (Nat.blt x ls.length && lfree ls x) = true) (k : K (pc + 2) (ls.set x (some (vI a))) st μ) : K pc ls (vI a :: st) μ := hK.2.2.2.2.2.2.2.2.2.2.2.2.2.1 hd hi k
theorem r_astore_n (hK : StpC vd rg cc own K) {pc : Nat} {ls : Lc} {st : List Vl} {μ : α} {x : Fin 4} {q : Nat × Int} (hd : decode cc pc = .ok (.astore_n x, 1)) (hi : (Nat.blt (x : Nat) ls.length && lfree ls (x : Nat)) = true) (k : K (pc + 1) (ls.set (x : Nat) (some (Sum.inr (Sum.inl (some q))))) st μ) : K pc ls (Sum.inr (Sum.inl (some q)) :: st) μ := hK.2.2.2.2.2.2.2.2.2.2.2.2.2.2.1 hd hi k
theorem r_astore (hK : StpC vd rg cc own K) {pc : Nat} {ls : Lc} {st : List Vl} {μ : α} {x : Nat} {q : Nat × Int} (hd : decode cc pc = .ok (.astore x, 2)) (hi : (Nat.blt x ls.length && lfree ls x) = true) (k : K (pc + 2) (ls.set x (some (Sum.inr (Sum.inl (some q))))) st μ) : K pc ls (Sum.inr (Sum.inl (some q)) :: st) μ := hK.2.2.2.2.2.2.2.2.2.2.2.2.2.2.2.1 hd hi k
theorem r_astoreN_n (hK : StpC vd rg cc own K) {pc : Nat} {ls : Lc} {st : List Vl} {μ : α} {x : Fin 4} (hd : decode cc pc = .ok (.astore_n x, 1)) (hi : (Nat.blt (x : Nat) ls.length && lfree ls (x : Nat)) = true) (k : K (pc + 1) (ls.set (x : Nat) (some (vN))) st μ) : K pc ls (vN :: st) μ := hK.2.2.2.2.2.2.2.2.2.2.2.2.2.2.2.2.1 hd hi k
theorem r_astoreN (hK : StpC vd rg cc own K) {pc : Nat} {ls : Lc} {st : List Vl} {μ : α} {x : Nat} (hd : decode cc pc = .ok (.astore x, 2)) (hi : (Nat.blt x ls.length && lfree ls x) = true) (k : K (pc + 2) (ls.set x (some (vN))) st μ) : K pc ls (vN :: st) μ := hK.2.2.2.2.2.2.2.2.2.2.2.2.2.2.2.2.2.1 hd hi k
theorem r_iinc (hK : StpC vd rg cc own K) {pc : Nat} {ls : Lc} {st : List Vl} {μ : α} {x : Nat} {n a : Int} (hd : decode cc pc = .ok (.iinc x n, 3)) (hl : ls[x]? = some (some (vI a))) (hi : lfree ls x = true) (k : K (pc + 3) (ls.set x (some (vI (wr (a + n))))) st μ) : K pc ls st μ := hK.2.2.2.2.2.2.2.2.2.2.2.2.2.2.2.2.2.2.1 hd hl hi k
theorem r_iadd (hK : StpC vd rg cc own K) {pc : Nat} {ls : Lc} {st : List Vl} {μ : α} {a b : Int} (hd : decode cc pc = .ok (.iadd, 1)) (k : K (pc + 1) ls (vI (wr (a + b)) :: st) μ) : K pc ls (vI b :: vI a :: st) μ := hK.2.2.2.2.2.2.2.2.2.2.2.2.2.2.2.2.2.2.2.1 hd k
theorem r_isub (hK : StpC vd rg cc own K) {pc : Nat} {ls : Lc} {st : List Vl} {μ : α} {a b : Int} (hd : decode cc pc = .ok (.isub, 1)) (k : K (pc + 1) ls (vI (wr (a - b)) :: st) μ) : K pc ls (vI b :: vI a :: st) μ := hK.2.2.2.2.2.2.2.2.2.2.2.2.2.2.2.2.2.2.2.2.1 hd k
theorem r_imul (hK : StpC vd rg cc own K) {pc : Nat} {ls : Lc} {st : List Vl} {μ : α} {a b : Int} (hd : decode cc pc = .ok (.imul, 1)) (k : K (pc + 1) ls (vI (wr (a * b)) :: st) μ) : K pc ls (vI b :: vI a :: st) μ := hK.2.2.2.2.2.2.2.2.2.2.2.2.2.2.2.2.2.2.2.2.2.1 hd k
theorem r_iand (hK : StpC vd rg cc own K) {pc : Nat} {ls : Lc} {st : List Vl} {μ : α} {a b : Int} (hd : decode cc pc = .ok (.iand, 1)) (k : K (pc + 1) ls (vI (iand a b) :: st) μ) : K pc ls (vI b :: vI a :: st) μ := hK.2.2.2.2.2.2.2.2.2.2.2.2.2.2.2.2.2.2.2.2.2.2.1 hd k
theorem r_ior (hK : StpC vd rg cc own K) {pc : Nat} {ls : Lc} {st : List Vl} {μ : α} {a b : Int} (hd : decode cc pc = .ok (.ior, 1)) (k : K (pc + 1) ls (vI (ior a b) :: st) μ) : K pc ls (vI b :: vI a :: st) μ := hK.2.2.2.2.2.2.2.2.2.2.2.2.2.2.2.2.2.2.2.2.2.2.2.1 hd k
theorem r_ixor (hK : StpC vd rg cc own K) {pc : Nat} {ls : Lc} {st : List Vl} {μ : α} {a b : Int} (hd : decode cc pc = .ok (.ixor, 1)) (k : K (pc + 1) ls (vI (ixor a b) :: st) μ) : K pc ls (vI b :: vI a :: st) μ := hK.2.2.2.2.2.2.2.2.2.2.2.2.2.2.2.2.2.2.2.2.2.2.2.2.1 hd k
theorem r_ishl (hK : StpC vd rg cc own K) {pc : Nat} {ls : Lc} {st : List Vl} {μ : α} {a b : Int} (hd : decode cc pc = .ok (.ishl, 1)) (k : K (pc + 1) ls (vI (ishl a b) :: st) μ) : K pc ls (vI b :: vI a :: st) μ := hK.2.2.2.2.2.2.2.2.2.2.2.2.2.2.2.2.2.2.2.2.2.2.2.2.2.1 hd k
theorem r_ishr (hK : StpC vd rg cc own K) {pc : Nat} {ls : Lc} {st : List Vl} {μ : α} {a b : Int} (hd : decode cc pc = .ok (.ishr, 1)) (k : K (pc + 1) ls (vI (ishr a b) :: st) μ) : K pc ls (vI b :: vI a :: st) μ := hK.2.2.2.2.2.2.2.2.2.2.2.2.2.2.2.2.2.2.2.2.2.2.2.2.2.2.1 hd k
theorem r_iushr (hK : StpC vd rg cc own K) {pc : Nat} {ls : Lc} {st : List Vl} {μ : α} {a b : Int} (hd : decode cc pc = .ok (.iushr, 1)) (k : K (pc + 1) ls (vI (iushr a b) :: st) μ) : K pc ls (vI b :: vI a :: st) μ := hK.2.2.2.2.2.2.2.2.2.2.2.2.2.2.2.2.2.2.2.2.2.2.2.2.2.2.2.1 hd k
theorem r_idiv (hK : StpC vd rg cc own K) {pc : Nat} {ls : Lc} {st : List Vl} {μ : α} {a b : Int} (hd : decode cc pc = .ok (.idiv, 1)) (hp : 0 < b) (k : K (pc + 1) ls (vI (a.tdiv b) :: st) μ) : K pc ls (vI b :: vI a :: st) μ := hK.2.2.2.2.2.2.2.2.2.2.2.2.2.2.2.2.2.2.2.2.2.2.2.2.2.2.2.2.1 hd hp k
theorem r_irem (hK : StpC vd rg cc own K) {pc : Nat} {ls : Lc} {st : List Vl} {μ : α} {a b : Int} (hd : decode cc pc = .ok (.irem, 1)) (hp : 0 < b) (k : K (pc + 1) ls (vI (a.tmod b) :: st) μ) : K pc ls (vI b :: vI a :: st) μ := hK.2.2.2.2.2.2.2.2.2.2.2.2.2.2.2.2.2.2.2.2.2.2.2.2.2.2.2.2.2.1 hd hp k
theorem r_ineg (hK : StpC vd rg cc own K) {pc : Nat} {ls : Lc} {st : List Vl} {μ : α} {a : Int} (hd : decode cc pc = .ok (.ineg, 1)) (k : K (pc + 1) ls (vI (wr (-a)) :: st) μ) : K pc ls (vI a :: st) μ := hK.2.2.2.2.2.2.2.2.2.2.2.2.2.2.2.2.2.2.2.2.2.2.2.2.2.2.2.2.2.2.1 hd k
theorem r_i2l (hK : StpC vd rg cc own K) {pc : Nat} {ls : Lc} {st : List Vl} {μ : α} {a : Int} (hd : decode cc pc = .ok (.i2l, 1)) (k : K (pc + 1) ls (vL a :: st) μ) : K pc ls (vI a :: st) μ := hK.2.2.2.2.2.2.2.2.2.2.2.2.2.2.2.2.2.2.2.2.2.2.2.2.2.2.2.2.2.2.2.1 hd k
theorem r_lconst (hK : StpC vd rg cc own K) {pc : Nat} {ls : Lc} {st : List Vl} {μ : α} {n : Fin 2} {a : Int} (hd : decode cc pc = .ok (.lconst n, 1)) (ha : ((n : Nat) : Int) = a) (k : K (pc + 1) ls (vL a :: st) μ) : K pc ls st μ := hK.2.2.2.2.2.2.2.2.2.2.2.2.2.2.2.2.2.2.2.2.2.2.2.2.2.2.2.2.2.2.2.2.1 hd ha k
theorem r_lsub (hK : StpC vd rg cc own K) {pc : Nat} {ls : Lc} {st : List Vl} {μ : α} {a b : Int} (hd : decode cc pc = .ok (.lsub, 1)) (k : K (pc + 1) ls (vL (wl (a - b)) :: st) μ) : K pc ls (vL b :: vL a :: st) μ := hK.2.2.2.2.2.2.2.2.2.2.2.2.2.2.2.2.2.2.2.2.2.2.2.2.2.2.2.2.2.2.2.2.2.1 hd k
theorem r_lcmp (hK : StpC vd rg cc own K) {pc : Nat} {ls : Lc} {st : List Vl} {μ : α} {a b : Int} (hd : decode cc pc = .ok (.lcmp, 1)) (k : K (pc + 1) ls (vI (lcmp a b) :: st) μ) : K pc ls (vL b :: vL a :: st) μ := hK.2.2.2.2.2.2.2.2.2.2.2.2.2.2.2.2.2.2.2.2.2.2.2.2.2.2.2.2.2.2.2.2.2.2.1 hd k
theorem r_dup (hK : StpC vd rg cc own K) {pc : Nat} {ls : Lc} {st : List Vl} {μ : α} {v : Vl} (hd : decode cc pc = .ok (.dup, 1)) (hv : csz v = 1) (k : K (pc + 1) ls (v :: v :: st) μ) : K pc ls (v :: st) μ := hK.2.2.2.2.2.2.2.2.2.2.2.2.2.2.2.2.2.2.2.2.2.2.2.2.2.2.2.2.2.2.2.2.2.2.2.1 hd hv k
theorem r_dup2 (hK : StpC vd rg cc own K) {pc : Nat} {ls : Lc} {st : List Vl} {μ : α} {v u : Vl} (hd : decode cc pc = .ok (.dup2, 1)) (hv : csz v = 1) (hu : csz u = 1) (k : K (pc + 1) ls (v :: u :: v :: u :: st) μ) : K pc ls (v :: u :: st) μ := hK.2.2.2.2.2.2.2.2.2.2.2.2.2.2.2.2.2.2.2.2.2.2.2.2.2.2.2.2.2.2.2.2.2.2.2.2.1 hd hv hu k
theorem r_pop (hK : StpC vd rg cc own K) {pc : Nat} {ls : Lc} {st : List Vl} {μ : α} {v : Vl} (hd : decode cc pc = .ok (.pop, 1)) (hv : csz v = 1) (k : K (pc + 1) ls st μ) : K pc ls (v :: st) μ := hK.2.2.2.2.2.2.2.2.2.2.2.2.2.2.2.2.2.2.2.2.2.2.2.2.2.2.2.2.2.2.2.2.2.2.2.2.2.1 hd hv k
theorem r_goto (hK : StpC vd rg cc own K) {pc : Nat} {ls : Lc} {st : List Vl} {μ : α} {off : Int} {tgt : Nat} (hd : decode cc pc = .ok (.goto off, 3)) (ht : (pc : Int) + off = (tgt : Int)) (k : K tgt ls st μ) : K pc ls st μ := hK.2.2.2.2.2.2.2.2.2.2.2.2.2.2.2.2.2.2.2.2.2.2.2.2.2.2.2.2.2.2.2.2.2.2.2.2.2.2.1 hd ht k
theorem r_null (hK : StpC vd rg cc own K) {pc : Nat} {ls : Lc} {st : List Vl} {μ : α} (hd : decode cc pc = .ok (.aconst_null, 1)) (k : K (pc + 1) ls (vN :: st) μ) : K pc ls st μ := hK.2.2.2.2.2.2.2.2.2.2.2.2.2.2.2.2.2.2.2.2.2.2.2.2.2.2.2.2.2.2.2.2.2.2.2.2.2.2.2.1 hd k
theorem r_if_eq (hK : StpC vd rg cc own K) {pc : Nat} {ls : Lc} {st : List Vl} {μ : α} {a : Int} {off : Int} {tgt : Nat} (hd : decode cc pc = .ok (.ifCond .eq off, 3)) (ht : (pc : Int) + off = (tgt : Int)) (kt : (a = 0) → K tgt ls st μ) (kf : (¬ a = 0) → K (pc + 3) ls st μ) : K pc ls (vI a :: st) μ := hK.2.2.2.2.2.2.2.2.2.2.2.2.2.2.2.2.2.2.2.2.2.2.2.2.2.2.2.2.2.2.2.2.2.2.2.2.2.2.2.2.1 hd ht kt kf
theorem r_icmp_eq (hK : StpC vd rg cc own K) {pc : Nat} {ls : Lc} {st : List Vl} {μ : α} {a b : Int} {off : Int} {tgt : Nat} (hd : decode cc pc = .ok (.if_icmp .eq off, 3)) (ht : (pc : Int) + off = (tgt : Int)) (kt : (a = b) → K tgt ls st μ) (kf : (¬ a = b) → K (pc + 3) ls st μ) : K pc ls (vI b :: vI a :: st) μ := hK.2.2.2.2.2.2.2.2.2.2.2.2.2.2.2.2.2.2.2.2.2.2.2.2.2.2.2.2.2.2.2.2.2.2.2.2.2.2.2.2.2.1 hd ht kt kf
theorem r_if_ne (hK : StpC vd rg cc own K) {pc : Nat} {ls : Lc} {st : List Vl} {μ : α} {a : Int} {off : Int} {tgt : Nat} (hd : decode cc pc = .ok (.ifCond .ne off, 3)) (ht : (pc : Int) + off = (tgt : Int)) (kt : (¬ a = 0) → K tgt ls st μ) (kf : (a = 0) → K (pc + 3) ls st μ) : K pc ls (vI a :: st) μ := hK.2.2.2.2.2.2.2.2.2.2.2.2.2.2.2.2.2.2.2.2.2.2.2.2.2.2.2.2.2.2.2.2.2.2.2.2.2.2.2.2.2.2.1 hd ht kt kf
theorem r_icmp_ne (hK : StpC vd rg cc own K) {pc : Nat} {ls : Lc} {st : List Vl} {μ : α} {a b : Int} {off : Int} {tgt : Nat} (hd : decode cc pc = .ok (.if_icmp .ne off, 3)) (ht : (pc : Int) + off = (tgt : Int)) (kt : (¬ a = b) → K tgt ls st μ) (kf : (a = b) → K (pc + 3) ls st μ) : K pc ls (vI b :: vI a :: st) μ := hK.2.2.2.2.2.2.2.2.2.2.2.2.2.2.2.2.2.2.2.2.2.2.2.2.2.2.2.2.2.2.2.2.2.2.2.2.2.2.2.2.2.2.2.1 hd ht kt kf
theorem r_if_lt (hK : StpC vd rg cc own K) {pc : Nat} {ls : Lc} {st : List Vl} {μ : α} {a : Int} {off : Int} {tgt : Nat} (hd : decode cc pc = .ok (.ifCond .lt off, 3)) (ht : (pc : Int) + off = (tgt : Int)) (kt : (a < 0) → K tgt ls st μ) (kf : (0 ≤ a) → K (pc + 3) ls st μ) : K pc ls (vI a :: st) μ := hK.2.2.2.2.2.2.2.2.2.2.2.2.2.2.2.2.2.2.2.2.2.2.2.2.2.2.2.2.2.2.2.2.2.2.2.2.2.2.2.2.2.2.2.2.1 hd ht kt kf
theorem r_icmp_lt (hK : StpC vd rg cc own K) {pc : Nat} {ls : Lc} {st : List Vl} {μ : α} {a b : Int} {off : Int} {tgt : Nat} (hd : decode cc pc = .ok (.if_icmp .lt off, 3)) (ht : (pc : Int) + off = (tgt : Int)) (kt : (a < b) → K tgt ls st μ) (kf : (b ≤ a) → K (pc + 3) ls st μ) : K pc ls (vI b :: vI a :: st) μ := hK.2.2.2.2.2.2.2.2.2.2.2.2.2.2.2.2.2.2.2.2.2.2.2.2.2.2.2.2.2.2.2.2.2.2.2.2.2.2.2.2.2.2.2.2.2.1 hd ht kt kf
theorem r_if_ge (hK : StpC vd rg cc own K) {pc : Nat} {ls : Lc} {st : List Vl} {μ : α} {a : Int} {off : Int} {tgt : Nat} (hd : decode cc pc = .ok (.ifCond .ge off, 3)) (ht : (pc : Int) + off = (tgt : Int)) (kt : (0 ≤ a) → K tgt ls st μ) (kf : (a < 0) → K (pc + 3) ls st μ) : K pc ls (vI a :: st) μ := hK.2.2.2.2.2.2.2.2.2.2.2.2.2.2.2.2.2.2.2.2.2.2.2.2.2.2.2.2.2.2.2.2.2.2.2.2.2.2.2.2.2.2.2.2.2.2.1 hd ht kt kf
theorem r_icmp_ge (hK : StpC vd rg cc own K) {pc : Nat} {ls : Lc} {st : List Vl} {μ : α} {a b : Int} {off : Int} {tgt : Nat} (hd : decode cc pc = .ok (.if_icmp .ge off, 3)) (ht : (pc : Int) + off = (tgt : Int)) (kt : (b ≤ a) → K tgt ls st μ) (kf : (a < b) → K (pc + 3) ls st μ) : K pc ls (vI b :: vI a :: st) μ := hK.2.2.2.2.2.2.2.2.2.2.2.2.2.2.2.2.2.2.2.2.2.2.2.2.2.2.2.2.2.2.2.2.2.2.2.2.2.2.2.2.2.2.2.2.2.2.2.1 hd ht kt kf
theorem r_if_gt (hK : StpC vd rg cc own K) {pc : Nat} {ls : Lc} {st : List Vl} {μ : α} {a : Int} {off : Int} {tgt : Nat} (hd : decode cc pc = .ok (.ifCond .gt off, 3)) (ht : (pc : Int) + off = (tgt : Int)) (kt : (0 < a) → K tgt ls st μ) (kf : (a ≤ 0) → K (pc + 3) ls st μ) : K pc ls (vI a :: st) μ := hK.2.2.2.2.2.2.2.2.2.2.2.2.2.2.2.2.2.2.2.2.2.2.2.2.2.2.2.2.2.2.2.2.2.2.2.2.2.2.2.2.2.2.2.2.2.2.2.2.1 hd ht kt kf
theorem r_icmp_gt (hK : StpC vd rg cc own K) {pc : Nat} {ls : Lc} {st : List Vl} {μ : α} {a b : Int} {off : Int} {tgt : Nat} (hd : decode cc pc = .ok (.if_icmp .gt off, 3)) (ht : (pc : Int) + off = (tgt : Int)) (kt : (b < a) → K tgt ls st μ) (kf : (a ≤ b) → K (pc + 3) ls st μ) : K pc ls (vI b :: vI a :: st) μ := hK.2.2.2.2.2.2.2.2.2.2.2.2.2.2.2.2.2.2.2.2.2.2.2.2.2.2.2.2.2.2.2.2.2.2.2.2.2.2.2.2.2.2.2.2.2.2.2.2.2.1 hd ht kt kf
theorem r_if_le (hK : StpC vd rg cc own K) {pc : Nat} {ls : Lc} {st : List Vl} {μ : α} {a : Int} {off : Int} {tgt : Nat} (hd : decode cc pc = .ok (.ifCond .le off, 3)) (ht : (pc : Int) + off = (tgt : Int)) (kt : (a ≤ 0) → K tgt ls st μ) (kf : (0 < a) → K (pc + 3) ls st μ) : K pc ls (vI a :: st) μ := hK.2.2.2.2.2.2.2.2.2.2.2.2.2.2.2.2.2.2.2.2.2.2.2.2.2.2.2.2.2.2.2.2.2.2.2.2.2.2.2.2.2.2.2.2.2.2.2.2.2.2.1 hd ht kt kf
theorem r_icmp_le (hK : StpC vd rg cc own K) {pc : Nat} {ls : Lc} {st : List Vl} {μ : α} {a b : Int} {off : Int} {tgt : Nat} (hd : decode cc pc = .ok (.if_icmp .le off, 3)) (ht : (pc : Int) + off = (tgt : Int)) (kt : (a ≤ b) → K tgt ls st μ) (kf : (b < a) → K (pc + 3) ls st μ) : K pc ls (vI b :: vI a :: st) μ := hK.2.2.2.2.2.2.2.2.2.2.2.2.2.2.2.2.2.2.2.2.2.2.2.2.2.2.2.2.2.2.2.2.2.2.2.2.2.2.2.2.2.2.2.2.2.2.2.2.2.2.2.1 hd ht kt kf
theorem r_ifnullN (hK : StpC vd rg cc own K) {pc : Nat} {ls : Lc} {st : List Vl} {μ : α} {off : Int} {tgt : Nat} (hd : decode cc pc = .ok (.ifnull off, 3)) (ht : (pc : Int) + off = (tgt : Int)) (k : K tgt ls st μ) : K pc ls (vN :: st) μ := hK.2.2.2.2.2.2.2.2.2.2.2.2.2.2.2.2.2.2.2.2.2.2.2.2.2.2.2.2.2.2.2.2.2.2.2.2.2.2.2.2.2.2.2.2.2.2.2.2.2.2.2.2.1 hd ht k
theorem r_ifnullR (hK : StpC vd rg cc own K) {pc : Nat} {ls : Lc} {st : List Vl} {μ : α} {off : Int} {q : Nat × Int} (hd : decode cc pc = .ok (.ifnull off, 3)) (k : K (pc + 3) ls st μ) : K pc ls (Sum.inr (Sum.inl (some q)) :: st) μ := hK.2.2.2.2.2.2.2.2.2.2.2.2.2.2.2.2.2.2.2.2.2.2.2.2.2.2.2.2.2.2.2.2.2.2.2.2.2.2.2.2.2.2.2.2.2.2.2.2.2.2.2.2.2.1 hd k
theorem r_ifnonnullN (hK : StpC vd rg cc own K) {pc : Nat} {ls : Lc} {st : List Vl} {μ : α} {off : Int} (hd : decode cc pc = .ok (.ifnonnull off, 3)) (k : K (pc + 3) ls st μ) : K pc ls (vN :: st) μ := hK.2.2.2.2.2.2.2.2.2.2.2.2.2.2.2.2.2.2.2.2.2.2.2.2.2.2.2.2.2.2.2.2.2.2.2.2.2.2.2.2.2.2.2.2.2.2.2.2.2.2.2.2.2.2.1 hd k
theorem r_ifnonnullR (hK : StpC vd rg cc own K) {pc : Nat} {ls : Lc} {st : List Vl} {μ : α} {off : Int} {tgt : Nat} {q : Nat × Int} (hd : decode cc pc = .ok (.ifnonnull off, 3)) (ht : (pc : Int) + off = (tgt : Int)) (k : K tgt ls st μ) : K pc ls (Sum.inr (Sum.inl (some q)) :: st) μ := hK.2.2.2.2.2.2.2.2.2.2.2.2.2.2.2.2.2.2.2.2.2.2.2.2.2.2.2.2.2.2.2.2.2.2.2.2.2.2.2.2.2.2.2.2.2.2.2.2.2.2.2.2.2.2.2.1 hd ht k
theorem r_tableOut (hK : StpC vd rg cc own K) {pc : Nat} {ls : Lc} {st : List Vl} {μ : α} {a dflt lo hi : Int} {offs : Array Int} {len tgt : Nat} (hd : decode cc pc = .ok (.tableswitch dflt lo hi offs, len)) (h : a < lo ∨ hi < a) (ht : (pc : Int) + dflt = (tgt : Int)) (k : K tgt ls st μ) : K pc ls (vI a :: st) μ := hK.2.2.2.2.2.2.2.2.2.2.2.2.2.2.2.2.2.2.2.2.2.2.2.2.2.2.2.2.2.2.2.2.2.2.2.2.2.2.2.2.2.2.2.2.2.2.2.2.2.2.2.2.2.2.2.2.1 hd h ht k
theorem r_tableIn (hK : StpC vd rg cc own K) {pc : Nat} {ls : Lc} {st : List Vl} {μ : α} {a dflt lo hi off : Int} {offs : Array Int} {len tgt : Nat} (hd : decode cc pc = .ok (.tableswitch dflt lo hi offs, len)) (h1 : lo ≤ a) (h2 : a ≤ hi) (ho : offs[(a - lo).toNat]? = some off) (ht : (pc : Int) + off = (tgt : Int)) (k : K tgt ls st μ) : K pc ls (vI a :: st) μ := hK.2.2.2.2.2.2.2.2.2.2.2.2.2.2.2.2.2.2.2.2.2.2.2.2.2.2.2.2.2.2.2.2.2.2.2.2.2.2.2.2.2.2.2.2.2.2.2.2.2.2.2.2.2.2.2.2.2.1 hd h1 h2 ho ht k
theorem r_forget (hK : StpC vd rg cc own K) {pc : Nat} {ls : Lc} {st : List Vl} {μ : α} {ls2 : Lc} (hs : lsub ls2 ls) (k : K pc ls2 st μ) : K pc ls st μ := hK.2.2.2.2.2.2.2.2.2.2.2.2.2.2.2.2.2.2.2.2.2.2.2.2.2.2.2.2.2.2.2.2.2.2.2.2.2.2.2.2.2.2.2.2.2.2.2.2.2.2.2.2.2.2.2.2.2.2.1 hs k
theorem r_rng (hK : StpC vd rg cc own K) {pc : Nat} {ls : Lc} {st : List Vl} {μ : α} (k : (rg μ → (∀ v : Vl, some v ∈ ls → rV (vd μ) v) → K pc ls st μ)) : K pc ls st μ := hK.2.2.2.2.2.2.2.2.2.2.2.2.2.2.2.2.2.2.2.2.2.2.2.2.2.2.2.2.2.2.2.2.2.2.2.2.2.2.2.2.2.2.2.2.2.2.2.2.2.2.2.2.2.2.2.2.2.2.2 k
end ROWS
section GMR
variable {α : Type} {ad : Nat → Int → Nat} {vd : α → Nat × Int → Prop} {Wd : α → Heap → Prop} {cf sf : α → Nat} {rg : α → Prop}
variable {p : Program} {l : Launch} {e : Env} {R : Room} {s : State} {m : MethodId} {args : Array Value} {below : List Frame} {meth : Method} {c : Code} {A : Nat → Prop} {Q : State → Prop} {nL : Nat} {cc : ByteArray} {own : String}
theorem g_iconst (CX : Cx p s m args meth c cc own nL) : Q_iconst vd rg cc own (Gm ad vd Wd cf sf rg p l e R s m args below meth c A Q nL) := by
  obtain ⟨hx, hb, hml, hown, hts, hnest, hlk⟩ := CX
  intro pc ls st μ n hd hn k
  intro g1 g2 g3 H locs lsA g4 g5 g6
  have k' := k g1 g2 (rS_cons.mpr ⟨inR_lit hn, g3⟩) H locs lsA g4 g5 g6
  simp only [List.map_cons, mv] at k'
  exact lv_iconst hx hb hd rfl k'
theorem g_bipush (CX : Cx p s m args meth c cc own nL) : Q_bipush vd rg cc own (Gm ad vd Wd cf sf rg p l e R s m args below meth c A Q nL) := by
  obtain ⟨hx, hb, hml, hown, hts, hnest, hlk⟩ := CX
  intro pc ls st μ n hd hn k
  intro g1 g2 g3 H locs lsA g4 g5 g6
  simp only [Bool.and_eq_true, decide_eq_true_eq] at hn
  have k' := k g1 g2 (rS_cons.mpr ⟨⟨by omega, by omega⟩, g3⟩) H locs lsA g4 g5 g6
  simp only [List.map_cons, mv] at k'
  exact lv_bipush hx hb hd (Int8.toInt32_ofInt (by have := hn.1; exact this) (by have := hn.2; exact Int.le_of_lt_add_one this)) k'
theorem g_sipush (CX : Cx p s m args meth c cc own nL) : Q_sipush vd rg cc own (Gm ad vd Wd cf sf rg p l e R s m args below meth c A Q nL) := by
  obtain ⟨hx, hb, hml, hown, hts, hnest, hlk⟩ := CX
  intro pc ls st μ n hd hn k
  intro g1 g2 g3 H locs lsA g4 g5 g6
  simp only [Bool.and_eq_true, decide_eq_true_eq] at hn
  have k' := k g1 g2 (rS_cons.mpr ⟨⟨by omega, by omega⟩, g3⟩) H locs lsA g4 g5 g6
  simp only [List.map_cons, mv] at k'
  exact lv_sipush hx hb hd (Int16.toInt32_ofInt (by have := hn.1; exact this) (by have := hn.2; exact Int.le_of_lt_add_one this)) k'
theorem g_ldc (CX : Cx p s m args meth c cc own nL) : Q_ldc vd rg cc own (Gm ad vd Wd cf sf rg p l e R s m args below meth c A Q nL) := by
  obtain ⟨hx, hb, hml, hown, hts, hnest, hlk⟩ := CX
  intro pc ls st μ x n hd hc hn k
  intro g1 g2 g3 H locs lsA g4 g5 g6
  have k' := k g1 g2 (rS_cons.mpr ⟨inR_lit hn, g3⟩) H locs lsA g4 g5 g6
  simp only [List.map_cons, mv] at k'
  exact lv_ldc hx hb hown (hts _ hc) hd k'
theorem g_ldcw (CX : Cx p s m args meth c cc own nL) : Q_ldcw vd rg cc own (Gm ad vd Wd cf sf rg p l e R s m args below meth c A Q nL) := by
  obtain ⟨hx, hb, hml, hown, hts, hnest, hlk⟩ := CX
  intro pc ls st μ x n hd hc hn k
  intro g1 g2 g3 H locs lsA g4 g5 g6
  have k' := k g1 g2 (rS_cons.mpr ⟨inR_lit hn, g3⟩) H locs lsA g4 g5 g6
  simp only [List.map_cons, mv] at k'
  exact lv_ldcw hx hb hown (hts _ hc) hd k'
theorem g_iload_n (CX : Cx p s m args meth c cc own nL) : Q_iload_n vd rg cc own (Gm ad vd Wd cf sf rg p l e R s m args below meth c A Q nL) := by
  obtain ⟨hx, hb, hml, hown, hts, hnest, hlk⟩ := CX
  intro pc ls st μ x a hd hl k
  intro g1 g2 g3 H locs lsA g4 g5 g6
  have hv := g2 _ (List.mem_of_getElem? hl)
  have hl' := g6.at hl
  have k' := k g1 g2 (rS_cons.mpr ⟨hv, g3⟩) H locs lsA g4 g5 g6
  simp only [List.map_cons, mv] at k' hl'
  exact lv_iload_n hx hb hd rfl hl' k'
theorem g_iload (CX : Cx p s m args meth c cc own nL) : Q_iload vd rg cc own (Gm ad vd Wd cf sf rg p l e R s m args below meth c A Q nL) := by
  obtain ⟨hx, hb, hml, hown, hts, hnest, hlk⟩ := CX
  intro pc ls st μ x a hd hl k
  intro g1 g2 g3 H locs lsA g4 g5 g6
  have hv := g2 _ (List.mem_of_getElem? hl)
  have hl' := g6.at hl
  have k' := k g1 g2 (rS_cons.mpr ⟨hv, g3⟩) H locs lsA g4 g5 g6
  simp only [List.map_cons, mv] at k' hl'
  exact lv_iload hx hb hd hl' k'
theorem g_lload_n (CX : Cx p s m args meth c cc own nL) : Q_lload_n vd rg cc own (Gm ad vd Wd cf sf rg p l e R s m args below meth c A Q nL) := by
  obtain ⟨hx, hb, hml, hown, hts, hnest, hlk⟩ := CX
  intro pc ls st μ x a hd hl k
  intro g1 g2 g3 H locs lsA g4 g5 g6
  have hv := g2 _ (List.mem_of_getElem? hl)
  have hl' := g6.at hl
  have k' := k g1 g2 (rS_cons.mpr ⟨hv, g3⟩) H locs lsA g4 g5 g6
  simp only [List.map_cons, mv] at k' hl'
  exact lv_lload_n hx hb hd rfl hl' k'
theorem g_aload_n (CX : Cx p s m args meth c cc own nL) : Q_aload_n vd rg cc own (Gm ad vd Wd cf sf rg p l e R s m args below meth c A Q nL) := by
  obtain ⟨hx, hb, hml, hown, hts, hnest, hlk⟩ := CX
  intro pc ls st μ x q hd hl k
  intro g1 g2 g3 H locs lsA g4 g5 g6
  have hv := g2 _ (List.mem_of_getElem? hl)
  have hl' := g6.at hl
  have k' := k g1 g2 (rS_cons.mpr ⟨hv, g3⟩) H locs lsA g4 g5 g6
  simp only [List.map_cons, mv] at k' hl'
  exact lv_aload_n hx hb hd rfl hl' k'
theorem g_aload (CX : Cx p s m args meth c cc own nL) : Q_aload vd rg cc own (Gm ad vd Wd cf sf rg p l e R s m args below meth c A Q nL) := by
  obtain ⟨hx, hb, hml, hown, hts, hnest, hlk⟩ := CX
  intro pc ls st μ x q hd hl k
  intro g1 g2 g3 H locs lsA g4 g5 g6
  have hv := g2 _ (List.mem_of_getElem? hl)
  have hl' := g6.at hl
  have k' := k g1 g2 (rS_cons.mpr ⟨hv, g3⟩) H locs lsA g4 g5 g6
  simp only [List.map_cons, mv] at k' hl'
  exact lv_aload hx hb hd hl' k'
theorem g_aloadN_n (CX : Cx p s m args meth c cc own nL) : Q_aloadN_n vd rg cc own (Gm ad vd Wd cf sf rg p l e R s m args below meth c A Q nL) := by
  obtain ⟨hx, hb, hml, hown, hts, hnest, hlk⟩ := CX
  intro pc ls st μ x hd hl k
  intro g1 g2 g3 H locs lsA g4 g5 g6
  have hv := g2 _ (List.mem_of_getElem? hl)
  have hl' := g6.at hl
  have k' := k g1 g2 (rS_cons.mpr ⟨hv, g3⟩) H locs lsA g4 g5 g6
  simp only [List.map_cons, mv] at k' hl'
  exact gm_aloadN_n hx hb hd rfl hl' k'
theorem g_aloadN (CX : Cx p s m args meth c cc own nL) : Q_aloadN vd rg cc own (Gm ad vd Wd cf sf rg p l e R s m args below meth c A Q nL) := by
  obtain ⟨hx, hb, hml, hown, hts, hnest, hlk⟩ := CX
  intro pc ls st μ x hd hl k
  intro g1 g2 g3 H locs lsA g4 g5 g6
  have hv := g2 _ (List.mem_of_getElem? hl)
  have hl' := g6.at hl
  have k' := k g1 g2 (rS_cons.mpr ⟨hv, g3⟩) H locs lsA g4 g5 g6
  simp only [List.map_cons, mv] at k' hl'
  exact lv_aloadN hx hb hd hl' k'
theorem g_istore_n (CX : Cx p s m args meth c cc own nL) : Q_istore_n vd rg cc own (Gm ad vd Wd cf sf rg p l e R s m args below meth c A Q nL) := by
  obtain ⟨hx, hb, hml, hown, hts, hnest, hlk⟩ := CX
  intro pc ls st μ x a hd hi k
  intro g1 g2 g3 H locs lsA g4 g5 g6
  obtain ⟨q1, g3⟩ := rS_cons.mp g3
  simp only [Bool.and_eq_true] at hi
  have hlt : ((x : Nat) : Nat) < nL := by rw [← g6.1]; exact Nat.blt_eq.mp hi.1
  have hv := mv_cat ad (vI a)
  refine lv_istore_n hx hb hd rfl g6.2 hlt rfl (fun lsB h => ?_)
  exact k g1 (fun v hv => by
    rcases List.mem_or_eq_of_mem_set hv with h | h
    · exact g2 v h
    · cases h; exact q1) g3 H locs lsB g4 g5 (g6.set (v := vI a) hi.2 h)
theorem g_istore (CX : Cx p s m args meth c cc own nL) : Q_istore vd rg cc own (Gm ad vd Wd cf sf rg p l e R s m args below meth c A Q nL) := by
  obtain ⟨hx, hb, hml, hown, hts, hnest, hlk⟩ := CX
  intro pc ls st μ x a hd hi k
  intro g1 g2 g3 H locs lsA g4 g5 g6
  obtain ⟨q1, g3⟩ := rS_cons.mp g3
  simp only [Bool.and_eq_true] at hi
  have hlt : (x : Nat) < nL := by rw [← g6.1]; exact Nat.blt_eq.mp hi.1
  have hv := mv_cat ad (vI a)
  refine lv_istore hx hb hd g6.2 hlt rfl (fun lsB h => ?_)
  exact k g1 (fun v hv => by
    rcases List.mem_or_eq_of_mem_set hv with h | h
    · exact g2 v h
    · cases h; exact q1) g3 H locs lsB g4 g5 (g6.set (v := vI a) hi.2 h)
theorem g_astore_n (CX : Cx p s m args meth c cc own nL) : Q_astore_n vd rg cc own (Gm ad vd Wd cf sf rg p l e R s m args below meth c A Q nL) := by
  obtain ⟨hx, hb, hml, hown, hts, hnest, hlk⟩ := CX
  intro pc ls st μ x q hd hi k
  intro g1 g2 g3 H locs lsA g4 g5 g6
  obtain ⟨q1, g3⟩ := rS_cons.mp g3
  simp only [Bool.and_eq_true] at hi
  have hlt : ((x : Nat) : Nat) < nL := by rw [← g6.1]; exact Nat.blt_eq.mp hi.1
  have hv := mv_cat ad (Sum.inr (Sum.inl (some q)))
  refine lv_astore_n hx hb hd rfl g6.2 hlt rfl (fun lsB h => ?_)
  exact k g1 (fun v hv => by
    rcases List.mem_or_eq_of_mem_set hv with h | h
    · exact g2 v h
    · cases h; exact q1) g3 H locs lsB g4 g5 (g6.set (v := Sum.inr (Sum.inl (some q))) hi.2 h)
theorem g_astore (CX : Cx p s m args meth c cc own nL) : Q_astore vd rg cc own (Gm ad vd Wd cf sf rg p l e R s m args below meth c A Q nL) := by
  obtain ⟨hx, hb, hml, hown, hts, hnest, hlk⟩ := CX
  intro pc ls st μ x q hd hi k
  intro g1 g2 g3 H locs lsA g4 g5 g6
  obtain ⟨q1, g3⟩ := rS_cons.mp g3
  simp only [Bool.and_eq_true] at hi
  have hlt : (x : Nat) < nL := by rw [← g6.1]; exact Nat.blt_eq.mp hi.1
  have hv := mv_cat ad (Sum.inr (Sum.inl (some q)))
  refine lv_astore hx hb hd g6.2 hlt rfl (fun lsB h => ?_)
  exact k g1 (fun v hv => by
    rcases List.mem_or_eq_of_mem_set hv with h | h
    · exact g2 v h
    · cases h; exact q1) g3 H locs lsB g4 g5 (g6.set (v := Sum.inr (Sum.inl (some q))) hi.2 h)
theorem g_astoreN_n (CX : Cx p s m args meth c cc own nL) : Q_astoreN_n vd rg cc own (Gm ad vd Wd cf sf rg p l e R s m args below meth c A Q nL) := by
  obtain ⟨hx, hb, hml, hown, hts, hnest, hlk⟩ := CX
  intro pc ls st μ x hd hi k
  intro g1 g2 g3 H locs lsA g4 g5 g6
  obtain ⟨q1, g3⟩ := rS_cons.mp g3
  simp only [Bool.and_eq_true] at hi
  have hlt : ((x : Nat) : Nat) < nL := by rw [← g6.1]; exact Nat.blt_eq.mp hi.1
  have hv := mv_cat ad (vN)
  refine gm_astoreN_n hx hb hd rfl g6.2 hlt rfl (fun lsB h => ?_)
  exact k g1 (fun v hv => by
    rcases List.mem_or_eq_of_mem_set hv with h | h
    · exact g2 v h
    · cases h; exact q1) g3 H locs lsB g4 g5 (g6.set (v := vN) hi.2 h)
theorem g_astoreN (CX : Cx p s m args meth c cc own nL) : Q_astoreN vd rg cc own (Gm ad vd Wd cf sf rg p l e R s m args below meth c A Q nL) := by
  obtain ⟨hx, hb, hml, hown, hts, hnest, hlk⟩ := CX
  intro pc ls st μ x hd hi k
  intro g1 g2 g3 H locs lsA g4 g5 g6
  obtain ⟨q1, g3⟩ := rS_cons.mp g3
  simp only [Bool.and_eq_true] at hi
  have hlt : (x : Nat) < nL := by rw [← g6.1]; exact Nat.blt_eq.mp hi.1
  have hv := mv_cat ad (vN)
  refine lv_astoreN hx hb hd g6.2 hlt rfl (fun lsB h => ?_)
  exact k g1 (fun v hv => by
    rcases List.mem_or_eq_of_mem_set hv with h | h
    · exact g2 v h
    · cases h; exact q1) g3 H locs lsB g4 g5 (g6.set (v := vN) hi.2 h)
theorem g_iinc (CX : Cx p s m args meth c cc own nL) : Q_iinc vd rg cc own (Gm ad vd Wd cf sf rg p l e R s m args below meth c A Q nL) := by
  obtain ⟨hx, hb, hml, hown, hts, hnest, hlk⟩ := CX
  intro pc ls st μ x n a hd hl hi k
  intro g1 g2 g3 H locs lsA g4 g5 g6
  have hlt : x < nL := by rw [← g6.1]; exact (List.getElem?_eq_some_iff.mp hl).1
  obtain ⟨j, hj⟩ := List.getElem?_of_mem (lpairs_mem (ad := ad).mpr ⟨x, vI a, hl, rfl⟩)
  rw [Nat.zero_add] at hj
  refine lv_iinc hx hb hd g6.2 hj (v := i3 (wr (a + n))) (by rw [i3_wr, i3_add]; rfl) hlt rfl (fun lsB h => ?_)
  exact k g1 (fun v hv => by
    rcases List.mem_or_eq_of_mem_set hv with h | h
    · exact g2 v h
    · cases h; exact inR_wr _) g3 H locs lsB g4 g5 (g6.set (v := vI (wr (a + n))) hi h)
theorem g_iadd (CX : Cx p s m args meth c cc own nL) : Q_iadd vd rg cc own (Gm ad vd Wd cf sf rg p l e R s m args below meth c A Q nL) := by
  obtain ⟨hx, hb, hml, hown, hts, hnest, hlk⟩ := CX
  intro pc ls st μ a b hd k
  intro g1 g2 g3 H locs lsA g4 g5 g6
  obtain ⟨q1, g3⟩ := rS_cons.mp g3
  obtain ⟨q2, g3⟩ := rS_cons.mp g3
  have k' := k g1 g2 (rS_cons.mpr ⟨inR_of _, g3⟩) H locs lsA g4 g5 g6
  simp only [List.map_cons, mv, i3_wr, i3_add] at k'
  exact lv_iadd hx hb hd k'
theorem g_isub (CX : Cx p s m args meth c cc own nL) : Q_isub vd rg cc own (Gm ad vd Wd cf sf rg p l e R s m args below meth c A Q nL) := by
  obtain ⟨hx, hb, hml, hown, hts, hnest, hlk⟩ := CX
  intro pc ls st μ a b hd k
  intro g1 g2 g3 H locs lsA g4 g5 g6
  obtain ⟨q1, g3⟩ := rS_cons.mp g3
  obtain ⟨q2, g3⟩ := rS_cons.mp g3
  have k' := k g1 g2 (rS_cons.mpr ⟨inR_of _, g3⟩) H locs lsA g4 g5 g6
  simp only [List.map_cons, mv, i3_wr, i3_sub] at k'
  exact lv_isub hx hb hd k'
theorem g_imul (CX : Cx p s m args meth c cc own nL) : Q_imul vd rg cc own (Gm ad vd Wd cf sf rg p l e R s m args below meth c A Q nL) := by
  obtain ⟨hx, hb, hml, hown, hts, hnest, hlk⟩ := CX
  intro pc ls st μ a b hd k
  intro g1 g2 g3 H locs lsA g4 g5 g6
  obtain ⟨q1, g3⟩ := rS_cons.mp g3
  obtain ⟨q2, g3⟩ := rS_cons.mp g3
  have k' := k g1 g2 (rS_cons.mpr ⟨inR_of _, g3⟩) H locs lsA g4 g5 g6
  simp only [List.map_cons, mv, i3_wr, i3_mul] at k'
  exact lv_imul hx hb hd k'
theorem g_iand (CX : Cx p s m args meth c cc own nL) : Q_iand vd rg cc own (Gm ad vd Wd cf sf rg p l e R s m args below meth c A Q nL) := by
  obtain ⟨hx, hb, hml, hown, hts, hnest, hlk⟩ := CX
  intro pc ls st μ a b hd k
  intro g1 g2 g3 H locs lsA g4 g5 g6
  obtain ⟨q1, g3⟩ := rS_cons.mp g3
  obtain ⟨q2, g3⟩ := rS_cons.mp g3
  have k' := k g1 g2 (rS_cons.mpr ⟨inR_of _, g3⟩) H locs lsA g4 g5 g6
  simp only [List.map_cons, mv, iand, i3_of] at k'
  exact lv_iand hx hb hd k'
theorem g_ior (CX : Cx p s m args meth c cc own nL) : Q_ior vd rg cc own (Gm ad vd Wd cf sf rg p l e R s m args below meth c A Q nL) := by
  obtain ⟨hx, hb, hml, hown, hts, hnest, hlk⟩ := CX
  intro pc ls st μ a b hd k
  intro g1 g2 g3 H locs lsA g4 g5 g6
  obtain ⟨q1, g3⟩ := rS_cons.mp g3
  obtain ⟨q2, g3⟩ := rS_cons.mp g3
  have k' := k g1 g2 (rS_cons.mpr ⟨inR_of _, g3⟩) H locs lsA g4 g5 g6
  simp only [List.map_cons, mv, ior, i3_of] at k'
  exact lv_ior hx hb hd k'
theorem g_ixor (CX : Cx p s m args meth c cc own nL) : Q_ixor vd rg cc own (Gm ad vd Wd cf sf rg p l e R s m args below meth c A Q nL) := by
  obtain ⟨hx, hb, hml, hown, hts, hnest, hlk⟩ := CX
  intro pc ls st μ a b hd k
  intro g1 g2 g3 H locs lsA g4 g5 g6
  obtain ⟨q1, g3⟩ := rS_cons.mp g3
  obtain ⟨q2, g3⟩ := rS_cons.mp g3
  have k' := k g1 g2 (rS_cons.mpr ⟨inR_of _, g3⟩) H locs lsA g4 g5 g6
  simp only [List.map_cons, mv, ixor, i3_of] at k'
  exact lv_ixor hx hb hd k'
theorem g_ishl (CX : Cx p s m args meth c cc own nL) : Q_ishl vd rg cc own (Gm ad vd Wd cf sf rg p l e R s m args below meth c A Q nL) := by
  obtain ⟨hx, hb, hml, hown, hts, hnest, hlk⟩ := CX
  intro pc ls st μ a b hd k
  intro g1 g2 g3 H locs lsA g4 g5 g6
  obtain ⟨q1, g3⟩ := rS_cons.mp g3
  obtain ⟨q2, g3⟩ := rS_cons.mp g3
  have k' := k g1 g2 (rS_cons.mpr ⟨inR_of _, g3⟩) H locs lsA g4 g5 g6
  simp only [List.map_cons, mv, ishl, i3_of] at k'
  exact lv_ishl hx hb hd k'
theorem g_ishr (CX : Cx p s m args meth c cc own nL) : Q_ishr vd rg cc own (Gm ad vd Wd cf sf rg p l e R s m args below meth c A Q nL) := by
  obtain ⟨hx, hb, hml, hown, hts, hnest, hlk⟩ := CX
  intro pc ls st μ a b hd k
  intro g1 g2 g3 H locs lsA g4 g5 g6
  obtain ⟨q1, g3⟩ := rS_cons.mp g3
  obtain ⟨q2, g3⟩ := rS_cons.mp g3
  have k' := k g1 g2 (rS_cons.mpr ⟨inR_of _, g3⟩) H locs lsA g4 g5 g6
  simp only [List.map_cons, mv, ishr, i3_of] at k'
  exact lv_ishr hx hb hd k'
theorem g_iushr (CX : Cx p s m args meth c cc own nL) : Q_iushr vd rg cc own (Gm ad vd Wd cf sf rg p l e R s m args below meth c A Q nL) := by
  obtain ⟨hx, hb, hml, hown, hts, hnest, hlk⟩ := CX
  intro pc ls st μ a b hd k
  intro g1 g2 g3 H locs lsA g4 g5 g6
  obtain ⟨q1, g3⟩ := rS_cons.mp g3
  obtain ⟨q2, g3⟩ := rS_cons.mp g3
  have k' := k g1 g2 (rS_cons.mpr ⟨inR_of _, g3⟩) H locs lsA g4 g5 g6
  simp only [List.map_cons, mv, iushr, i3_of] at k'
  exact lv_iushr hx hb hd rfl k'
theorem g_idiv (CX : Cx p s m args meth c cc own nL) : Q_idiv vd rg cc own (Gm ad vd Wd cf sf rg p l e R s m args below meth c A Q nL) := by
  obtain ⟨hx, hb, hml, hown, hts, hnest, hlk⟩ := CX
  intro pc ls st μ a b hd hp k
  intro g1 g2 g3 H locs lsA g4 g5 g6
  obtain ⟨q1, g3⟩ := rS_cons.mp g3
  obtain ⟨q2, g3⟩ := rS_cons.mp g3
  have k' := k g1 g2 (rS_cons.mpr ⟨tdiv_inR q2 hp, g3⟩) H locs lsA g4 g5 g6
  simp only [List.map_cons, mv] at k'
  exact lv_idiv hx hb hd (fun h => by have h1 := (i3_inj (b := 0) q1 (inR_lit rfl)).mp h; omega) (by rw [i3_div q2 q1] at k'; exact k')
theorem g_irem (CX : Cx p s m args meth c cc own nL) : Q_irem vd rg cc own (Gm ad vd Wd cf sf rg p l e R s m args below meth c A Q nL) := by
  obtain ⟨hx, hb, hml, hown, hts, hnest, hlk⟩ := CX
  intro pc ls st μ a b hd hp k
  intro g1 g2 g3 H locs lsA g4 g5 g6
  obtain ⟨q1, g3⟩ := rS_cons.mp g3
  obtain ⟨q2, g3⟩ := rS_cons.mp g3
  have k' := k g1 g2 (rS_cons.mpr ⟨tmod_inR q2 hp q1, g3⟩) H locs lsA g4 g5 g6
  simp only [List.map_cons, mv] at k'
  exact lv_irem hx hb hd (fun h => by have h1 := (i3_inj (b := 0) q1 (inR_lit rfl)).mp h; omega) (by rw [← tmod_eq, i3_sub, i3_mul, i3_div q2 q1] at k'; exact k')
theorem g_ineg (CX : Cx p s m args meth c cc own nL) : Q_ineg vd rg cc own (Gm ad vd Wd cf sf rg p l e R s m args below meth c A Q nL) := by
  obtain ⟨hx, hb, hml, hown, hts, hnest, hlk⟩ := CX
  intro pc ls st μ a hd k
  intro g1 g2 g3 H locs lsA g4 g5 g6
  obtain ⟨q1, g3⟩ := rS_cons.mp g3
  have k' := k g1 g2 (rS_cons.mpr ⟨inR_wr _, g3⟩) H locs lsA g4 g5 g6
  simp only [List.map_cons, mv, i3_wr, i3_neg] at k'
  exact lv_ineg hx hb hd k'
theorem g_i2l (CX : Cx p s m args meth c cc own nL) : Q_i2l vd rg cc own (Gm ad vd Wd cf sf rg p l e R s m args below meth c A Q nL) := by
  obtain ⟨hx, hb, hml, hown, hts, hnest, hlk⟩ := CX
  intro pc ls st μ a hd k
  intro g1 g2 g3 H locs lsA g4 g5 g6
  obtain ⟨q1, g3⟩ := rS_cons.mp g3
  have k' := k g1 g2 (rS_cons.mpr ⟨(by obtain ⟨h1, h2⟩ := (show inR a from q1); constructor <;> omega), g3⟩) H locs lsA g4 g5 g6
  simp only [List.map_cons, mv] at k'
  exact lv_i2l hx hb hd (Int32.toInt64_ofInt (by have := (show inR a from q1).1; exact this) (by have := (show inR a from q1).2; exact Int.le_of_lt_add_one this)) k'
theorem g_lconst (CX : Cx p s m args meth c cc own nL) : Q_lconst vd rg cc own (Gm ad vd Wd cf sf rg p l e R s m args below meth c A Q nL) := by
  obtain ⟨hx, hb, hml, hown, hts, hnest, hlk⟩ := CX
  intro pc ls st μ n a hd ha k
  intro g1 g2 g3 H locs lsA g4 g5 g6
  subst ha
  have k' := k g1 g2 (rS_cons.mpr ⟨(by have := n.isLt; constructor <;> omega), g3⟩) H locs lsA g4 g5 g6
  simp only [List.map_cons, mv] at k'
  exact lv_lconst hx hb hd (by rfl) k'
theorem g_lsub (CX : Cx p s m args meth c cc own nL) : Q_lsub vd rg cc own (Gm ad vd Wd cf sf rg p l e R s m args below meth c A Q nL) := by
  obtain ⟨hx, hb, hml, hown, hts, hnest, hlk⟩ := CX
  intro pc ls st μ a b hd k
  intro g1 g2 g3 H locs lsA g4 g5 g6
  obtain ⟨q1, g3⟩ := rS_cons.mp g3
  obtain ⟨q2, g3⟩ := rS_cons.mp g3
  have k' := k g1 g2 (rS_cons.mpr ⟨⟨Int64.le_toInt _, Int64.toInt_lt _⟩, g3⟩) H locs lsA g4 g5 g6
  simp only [List.map_cons, mv, wl, Int64.ofInt_toInt, Int64.ofInt_sub] at k'
  exact lv_lsub hx hb hd k'
theorem g_lcmp (CX : Cx p s m args meth c cc own nL) : Q_lcmp vd rg cc own (Gm ad vd Wd cf sf rg p l e R s m args below meth c A Q nL) := by
  obtain ⟨hx, hb, hml, hown, hts, hnest, hlk⟩ := CX
  intro pc ls st μ a b hd k
  intro g1 g2 g3 H locs lsA g4 g5 g6
  obtain ⟨q1, g3⟩ := rS_cons.mp g3
  obtain ⟨q2, g3⟩ := rS_cons.mp g3
  have k' := k g1 g2 (rS_cons.mpr ⟨(by show inR (lcmp a b); unfold lcmp; split <;> (try split) <;> exact inR_lit rfl), g3⟩) H locs lsA g4 g5 g6
  have e : i3 (lcmp a b) = lg_cmp (Int64.ofInt a) (Int64.ofInt b) := by
    have ha : (Int64.ofInt a).toInt = a := Int64.toInt_ofInt_of_le q2.1 q2.2
    have hb' : (Int64.ofInt b).toInt = b := Int64.toInt_ofInt_of_le q1.1 q1.2
    unfold lcmp lg_cmp
    simp only [gt_iff_lt, Int64.lt_iff_toInt_lt, ← Int64.toInt_inj, ha, hb']
    by_cases h1 : a < b
    · rw [if_pos h1, if_neg (by omega), if_neg (by omega)]; rfl
    · by_cases h2 : a = b
      · rw [if_neg h1, if_pos h2, if_neg (by omega), if_pos h2]; rfl
      · rw [if_neg h1, if_neg h2, if_pos (by omega)]; rfl
  simp only [List.map_cons, mv, e] at k'
  exact W.lcmp hx hb hd k'
theorem g_dup (CX : Cx p s m args meth c cc own nL) : Q_dup vd rg cc own (Gm ad vd Wd cf sf rg p l e R s m args below meth c A Q nL) := by
  obtain ⟨hx, hb, hml, hown, hts, hnest, hlk⟩ := CX
  intro pc ls st μ v hd hv k
  intro g1 g2 g3 H locs lsA g4 g5 g6
  obtain ⟨q1, -⟩ := rS_cons.mp g3
  exact lv_dup hx hb hd (by rw [mv_cat]; exact hv) (k g1 g2 (rS_cons.mpr ⟨q1, g3⟩) H locs lsA g4 g5 g6)
theorem g_dup2 (CX : Cx p s m args meth c cc own nL) : Q_dup2 vd rg cc own (Gm ad vd Wd cf sf rg p l e R s m args below meth c A Q nL) := by
  obtain ⟨hx, hb, hml, hown, hts, hnest, hlk⟩ := CX
  intro pc ls st μ v u hd hv hu k
  intro g1 g2 g3 H locs lsA g4 g5 g6
  obtain ⟨q1, q3⟩ := rS_cons.mp g3
  obtain ⟨q2, q4⟩ := rS_cons.mp q3
  exact lv_dup2_11 hx hb hd (by rw [mv_cat]; exact hv) (by rw [mv_cat]; exact hu) (k g1 g2 (rS_cons.mpr ⟨q1, rS_cons.mpr ⟨q2, g3⟩⟩) H locs lsA g4 g5 g6)
theorem g_pop (CX : Cx p s m args meth c cc own nL) : Q_pop vd rg cc own (Gm ad vd Wd cf sf rg p l e R s m args below meth c A Q nL) := by
  obtain ⟨hx, hb, hml, hown, hts, hnest, hlk⟩ := CX
  intro pc ls st μ v hd hv k
  intro g1 g2 g3 H locs lsA g4 g5 g6
  obtain ⟨q1, g3⟩ := rS_cons.mp g3
  exact lv_pop hx hb hd (by rw [mv_cat]; exact hv) (k g1 g2 g3 H locs lsA g4 g5 g6)
theorem g_goto (CX : Cx p s m args meth c cc own nL) : Q_goto vd rg cc own (Gm ad vd Wd cf sf rg p l e R s m args below meth c A Q nL) := by
  obtain ⟨hx, hb, hml, hown, hts, hnest, hlk⟩ := CX
  intro pc ls st μ off tgt hd ht k
  intro g1 g2 g3 H locs lsA g4 g5 g6
  exact lv_goto hx hb hd ht (k g1 g2 g3 H locs lsA g4 g5 g6)
theorem g_null (CX : Cx p s m args meth c cc own nL) : Q_null vd rg cc own (Gm ad vd Wd cf sf rg p l e R s m args below meth c A Q nL) := by
  obtain ⟨hx, hb, hml, hown, hts, hnest, hlk⟩ := CX
  intro pc ls st μ hd k
  intro g1 g2 g3 H locs lsA g4 g5 g6
  exact lv_null hx hb hd (k g1 g2 (rS_cons.mpr ⟨trivial, g3⟩) H locs lsA g4 g5 g6)
theorem g_if_eq (CX : Cx p s m args meth c cc own nL) : Q_if_eq vd rg cc own (Gm ad vd Wd cf sf rg p l e R s m args below meth c A Q nL) := by
  obtain ⟨hx, hb, hml, hown, hts, hnest, hlk⟩ := CX
  intro pc ls st μ a off tgt hd ht kt kf
  intro g1 g2 g3 H locs lsA g4 g5 g6
  obtain ⟨q1, g3⟩ := rS_cons.mp g3
  have i0 : inR 0 := inR_lit rfl
  exact lv_if_eq hx hb hd ht (fun h => kt ((i3_inj q1 i0).mp h) g1 g2 g3 H locs lsA g4 g5 g6) (fun h => kf (fun h2 => h ((i3_inj q1 i0).mpr h2)) g1 g2 g3 H locs lsA g4 g5 g6)
theorem g_icmp_eq (CX : Cx p s m args meth c cc own nL) : Q_icmp_eq vd rg cc own (Gm ad vd Wd cf sf rg p l e R s m args below meth c A Q nL) := by
  obtain ⟨hx, hb, hml, hown, hts, hnest, hlk⟩ := CX
  intro pc ls st μ a b off tgt hd ht kt kf
  intro g1 g2 g3 H locs lsA g4 g5 g6
  obtain ⟨qb, g3⟩ := rS_cons.mp g3
  obtain ⟨qa, g3⟩ := rS_cons.mp g3
  exact lv_icmp_eq hx hb hd ht (fun h => kt ((i3_inj qa qb).mp h) g1 g2 g3 H locs lsA g4 g5 g6) (fun h => kf (fun h2 => h ((i3_inj qa qb).mpr h2)) g1 g2 g3 H locs lsA g4 g5 g6)
theorem g_if_ne (CX : Cx p s m args meth c cc own nL) : Q_if_ne vd rg cc own (Gm ad vd Wd cf sf rg p l e R s m args below meth c A Q nL) := by
  obtain ⟨hx, hb, hml, hown, hts, hnest, hlk⟩ := CX
  intro pc ls st μ a off tgt hd ht kt kf
  intro g1 g2 g3 H locs lsA g4 g5 g6
  obtain ⟨q1, g3⟩ := rS_cons.mp g3
  have i0 : inR 0 := inR_lit rfl
  exact lv_if_ne hx hb hd ht (fun h => kt (fun h2 => h ((i3_inj q1 i0).mpr h2)) g1 g2 g3 H locs lsA g4 g5 g6) (fun h => kf ((i3_inj q1 i0).mp h) g1 g2 g3 H locs lsA g4 g5 g6)
theorem g_icmp_ne (CX : Cx p s m args meth c cc own nL) : Q_icmp_ne vd rg cc own (Gm ad vd Wd cf sf rg p l e R s m args below meth c A Q nL) := by
  obtain ⟨hx, hb, hml, hown, hts, hnest, hlk⟩ := CX
  intro pc ls st μ a b off tgt hd ht kt kf
  intro g1 g2 g3 H locs lsA g4 g5 g6
  obtain ⟨qb, g3⟩ := rS_cons.mp g3
  obtain ⟨qa, g3⟩ := rS_cons.mp g3
  exact lv_icmp_ne hx hb hd ht (fun h => kt (fun h2 => h ((i3_inj qa qb).mpr h2)) g1 g2 g3 H locs lsA g4 g5 g6) (fun h => kf ((i3_inj qa qb).mp h) g1 g2 g3 H locs lsA g4 g5 g6)
theorem g_if_lt (CX : Cx p s m args meth c cc own nL) : Q_if_lt vd rg cc own (Gm ad vd Wd cf sf rg p l e R s m args below meth c A Q nL) := by
  obtain ⟨hx, hb, hml, hown, hts, hnest, hlk⟩ := CX
  intro pc ls st μ a off tgt hd ht kt kf
  intro g1 g2 g3 H locs lsA g4 g5 g6
  obtain ⟨q1, g3⟩ := rS_cons.mp g3
  have i0 : inR 0 := inR_lit rfl
  exact lv_if_lt hx hb hd ht (fun h => kt ((i3_lt q1 i0).mp h) g1 g2 g3 H locs lsA g4 g5 g6) (fun h => kf (Int.not_lt.mp fun h2 => h ((i3_lt q1 i0).mpr h2)) g1 g2 g3 H locs lsA g4 g5 g6)
theorem g_icmp_lt (CX : Cx p s m args meth c cc own nL) : Q_icmp_lt vd rg cc own (Gm ad vd Wd cf sf rg p l e R s m args below meth c A Q nL) := by
  obtain ⟨hx, hb, hml, hown, hts, hnest, hlk⟩ := CX
  intro pc ls st μ a b off tgt hd ht kt kf
  intro g1 g2 g3 H locs lsA g4 g5 g6
  obtain ⟨qb, g3⟩ := rS_cons.mp g3
  obtain ⟨qa, g3⟩ := rS_cons.mp g3
  exact lv_icmp_lt hx hb hd ht (fun h => kt ((i3_lt qa qb).mp h) g1 g2 g3 H locs lsA g4 g5 g6) (fun h => kf (Int.not_lt.mp fun h2 => h ((i3_lt qa qb).mpr h2)) g1 g2 g3 H locs lsA g4 g5 g6)
theorem g_if_ge (CX : Cx p s m args meth c cc own nL) : Q_if_ge vd rg cc own (Gm ad vd Wd cf sf rg p l e R s m args below meth c A Q nL) := by
  obtain ⟨hx, hb, hml, hown, hts, hnest, hlk⟩ := CX
  intro pc ls st μ a off tgt hd ht kt kf
  intro g1 g2 g3 H locs lsA g4 g5 g6
  obtain ⟨q1, g3⟩ := rS_cons.mp g3
  have i0 : inR 0 := inR_lit rfl
  exact lv_if_ge hx hb hd ht (fun h => kt ((i3_le i0 q1).mp h) g1 g2 g3 H locs lsA g4 g5 g6) (fun h => kf (Int.not_le.mp fun h2 => h ((i3_le i0 q1).mpr h2)) g1 g2 g3 H locs lsA g4 g5 g6)
theorem g_icmp_ge (CX : Cx p s m args meth c cc own nL) : Q_icmp_ge vd rg cc own (Gm ad vd Wd cf sf rg p l e R s m args below meth c A Q nL) := by
  obtain ⟨hx, hb, hml, hown, hts, hnest, hlk⟩ := CX
  intro pc ls st μ a b off tgt hd ht kt kf
  intro g1 g2 g3 H locs lsA g4 g5 g6
  obtain ⟨qb, g3⟩ := rS_cons.mp g3
  obtain ⟨qa, g3⟩ := rS_cons.mp g3
  exact lv_icmp_ge hx hb hd ht (fun h => kt ((i3_le qb qa).mp h) g1 g2 g3 H locs lsA g4 g5 g6) (fun h => kf (Int.not_le.mp fun h2 => h ((i3_le qb qa).mpr h2)) g1 g2 g3 H locs lsA g4 g5 g6)
theorem g_if_gt (CX : Cx p s m args meth c cc own nL) : Q_if_gt vd rg cc own (Gm ad vd Wd cf sf rg p l e R s m args below meth c A Q nL) := by
  obtain ⟨hx, hb, hml, hown, hts, hnest, hlk⟩ := CX
  intro pc ls st μ a off tgt hd ht kt kf
  intro g1 g2 g3 H locs lsA g4 g5 g6
  obtain ⟨q1, g3⟩ := rS_cons.mp g3
  have i0 : inR 0 := inR_lit rfl
  exact lv_if_gt hx hb hd ht (fun h => kt ((i3_lt i0 q1).mp h) g1 g2 g3 H locs lsA g4 g5 g6) (fun h => kf (Int.not_lt.mp fun h2 => h ((i3_lt i0 q1).mpr h2)) g1 g2 g3 H locs lsA g4 g5 g6)
theorem g_icmp_gt (CX : Cx p s m args meth c cc own nL) : Q_icmp_gt vd rg cc own (Gm ad vd Wd cf sf rg p l e R s m args below meth c A Q nL) := by
  obtain ⟨hx, hb, hml, hown, hts, hnest, hlk⟩ := CX
  intro pc ls st μ a b off tgt hd ht kt kf
  intro g1 g2 g3 H locs lsA g4 g5 g6
  obtain ⟨qb, g3⟩ := rS_cons.mp g3
  obtain ⟨qa, g3⟩ := rS_cons.mp g3
  exact lv_icmp_gt hx hb hd ht (fun h => kt ((i3_lt qb qa).mp h) g1 g2 g3 H locs lsA g4 g5 g6) (fun h => kf (Int.not_lt.mp fun h2 => h ((i3_lt qb qa).mpr h2)) g1 g2 g3 H locs lsA g4 g5 g6)
theorem g_if_le (CX : Cx p s m args meth c cc own nL) : Q_if_le vd rg cc own (Gm ad vd Wd cf sf rg p l e R s m args below meth c A Q nL) := by
  obtain ⟨hx, hb, hml, hown, hts, hnest, hlk⟩ := CX
  intro pc ls st μ a off tgt hd ht kt kf
  intro g1 g2 g3 H locs lsA g4 g5 g6
  obtain ⟨q1, g3⟩ := rS_cons.mp g3
  have i0 : inR 0 := inR_lit rfl
  exact lv_if_le hx hb hd ht (fun h => kt ((i3_le q1 i0).mp h) g1 g2 g3 H locs lsA g4 g5 g6) (fun h => kf (Int.not_le.mp fun h2 => h ((i3_le q1 i0).mpr h2)) g1 g2 g3 H locs lsA g4 g5 g6)
theorem g_icmp_le (CX : Cx p s m args meth c cc own nL) : Q_icmp_le vd rg cc own (Gm ad vd Wd cf sf rg p l e R s m args below meth c A Q nL) := by
  obtain ⟨hx, hb, hml, hown, hts, hnest, hlk⟩ := CX
  intro pc ls st μ a b off tgt hd ht kt kf
  intro g1 g2 g3 H locs lsA g4 g5 g6
  obtain ⟨qb, g3⟩ := rS_cons.mp g3
  obtain ⟨qa, g3⟩ := rS_cons.mp g3
  exact lv_icmp_le hx hb hd ht (fun h => kt ((i3_le qa qb).mp h) g1 g2 g3 H locs lsA g4 g5 g6) (fun h => kf (Int.not_le.mp fun h2 => h ((i3_le qa qb).mpr h2)) g1 g2 g3 H locs lsA g4 g5 g6)
theorem g_ifnullN (CX : Cx p s m args meth c cc own nL) : Q_ifnullN vd rg cc own (Gm ad vd Wd cf sf rg p l e R s m args below meth c A Q nL) := by
  obtain ⟨hx, hb, hml, hown, hts, hnest, hlk⟩ := CX
  intro pc ls st μ off tgt hd ht k
  intro g1 g2 g3 H locs lsA g4 g5 g6
  obtain ⟨q1, g3⟩ := rS_cons.mp g3
  exact lv_ifnullN hx hb hd ht (k g1 g2 g3 H locs lsA g4 g5 g6)
theorem g_ifnullR (CX : Cx p s m args meth c cc own nL) : Q_ifnullR vd rg cc own (Gm ad vd Wd cf sf rg p l e R s m args below meth c A Q nL) := by
  obtain ⟨hx, hb, hml, hown, hts, hnest, hlk⟩ := CX
  intro pc ls st μ off q hd k
  intro g1 g2 g3 H locs lsA g4 g5 g6
  obtain ⟨q1, g3⟩ := rS_cons.mp g3
  exact lv_ifnull hx hb hd (k g1 g2 g3 H locs lsA g4 g5 g6)
theorem g_ifnonnullN (CX : Cx p s m args meth c cc own nL) : Q_ifnonnullN vd rg cc own (Gm ad vd Wd cf sf rg p l e R s m args below meth c A Q nL) := by
  obtain ⟨hx, hb, hml, hown, hts, hnest, hlk⟩ := CX
  intro pc ls st μ off hd k
  intro g1 g2 g3 H locs lsA g4 g5 g6
  obtain ⟨q1, g3⟩ := rS_cons.mp g3
  exact lv_ifnonnullN hx hb hd (k g1 g2 g3 H locs lsA g4 g5 g6)
theorem g_ifnonnullR (CX : Cx p s m args meth c cc own nL) : Q_ifnonnullR vd rg cc own (Gm ad vd Wd cf sf rg p l e R s m args below meth c A Q nL) := by
  obtain ⟨hx, hb, hml, hown, hts, hnest, hlk⟩ := CX
  intro pc ls st μ off tgt q hd ht k
  intro g1 g2 g3 H locs lsA g4 g5 g6
  obtain ⟨q1, g3⟩ := rS_cons.mp g3
  exact lv_ifnonnull hx hb hd ht (k g1 g2 g3 H locs lsA g4 g5 g6)
theorem g_tableOut (CX : Cx p s m args meth c cc own nL) : Q_tableOut vd rg cc own (Gm ad vd Wd cf sf rg p l e R s m args below meth c A Q nL) := by
  obtain ⟨hx, hb, hml, hown, hts, hnest, hlk⟩ := CX
  intro pc ls st μ a dflt lo hi offs len tgt hd h ht k
  intro g1 g2 g3 H locs lsA g4 g5 g6
  obtain ⟨q1, g3⟩ := rS_cons.mp g3
  exact lv_tableOut hx hb hd (by rw [i3_toInt q1]; exact h) ht (k g1 g2 g3 H locs lsA g4 g5 g6)
theorem g_tableIn (CX : Cx p s m args meth c cc own nL) : Q_tableIn vd rg cc own (Gm ad vd Wd cf sf rg p l e R s m args below meth c A Q nL) := by
  obtain ⟨hx, hb, hml, hown, hts, hnest, hlk⟩ := CX
  intro pc ls st μ a dflt lo hi off offs len tgt hd h1 h2 ho ht k
  intro g1 g2 g3 H locs lsA g4 g5 g6
  obtain ⟨q1, g3⟩ := rS_cons.mp g3
  exact lv_tableIn hx hb hd (by rw [i3_toInt q1]; omega) (by rw [i3_toInt q1]; omega) (by rw [i3_toInt q1]; exact ho) ht (k g1 g2 g3 H locs lsA g4 g5 g6)
theorem g_forget (CX : Cx p s m args meth c cc own nL) : Q_forget vd rg cc own (Gm ad vd Wd cf sf rg p l e R s m args below meth c A Q nL) := by
  obtain ⟨hx, hb, hml, hown, hts, hnest, hlk⟩ := CX
  intro pc ls st μ ls2 hs k
  intro g1 g2 g3 H locs lsA g4 g5 g6
  exact k g1 (fun v hv => by
    obtain ⟨i, hi⟩ := List.getElem?_of_mem hv
    exact g2 v (List.mem_of_getElem? (hs.2 i v hi))) g3 H locs lsA g4 g5 (g6.sub hs)
theorem g_rng (CX : Cx p s m args meth c cc own nL) : Q_rng vd rg cc own (Gm ad vd Wd cf sf rg p l e R s m args below meth c A Q nL) := by
  obtain ⟨hx, hb, hml, hown, hts, hnest, hlk⟩ := CX
  intro pc ls st μ k
  intro g1 g2 g3 H locs lsA g4 g5 g6
  exact k g1 g2 g1 g2 g3 H locs lsA g4 g5 g6
theorem stpC_Gm (CX : Cx p s m args meth c cc own nL) : StpC vd rg cc own (Gm ad vd Wd cf sf rg p l e R s m args below meth c A Q nL) := ⟨g_iconst CX, g_bipush CX, g_sipush CX, g_ldc CX, g_ldcw CX, g_iload_n CX, g_iload CX, g_lload_n CX, g_aload_n CX, g_aload CX, g_aloadN_n CX, g_aloadN CX, g_istore_n CX, g_istore CX, g_astore_n CX, g_astore CX, g_astoreN_n CX, g_astoreN CX, g_iinc CX, g_iadd CX, g_isub CX, g_imul CX, g_iand CX, g_ior CX, g_ixor CX, g_ishl CX, g_ishr CX, g_iushr CX, g_idiv CX, g_irem CX, g_ineg CX, g_i2l CX, g_lconst CX, g_lsub CX, g_lcmp CX, g_dup CX, g_dup2 CX, g_pop CX, g_goto CX, g_null CX, g_if_eq CX, g_icmp_eq CX, g_if_ne CX, g_icmp_ne CX, g_if_lt CX, g_icmp_lt CX, g_if_ge CX, g_icmp_ge CX, g_if_gt CX, g_icmp_gt CX, g_if_le CX, g_icmp_le CX, g_ifnullN CX, g_ifnullR CX, g_ifnonnullN CX, g_ifnonnullR CX, g_tableOut CX, g_tableIn CX, g_forget CX, g_rng CX⟩
end GMR
-- what a link of the code says
def clN (ci : Nat) : Nat := match ci with
  | 0 => 7 | 1 => 8 | 2 => 17 | 3 => 4 | 4 => 6 | 5 => 8 | 6 => 23 | _ => 0
-- links: a field of class number ci by its slot k; kz the same number as an int
def FLk (own : String) (idx ci k : Nat) (ty : FieldType) : Prop := ∃ (C : String) (T : u_T) (N : Nat) (ty0 : Nat → FieldType), vwCl[ci]? = some (C, T, N) ∧ N = clN ci ∧ k < N ∧ (∀ w ∈ u_ws C T N, w ∈ gT) ∧ (∀ k, k < N → parseFieldDescriptor (T k).2.2.1 = some (ty0 k)) ∧ (∀ a, a < N → ∀ b, b < N → a ≠ b → (T a).2.1 ≠ (T b).2.1) ∧ (T k).1 = C ∧ ty0 k = ty ∧
  (Cond.fieldLink own idx C (T k).2.1 (T k).2.2.1 ∈ gT ∨ ∃ host : String, Cond.fieldLinkNest own idx C (T k).2.1 (T k).2.2.1 host ∈ nT)
def FLw (own : String) (idx ci k : Nat) (ty : FieldType) : Prop := FLk own idx ci k ty ∧ ∀ (C : String) (T : u_T) (N : Nat), vwCl[ci]? = some (C, T, N) → (T k).2.2.2 = false
def SLk (own : String) (idx : Nat) : Prop := Cond.fieldLink own idx RX5 "NUMBERS" "[I" ∈ gT ∨ ∃ host : String, Cond.fieldLinkNest own idx RX5 "NUMBERS" "[I" host ∈ nT
-- the table of methods: name, code, how many locals, what it gives back, how many it takes
abbrev Mt : Type := MethodName × ByteArray × Nat × Option FieldType × Nat
def mtab_0 : List Mt := [(⟨RX0, "<init>", "()V"⟩, prog_2_method_1_code, 1, none, 0),
  (⟨RX0, "clear", "()V"⟩, prog_2_method_2_code, 1, none, 0),
  (⟨RX0, "copyFrom", "(LSlideFold$Flip;)V"⟩, prog_2_method_3_code, 2, none, 1),
  (⟨RX0, "add", "()V"⟩, prog_2_method_4_code, 2, none, 0),
  (⟨RX0, "drop", "()V"⟩, prog_2_method_5_code, 1, none, 0),
  (⟨RX0, "layAnew", "(I)V"⟩, prog_2_method_6_code, 2, none, 1),
  (⟨RX0, "endMove", "(I)V"⟩, prog_2_method_7_code, 4, none, 1),
  (⟨RX0, "told", "(I)I"⟩, prog_2_method_8_code, 2, some .int, 1),
  (⟨RX1, "<init>", "()V"⟩, prog_3_method_1_code, 1, none, 0),
  (⟨RX1, "begin", "(I)V"⟩, prog_3_method_2_code, 3, none, 1),
  (⟨RX1, "number", "(I)I"⟩, prog_3_method_3_code, 2, some .int, 1),
  (⟨RX1, "reaches", "(II)Z"⟩, prog_3_method_4_code, 4, some .boolean, 2),
  (⟨RX1, "noteNumbers", "()V"⟩, prog_3_method_5_code, 1, none, 0),
  (⟨RX1, "isAsNoted", "()Z"⟩, prog_3_method_6_code, 2, some .boolean, 0),
  (⟨RX1, "append", "(I)V"⟩, prog_3_method_7_code, 2, none, 1),
  (⟨RX1, "addGreatest", "(I)V"⟩, prog_3_method_8_code, 2, none, 1),
  (⟨RX1, "addShare", "(I)V"⟩, prog_3_method_9_code, 6, none, 1),
  (⟨RX1, "addLine", "(I)V"⟩, prog_3_method_10_code, 4, none, 1),
  (⟨RX1, "addRun", "(I)V"⟩, prog_3_method_11_code, 3, none, 1),
  (⟨RX1, "addLetter", "(I)V"⟩, prog_3_method_12_code, 5, none, 1),
  (⟨RX1, "addNest", "(I)V"⟩, prog_3_method_13_code, 2, none, 1),
  (⟨RX1, "addLike", "(I)V"⟩, prog_3_method_14_code, 2, none, 1),
  (⟨RX1, "addStep", "(I)V"⟩, prog_3_method_15_code, 5, none, 1),
  (⟨RX1, "addSpread", "(I)V"⟩, prog_3_method_16_code, 2, none, 1),
  (⟨RX1, "addElement", "(I)V"⟩, prog_3_method_17_code, 3, none, 1),
  (⟨RX2, "<init>", "(I)V"⟩, prog_4_method_1_code, 2, none, 1),
  (⟨RX2, "begin", "(IIII)V"⟩, prog_4_method_2_code, 5, none, 4),
  (⟨RX2, "copyFrom", "(LSlideFold$Lane;)V"⟩, prog_4_method_3_code, 2, none, 1),
  (⟨RX2, "hasNumber", "(I)Z"⟩, prog_4_method_4_code, 2, some .boolean, 1),
  (⟨RX2, "isFull", "()Z"⟩, prog_4_method_5_code, 1, some .boolean, 0)]
def mtab_1 : List Mt := [(⟨RX2, "isTooLate", "(I)Z"⟩, prog_4_method_6_code, 2, some .boolean, 1),
  (⟨RX2, "heldUntil", "(J)I"⟩, prog_4_method_7_code, 4, some .int, 1),
  (⟨RX2, "startsSession", "(II)Z"⟩, prog_4_method_8_code, 3, some .boolean, 2),
  (⟨RX2, "goes", "(III)Z"⟩, prog_4_method_9_code, 4, some .boolean, 3),
  (⟨RX2, "insert", "(III)V"⟩, prog_4_method_10_code, 4, none, 3),
  (⟨RX2, "remove", "(I)V"⟩, prog_4_method_11_code, 2, none, 1),
  (⟨RX2, "shift", "(III)V"⟩, prog_4_method_12_code, 4, none, 3),
  (⟨RX2, "told", "(I)I"⟩, prog_4_method_13_code, 2, some .int, 1),
  (⟨RX3, "<init>", "()V"⟩, prog_5_method_1_code, 1, none, 0),
  (⟨RX3, "begin", "(III)V"⟩, prog_5_method_2_code, 4, none, 3),
  (⟨RX3, "end", "()V"⟩, prog_5_method_3_code, 1, none, 0),
  (⟨RX3, "told", "(I)I"⟩, prog_5_method_4_code, 2, some .int, 1),
  (⟨RX4, "<init>", "()V"⟩, prog_6_method_1_code, 1, none, 0),
  (⟨RX4, "begin", "(IIIZ)V"⟩, prog_6_method_2_code, 5, none, 4),
  (⟨RX4, "note", "(ZI)V"⟩, prog_6_method_3_code, 3, none, 2),
  (⟨RX4, "end", "()V"⟩, prog_6_method_4_code, 1, none, 0),
  (⟨RX5, "<init>", "()V"⟩, prog_1_method_1_code, 2, none, 0),
  (⟨RX5, "table", "(II)Z"⟩, prog_1_method_2_code, 3, some .boolean, 2),
  (⟨RX5, "letter", "(II)Z"⟩, prog_1_method_3_code, 3, some .boolean, 2),
  (⟨RX5, "triple", "(I)I"⟩, prog_1_method_4_code, 5, some .int, 1),
  (⟨RX5, "element", "(I)I"⟩, prog_1_method_5_code, 2, some .int, 1),
  (⟨RX5, "product", "(II)I"⟩, prog_1_method_6_code, 3, some .int, 2),
  (⟨RX5, "associates", "(III)Z"⟩, prog_1_method_7_code, 4, some .boolean, 3),
  (⟨RX5, "firstNeutral", "()I"⟩, prog_1_method_8_code, 4, some .int, 0),
  (⟨RX5, "firstAbsorbing", "()I"⟩, prog_1_method_9_code, 4, some .int, 0),
  (⟨RX5, "idempotents", "()I"⟩, prog_1_method_10_code, 3, some .int, 0),
  (⟨RX5, "commutingPairs", "()I"⟩, prog_1_method_11_code, 4, some .int, 0),
  (⟨RX5, "isUsed", "(I)Z"⟩, prog_1_method_12_code, 3, some .boolean, 1),
  (⟨RX5, "open", "(IIIII)I"⟩, prog_1_method_13_code, 6, some .int, 5),
  (⟨RX5, "isSize", "(II)Z"⟩, prog_1_method_14_code, 2, some .boolean, 2)]
def mtab_2 : List Mt := [(⟨RX5, "shut", "(I)Z"⟩, prog_1_method_15_code, 3, some .boolean, 1),
  (⟨RX5, "come", "(III)I"⟩, prog_1_method_16_code, 5, some .int, 3),
  (⟨RX5, "burst", "(IIII)I"⟩, prog_1_method_17_code, 8, some .int, 4),
  (⟨RX5, "leave", "(II)I"⟩, prog_1_method_18_code, 5, some .int, 2),
  (⟨RX5, "until", "(II)I"⟩, prog_1_method_19_code, 6, some .int, 2),
  (⟨RX5, "take", "(II)I"⟩, prog_1_method_20_code, 5, some .int, 2),
  (⟨RX5, "alter", "(III)Z"⟩, prog_1_method_21_code, 5, some .boolean, 3),
  (⟨RX5, "place", "(LSlideFold$Lane;II)V"⟩, prog_1_method_22_code, 7, none, 3),
  (⟨RX5, "dropOldest", "(LSlideFold$Lane;)V"⟩, prog_1_method_23_code, 2, none, 1),
  (⟨RX5, "layAnew", "(LSlideFold$Lane;)V"⟩, prog_1_method_24_code, 2, none, 1),
  (⟨RX5, "give", "(LSlideFold$Lane;I)V"⟩, prog_1_method_25_code, 9, none, 2),
  (⟨RX5, "noteMost", "()V"⟩, prog_1_method_26_code, 2, none, 0),
  (⟨RX5, "event", "(III)I"⟩, prog_1_method_27_code, 5, some .int, 3),
  (⟨RX5, "total", "(II)I"⟩, prog_1_method_28_code, 4, some .int, 2),
  (⟨RX5, "part", "(IIII)I"⟩, prog_1_method_29_code, 6, some .int, 4),
  (⟨RX5, "during", "(IIII)I"⟩, prog_1_method_30_code, 6, some .int, 4),
  (⟨RX5, "many", "(III)I"⟩, prog_1_method_31_code, 5, some .int, 3),
  (⟨RX5, "reach", "(III)I"⟩, prog_1_method_32_code, 6, some .int, 3),
  (⟨RX5, "reachBack", "(III)I"⟩, prog_1_method_33_code, 6, some .int, 3),
  (⟨RX5, "peak", "(III)I"⟩, prog_1_method_34_code, 5, some .int, 3),
  (⟨RX5, "peakAt", "(III)I"⟩, prog_1_method_35_code, 9, some .int, 3),
  (⟨RX5, "without", "(III)I"⟩, prog_1_method_36_code, 5, some .int, 3),
  (⟨RX5, "spare", "(II)I"⟩, prog_1_method_37_code, 8, some .int, 2),
  (⟨RX5, "turned", "(II)I"⟩, prog_1_method_38_code, 5, some .int, 2),
  (⟨RX5, "commutes", "(II)I"⟩, prog_1_method_39_code, 6, some .int, 2),
  (⟨RX5, "law", "(III)I"⟩, prog_1_method_40_code, 4, some .int, 3),
  (⟨RX5, "joined", "(III)I"⟩, prog_1_method_41_code, 7, some .int, 3),
  (⟨RX5, "woven", "(III)I"⟩, prog_1_method_42_code, 10, some .int, 3),
  (⟨RX5, "same", "(II)I"⟩, prog_1_method_43_code, 5, some .int, 2),
  (⟨RX5, "panes", "(II)I"⟩, prog_1_method_44_code, 8, some .int, 2)]
def mtab_3 : List Mt := [(⟨RX5, "fullest", "(II)I"⟩, prog_1_method_45_code, 10, some .int, 2),
  (⟨RX5, "sessions", "(II)I"⟩, prog_1_method_46_code, 6, some .int, 2),
  (⟨RX5, "session", "(IIII)I"⟩, prog_1_method_47_code, 8, some .int, 4),
  (⟨RX5, "longest", "(II)I"⟩, prog_1_method_48_code, 10, some .int, 2),
  (⟨RX5, "state", "(II)I"⟩, prog_1_method_49_code, 4, some .int, 2),
  (⟨RX5, "soon", "(II)I"⟩, prog_1_method_50_code, 5, some .int, 2),
  (⟨RX5, "cost", "(III)I"⟩, prog_1_method_51_code, 6, some .int, 3),
  (⟨RX5, "lane", "(II)I"⟩, prog_1_method_52_code, 4, some .int, 2),
  (⟨RX5, "watch", "(IIII)I"⟩, prog_1_method_53_code, 7, some .int, 4),
  (⟨RX5, "rings", "(I)I"⟩, prog_1_method_54_code, 2, some .int, 1),
  (⟨RX5, "rang", "(I)I"⟩, prog_1_method_55_code, 2, some .int, 1),
  (⟨RX5, "isTold", "(I)Z"⟩, prog_1_method_56_code, 2, some .boolean, 1),
  (⟨RX5, "ringWatches", "(LSlideFold$Lane;)V"⟩, prog_1_method_57_code, 4, none, 1),
  (⟨RX5, "isWatched", "(I)Z"⟩, prog_1_method_58_code, 3, some .boolean, 1),
  (⟨RX5, "link", "(IIII)Z"⟩, prog_1_method_59_code, 6, some .boolean, 4),
  (⟨RX5, "unlink", "(I)Z"⟩, prog_1_method_60_code, 2, some .boolean, 1),
  (⟨RX5, "linked", "(II)I"⟩, prog_1_method_61_code, 3, some .int, 2),
  (⟨RX5, "isLinkedTo", "(I)Z"⟩, prog_1_method_62_code, 3, some .boolean, 1),
  (⟨RX5, "endTies", "(I)V"⟩, prog_1_method_63_code, 3, none, 1),
  (⟨RX5, "shortest", "(IIII)I"⟩, prog_1_method_64_code, 10, some .int, 4),
  (⟨RX5, "windows", "(IIII)I"⟩, prog_1_method_65_code, 10, some .int, 4),
  (⟨RX5, "were", "(IIII)I"⟩, prog_1_method_66_code, 11, some .int, 4),
  (⟨RX5, "parted", "(IIII)I"⟩, prog_1_method_67_code, 9, some .int, 4),
  (⟨RX5, "partFrom", "(LSlideFold$Lane;III)V"⟩, prog_1_method_68_code, 9, none, 4),
  (⟨RX5, "keep", "(II)I"⟩, prog_1_method_69_code, 4, some .int, 2),
  (⟨RX5, "back", "(I)I"⟩, prog_1_method_70_code, 3, some .int, 1),
  (⟨RX5, "about", "(I)I"⟩, prog_1_method_71_code, 2, some .int, 1),
  (⟨RX5, "openLanes", "()I"⟩, prog_1_method_72_code, 3, some .int, 0),
  (⟨RX5, "heldInAll", "()I"⟩, prog_1_method_73_code, 3, some .int, 0),
  (⟨RX5, "spentInAll", "()I"⟩, prog_1_method_74_code, 3, some .int, 0)]
def mtab_4 : List Mt := [(⟨RX5, "toldWatches", "()I"⟩, prog_1_method_75_code, 3, some .int, 0),
  (⟨RX5, "fullBoxes", "()I"⟩, prog_1_method_76_code, 3, some .int, 0),
  (⟨RX5, "ringsInAll", "()I"⟩, prog_1_method_77_code, 3, some .int, 0),
  (⟨RX5, "linksInAll", "()I"⟩, prog_1_method_78_code, 3, some .int, 0),
  (⟨RX5, "within", "(III)Z"⟩, prog_1_method_79_code, 3, some .boolean, 3),
  (⟨RX5, "isLane", "(I)Z"⟩, prog_1_method_80_code, 1, some .boolean, 1),
  (⟨RX5, "isTime", "(I)Z"⟩, prog_1_method_81_code, 1, some .boolean, 1),
  (⟨RX5, "isValue", "(I)Z"⟩, prog_1_method_82_code, 1, some .boolean, 1),
  (⟨RX5, "isGap", "(I)Z"⟩, prog_1_method_83_code, 1, some .boolean, 1),
  (⟨RX5, "openLane", "(I)LSlideFold$Lane;"⟩, prog_1_method_84_code, 2, some (.object "SlideFold$Lane"), 1),
  (⟨RX5, "laneWith", "(II)LSlideFold$Lane;"⟩, prog_1_method_85_code, 4, some (.object "SlideFold$Lane"), 2),
  (⟨RX5, "laneHolding", "(II)LSlideFold$Lane;"⟩, prog_1_method_86_code, 4, some (.object "SlideFold$Lane"), 2),
  (⟨RX5, "comesTo", "(LSlideFold$Lane;III)I"⟩, prog_1_method_87_code, 5, some .int, 4),
  (⟨RX5, "comesToWithout", "(LSlideFold$Lane;II)I"⟩, prog_1_method_88_code, 5, some .int, 3),
  (⟨RX5, "foldPart", "(LSlideFold$Lane;II)V"⟩, prog_1_method_89_code, 5, none, 3),
  (⟨RX6, "<init>", "()V"⟩, prog_8_method_1_code, 2, none, 0),
  (⟨RX6, "isIn", "(III)Z"⟩, prog_8_method_2_code, 3, some .boolean, 3),
  (⟨RX6, "isLane", "(I)Z"⟩, prog_8_method_3_code, 2, some .boolean, 1),
  (⟨RX6, "of", "(II)I"⟩, prog_8_method_4_code, 3, some .int, 2),
  (⟨RX6, "set", "(III)V"⟩, prog_8_method_5_code, 4, none, 3),
  (⟨RX6, "more", "(III)V"⟩, prog_8_method_6_code, 4, none, 3),
  (⟨RX6, "heldOf", "(I)I"⟩, prog_8_method_7_code, 2, some .int, 1),
  (⟨RX6, "isUsed", "(I)Z"⟩, prog_8_method_8_code, 3, some .boolean, 1),
  (⟨RX6, "table", "(II)Z"⟩, prog_8_method_9_code, 3, some .boolean, 2),
  (⟨RX6, "letter", "(II)Z"⟩, prog_8_method_10_code, 3, some .boolean, 2),
  (⟨RX6, "product", "(II)I"⟩, prog_8_method_11_code, 3, some .int, 2),
  (⟨RX6, "associates", "(I)Z"⟩, prog_8_method_12_code, 5, some .boolean, 1),
  (⟨RX6, "firstThree", "()I"⟩, prog_8_method_13_code, 2, some .int, 0),
  (⟨RX6, "triple", "(I)I"⟩, prog_8_method_14_code, 3, some .int, 1),
  (⟨RX6, "countAssociating", "()I"⟩, prog_8_method_15_code, 3, some .int, 0)]
def mtab_5 : List Mt := [(⟨RX6, "isSuch", "(II)Z"⟩, prog_8_method_16_code, 5, some .boolean, 2),
  (⟨RX6, "element", "(I)I"⟩, prog_8_method_17_code, 4, some .int, 1),
  (⟨RX6, "clearRow", "()V"⟩, prog_8_method_18_code, 1, none, 0),
  (⟨RX6, "put", "(I)V"⟩, prog_8_method_19_code, 2, none, 1),
  (⟨RX6, "putFrom", "(III)V"⟩, prog_8_method_20_code, 5, none, 3),
  (⟨RX6, "layAll", "(I)V"⟩, prog_8_method_21_code, 2, none, 1),
  (⟨RX6, "howMany", "(I)I"⟩, prog_8_method_22_code, 1, some .int, 1),
  (⟨RX6, "isNumber", "(II)Z"⟩, prog_8_method_23_code, 3, some .boolean, 2),
  (⟨RX6, "goThrough", "(I)V"⟩, prog_8_method_24_code, 2, none, 1),
  (⟨RX6, "comes", "(II)I"⟩, prog_8_method_25_code, 3, some .int, 2),
  (⟨RX6, "greatest", "()V"⟩, prog_8_method_26_code, 4, none, 0),
  (⟨RX6, "share", "()V"⟩, prog_8_method_27_code, 6, none, 0),
  (⟨RX6, "rest", "(II)I"⟩, prog_8_method_28_code, 3, some .int, 2),
  (⟨RX6, "line", "()V"⟩, prog_8_method_29_code, 5, none, 0),
  (⟨RX6, "run", "()V"⟩, prog_8_method_30_code, 8, none, 0),
  (⟨RX6, "send", "()V"⟩, prog_8_method_31_code, 5, none, 0),
  (⟨RX6, "bits", "(I)I"⟩, prog_8_method_32_code, 3, some .int, 1),
  (⟨RX6, "nest", "()V"⟩, prog_8_method_33_code, 7, none, 0),
  (⟨RX6, "alikeFrom", "(I)I"⟩, prog_8_method_34_code, 3, some .int, 1),
  (⟨RX6, "like", "()V"⟩, prog_8_method_35_code, 6, none, 0),
  (⟨RX6, "steps", "()V"⟩, prog_8_method_36_code, 6, none, 0),
  (⟨RX6, "spread", "()V"⟩, prog_8_method_37_code, 5, none, 0),
  (⟨RX6, "multiply", "()V"⟩, prog_8_method_38_code, 3, none, 0),
  (⟨RX6, "isReached", "(II)Z"⟩, prog_8_method_39_code, 2, some .boolean, 2),
  (⟨RX6, "open", "(IIIII)I"⟩, prog_8_method_40_code, 7, some .int, 5),
  (⟨RX6, "openLanes", "()I"⟩, prog_8_method_41_code, 3, some .int, 0),
  (⟨RX6, "shut", "(I)Z"⟩, prog_8_method_42_code, 2, some .boolean, 1),
  (⟨RX6, "endMove", "(II)V"⟩, prog_8_method_43_code, 4, none, 2),
  (⟨RX6, "goFlip", "(I)I"⟩, prog_8_method_44_code, 4, some .int, 1),
  (⟨RX6, "layAnew", "(I)V"⟩, prog_8_method_45_code, 3, none, 1)]
def mtab_6 : List Mt := [(⟨RX6, "state", "(II)I"⟩, prog_8_method_46_code, 3, some .int, 2),
  (⟨RX6, "soon", "(II)I"⟩, prog_8_method_47_code, 3, some .int, 2),
  (⟨RX6, "endWatches", "(I)V"⟩, prog_8_method_48_code, 3, none, 1),
  (⟨RX6, "isTold", "(I)Z"⟩, prog_8_method_49_code, 2, some .boolean, 1),
  (⟨RX6, "reachedNow", "(III)I"⟩, prog_8_method_50_code, 4, some .int, 3),
  (⟨RX6, "look", "(I)V"⟩, prog_8_method_51_code, 4, none, 1),
  (⟨RX6, "watch", "(IIII)I"⟩, prog_8_method_52_code, 5, some .int, 4),
  (⟨RX6, "rings", "(I)I"⟩, prog_8_method_53_code, 2, some .int, 1),
  (⟨RX6, "rang", "(I)I"⟩, prog_8_method_54_code, 2, some .int, 1),
  (⟨RX6, "shift", "(IIZ)V"⟩, prog_8_method_55_code, 6, none, 3),
  (⟨RX6, "copyEvent", "(II)V"⟩, prog_8_method_56_code, 3, none, 2),
  (⟨RX6, "placeOf", "(II)I"⟩, prog_8_method_57_code, 4, some .int, 2),
  (⟨RX6, "drop", "(I)V"⟩, prog_8_method_58_code, 2, none, 1),
  (⟨RX6, "isTooMany", "(I)Z"⟩, prog_8_method_59_code, 2, some .boolean, 1),
  (⟨RX6, "enter", "(III)V"⟩, prog_8_method_60_code, 7, none, 3),
  (⟨RX6, "seeMost", "(I)V"⟩, prog_8_method_61_code, 2, none, 1),
  (⟨RX6, "behindCall", "(I)I"⟩, prog_8_method_62_code, 2, some .int, 1),
  (⟨RX6, "isLinkedTo", "(I)Z"⟩, prog_8_method_63_code, 3, some .boolean, 1),
  (⟨RX6, "endLinks", "(I)V"⟩, prog_8_method_64_code, 3, none, 1),
  (⟨RX6, "link", "(IIII)Z"⟩, prog_8_method_65_code, 5, some .boolean, 4),
  (⟨RX6, "unlink", "(I)Z"⟩, prog_8_method_66_code, 2, some .boolean, 1),
  (⟨RX6, "linked", "(II)I"⟩, prog_8_method_67_code, 3, some .int, 2),
  (⟨RX6, "isLost", "(II)Z"⟩, prog_8_method_68_code, 3, some .boolean, 2),
  (⟨RX6, "isFull", "(I)Z"⟩, prog_8_method_69_code, 2, some .boolean, 1),
  (⟨RX6, "give", "(II)V"⟩, prog_8_method_70_code, 8, none, 2),
  (⟨RX6, "come", "(III)I"⟩, prog_8_method_71_code, 4, some .int, 3),
  (⟨RX6, "burst", "(IIII)I"⟩, prog_8_method_72_code, 7, some .int, 4),
  (⟨RX6, "leave", "(II)I"⟩, prog_8_method_73_code, 4, some .int, 2),
  (⟨RX6, "until", "(II)I"⟩, prog_8_method_74_code, 5, some .int, 2),
  (⟨RX6, "isEvent", "(II)Z"⟩, prog_8_method_75_code, 3, some .boolean, 2)]
def mtab_7 : List Mt := [(⟨RX6, "take", "(II)I"⟩, prog_8_method_76_code, 4, some .int, 2),
  (⟨RX6, "alter", "(III)Z"⟩, prog_8_method_77_code, 4, some .boolean, 3),
  (⟨RX6, "event", "(III)I"⟩, prog_8_method_78_code, 4, some .int, 3),
  (⟨RX6, "comesFrom", "(IIII)I"⟩, prog_8_method_79_code, 5, some .int, 4),
  (⟨RX6, "total", "(II)I"⟩, prog_8_method_80_code, 3, some .int, 2),
  (⟨RX6, "part", "(IIII)I"⟩, prog_8_method_81_code, 5, some .int, 4),
  (⟨RX6, "aheadOf", "(II)I"⟩, prog_8_method_82_code, 3, some .int, 2),
  (⟨RX6, "during", "(IIII)I"⟩, prog_8_method_83_code, 7, some .int, 4),
  (⟨RX6, "many", "(III)I"⟩, prog_8_method_84_code, 5, some .int, 3),
  (⟨RX6, "reach", "(III)I"⟩, prog_8_method_85_code, 5, some .int, 3),
  (⟨RX6, "reachBack", "(III)I"⟩, prog_8_method_86_code, 5, some .int, 3),
  (⟨RX6, "bestOf", "(III)I"⟩, prog_8_method_87_code, 8, some .int, 3),
  (⟨RX6, "peakAt", "(III)I"⟩, prog_8_method_88_code, 4, some .int, 3),
  (⟨RX6, "peak", "(III)I"⟩, prog_8_method_89_code, 5, some .int, 3),
  (⟨RX6, "comesWithout", "(III)I"⟩, prog_8_method_90_code, 4, some .int, 3),
  (⟨RX6, "without", "(III)I"⟩, prog_8_method_91_code, 4, some .int, 3),
  (⟨RX6, "spare", "(II)I"⟩, prog_8_method_92_code, 7, some .int, 2),
  (⟨RX6, "turned", "(II)I"⟩, prog_8_method_93_code, 4, some .int, 2),
  (⟨RX6, "keepNumbers", "(I)V"⟩, prog_8_method_94_code, 3, none, 1),
  (⟨RX6, "areKept", "(I)Z"⟩, prog_8_method_95_code, 3, some .boolean, 1),
  (⟨RX6, "commutes", "(II)I"⟩, prog_8_method_96_code, 4, some .int, 2),
  (⟨RX6, "areAlike", "(II)Z"⟩, prog_8_method_97_code, 3, some .boolean, 2),
  (⟨RX6, "joined", "(III)I"⟩, prog_8_method_98_code, 4, some .int, 3),
  (⟨RX6, "woven", "(III)I"⟩, prog_8_method_99_code, 6, some .int, 3),
  (⟨RX6, "same", "(II)I"⟩, prog_8_method_100_code, 3, some .int, 2),
  (⟨RX6, "law", "(III)I"⟩, prog_8_method_101_code, 4, some .int, 3),
  (⟨RX6, "layParts", "(II)V"⟩, prog_8_method_102_code, 5, none, 2),
  (⟨RX6, "shortest", "(IIII)I"⟩, prog_8_method_103_code, 7, some .int, 4),
  (⟨RX6, "windows", "(IIII)I"⟩, prog_8_method_104_code, 9, some .int, 4),
  (⟨RX6, "layRow", "(III)V"⟩, prog_8_method_105_code, 8, none, 3)]
def mtab_8 : List Mt := [(⟨RX6, "parted", "(IIII)I"⟩, prog_8_method_106_code, 7, some .int, 4),
  (⟨RX6, "were", "(IIII)I"⟩, prog_8_method_107_code, 6, some .int, 4),
  (⟨RX6, "cost", "(III)I"⟩, prog_8_method_108_code, 8, some .int, 3),
  (⟨RX6, "isWidth", "(I)Z"⟩, prog_8_method_109_code, 2, some .boolean, 1),
  (⟨RX6, "inPane", "(III)I"⟩, prog_8_method_110_code, 5, some .int, 3),
  (⟨RX6, "panes", "(II)I"⟩, prog_8_method_111_code, 5, some .int, 2),
  (⟨RX6, "fullest", "(II)I"⟩, prog_8_method_112_code, 6, some .int, 2),
  (⟨RX6, "isGap", "(I)Z"⟩, prog_8_method_113_code, 2, some .boolean, 1),
  (⟨RX6, "inSession", "(III)I"⟩, prog_8_method_114_code, 5, some .int, 3),
  (⟨RX6, "sessions", "(II)I"⟩, prog_8_method_115_code, 5, some .int, 2),
  (⟨RX6, "session", "(IIII)I"⟩, prog_8_method_116_code, 7, some .int, 4),
  (⟨RX6, "longest", "(II)I"⟩, prog_8_method_117_code, 7, some .int, 2),
  (⟨RX6, "lane", "(II)I"⟩, prog_8_method_118_code, 3, some .int, 2),
  (⟨RX6, "copyLane", "(II)V"⟩, prog_8_method_119_code, 4, none, 2),
  (⟨RX6, "keep", "(II)I"⟩, prog_8_method_120_code, 3, some .int, 2),
  (⟨RX6, "back", "(I)I"⟩, prog_8_method_121_code, 3, some .int, 1),
  (⟨RX6, "sumOf", "(I)I"⟩, prog_8_method_122_code, 4, some .int, 1),
  (⟨RX6, "boxesNow", "()I"⟩, prog_8_method_123_code, 3, some .int, 0),
  (⟨RX6, "toldNow", "(Z)I"⟩, prog_8_method_124_code, 4, some .int, 1),
  (⟨RX6, "linksNow", "()I"⟩, prog_8_method_125_code, 3, some .int, 0),
  (⟨RX6, "about", "(I)I"⟩, prog_8_method_126_code, 2, some .int, 1),
  (⟨RJ6, "bitCount", "(I)I"⟩, prog_9_method_49_code, 1, some .int, 1),
  (⟨RJ9, "floorMod", "(II)I"⟩, prog_10_method_50_code, 3, some .int, 2),
  (⟨RJ9, "abs", "(I)I"⟩, prog_10_method_59_code, 1, some .int, 1),
  (⟨RJ9, "max", "(II)I"⟩, prog_10_method_65_code, 2, some .int, 2),
  (⟨RJ9, "min", "(II)I"⟩, prog_10_method_69_code, 2, some .int, 2),
  (⟨RJ7, "fill", "([II)V"⟩, prog_12_method_103_code, 4, none, 2)]
def mt (M : Nat) : Mt := (match M / 30 with
  | 0 => mtab_0
  | 1 => mtab_1
  | 2 => mtab_2
  | 3 => mtab_3
  | 4 => mtab_4
  | 5 => mtab_5
  | 6 => mtab_6
  | 7 => mtab_7
  | _ => mtab_8).getD (M % 30) (⟨"", "", ""⟩, ⟨#[]⟩, 0, none, 0)
def my (M : Nat) : MethodName := (mt M).1
def mb (M : Nat) : ByteArray := (mt M).2.1
def ml (M : Nat) : Nat := (mt M).2.2.1
def mr (M : Nat) : Option FieldType := (mt M).2.2.2.1
def mp (M : Nat) : Nat := (mt M).2.2.2.2
def wsM (M : Nat) : List Cond := Cond.code (my M) (mb M) (ml M) (mr M) :: gT
def MOK (M : Nat) : Prop := Cond.code (my M) (mb M) (ml M) (mr M) ∈ gT ∧ Cond.initialized (my M).cls ∈ gT ∧ ((my M).cls ≠ "java/lang/invoke/MethodHandle" ∧ (my M).cls ≠ "java/lang/invoke/VarHandle") ∧ (parseMethodDescriptor (my M).desc).map (fun d => d.parameters.length) = some (mp M) ∧ ml M ≤ 21 ∧ plainFor (my M) = true
def LNK (own : String) (idx M : Nat) : Prop := Cond.methodLink own idx (my M) ∈ gT ∨ ∃ host : String, Cond.methodLinkNest own idx (my M) host ∈ nT
def VLk (own : String) (idx M : Nat) : Prop := LNK own idx M ∧ MOK M ∧ Cond.instanceMethod (my M) ∈ gT ∧ Cond.selects (my M).cls (my M) (my M) ∈ gT
def TLk (own : String) (idx M : Nat) : Prop := LNK own idx M ∧ MOK M ∧ Cond.static (my M) ∈ gT
def ILk (own : String) (idx M : Nat) : Prop := LNK own idx M ∧ MOK M ∧ Cond.instanceMethod (my M) ∈ gT ∧ (my M).name = "<init>" ∧ mr M = none
-- what the links of the code name
theorem gk_code : ∀ a b c d, goodWord (Cond.code a b c d) = true := fun _ _ _ _ => rfl
theorem gk_instanceMethod : ∀ a, goodWord (Cond.instanceMethod a) = true := fun _ => rfl
theorem gk_static : ∀ a, goodWord (Cond.static a) = true := fun _ => rfl
theorem gk_native : ∀ a, goodWord (Cond.native a) = true := fun _ => rfl
theorem gk_initialized : ∀ a, goodWord (Cond.initialized a) = true := fun _ => rfl
theorem gk_methodLink : ∀ a b c, goodWord (Cond.methodLink a b c) = true := fun _ _ _ => rfl
theorem gk_fieldLink : ∀ a b c d e, goodWord (Cond.fieldLink a b c d e) = true := fun _ _ _ _ _ => rfl
theorem gk_selects : ∀ a b c, goodWord (Cond.selects a b c) = true := fun _ _ _ => rfl
theorem gk_constant : ∀ a b c, goodWord (Cond.constant a b c) = true := fun _ _ _ => rfl
theorem gw1 {w : Cond} {i : Nat} (h : tables_1_1[i]? = some w) (g : goodWord w = true) : w ∈ gT := List.mem_filter.mpr ⟨List.mem_append_right _ (tb1 (List.mem_of_getElem? h)), g⟩
theorem nw1 {w : Cond} {i : Nat} (h : tables_1_1[i]? = some w) (g : isNest w = true) : w ∈ nT := List.mem_filter.mpr ⟨tb1 (List.mem_of_getElem? h), g⟩
theorem gw2 {w : Cond} {i : Nat} (h : tables_1_2[i]? = some w) (g : goodWord w = true) : w ∈ gT := List.mem_filter.mpr ⟨List.mem_append_right _ (tb2 (List.mem_of_getElem? h)), g⟩
theorem nw2 {w : Cond} {i : Nat} (h : tables_1_2[i]? = some w) (g : isNest w = true) : w ∈ nT := List.mem_filter.mpr ⟨tb2 (List.mem_of_getElem? h), g⟩
theorem gw3 {w : Cond} {i : Nat} (h : tables_1_3[i]? = some w) (g : goodWord w = true) : w ∈ gT := List.mem_filter.mpr ⟨List.mem_append_right _ (tb3 (List.mem_of_getElem? h)), g⟩
theorem nw3 {w : Cond} {i : Nat} (h : tables_1_3[i]? = some w) (g : isNest w = true) : w ∈ nT := List.mem_filter.mpr ⟨tb3 (List.mem_of_getElem? h), g⟩
theorem gw4 {w : Cond} {i : Nat} (h : tables_1_4[i]? = some w) (g : goodWord w = true) : w ∈ gT := List.mem_filter.mpr ⟨List.mem_append_right _ (tb4 (List.mem_of_getElem? h)), g⟩
theorem nw4 {w : Cond} {i : Nat} (h : tables_1_4[i]? = some w) (g : isNest w = true) : w ∈ nT := List.mem_filter.mpr ⟨tb4 (List.mem_of_getElem? h), g⟩
theorem gw5 {w : Cond} {i : Nat} (h : tables_1_5[i]? = some w) (g : goodWord w = true) : w ∈ gT := List.mem_filter.mpr ⟨List.mem_append_right _ (tb5 (List.mem_of_getElem? h)), g⟩
theorem nw5 {w : Cond} {i : Nat} (h : tables_1_5[i]? = some w) (g : isNest w = true) : w ∈ nT := List.mem_filter.mpr ⟨tb5 (List.mem_of_getElem? h), g⟩
theorem gw6 {w : Cond} {i : Nat} (h : tables_1_6[i]? = some w) (g : goodWord w = true) : w ∈ gT := List.mem_filter.mpr ⟨List.mem_append_right _ (tb6 (List.mem_of_getElem? h)), g⟩
theorem nw6 {w : Cond} {i : Nat} (h : tables_1_6[i]? = some w) (g : isNest w = true) : w ∈ nT := List.mem_filter.mpr ⟨tb6 (List.mem_of_getElem? h), g⟩
theorem pfor {y : MethodName} (h : plainName y.cls = true) : plainFor y = true := by
  unfold plainFor
  rw [h]
  rfl
theorem inG0 : ∀ w ∈ u_ws RX0 TX0 7, w ∈ gT := by
  intro w hw
  obtain ⟨k, hk, rfl⟩ := List.mem_map.mp hw
  have hk := List.mem_range.mp hk
  rcases (by omega : k = 0 ∨ k = 1 ∨ k = 2 ∨ k = 3 ∨ k = 4 ∨ k = 5 ∨ k = 6) with rfl | rfl | rfl | rfl | rfl | rfl | rfl
  · exact gw1 (i := 47) rfl rfl
  · exact gw1 (i := 49) rfl rfl
  · exact gw1 (i := 51) rfl rfl
  · exact gw1 (i := 53) rfl rfl
  · exact gw1 (i := 55) rfl rfl
  · exact gw1 (i := 57) rfl rfl
  · exact gw1 (i := 59) rfl rfl
theorem inG1 : ∀ w ∈ u_ws RX1 TX1 8, w ∈ gT := by
  intro w hw
  obtain ⟨k, hk, rfl⟩ := List.mem_map.mp hw
  have hk := List.mem_range.mp hk
  rcases (by omega : k = 0 ∨ k = 1 ∨ k = 2 ∨ k = 3 ∨ k = 4 ∨ k = 5 ∨ k = 6 ∨ k = 7) with rfl | rfl | rfl | rfl | rfl | rfl | rfl | rfl
  · exact gw1 (i := 200) rfl rfl
  · exact gw1 (i := 202) rfl rfl
  · exact gw1 (i := 204) rfl rfl
  · exact gw1 (i := 206) rfl rfl
  · exact gw1 (i := 208) rfl rfl
  · exact gw1 (i := 210) rfl rfl
  · exact gw1 (i := 212) rfl rfl
  · exact gw1 (i := 214) rfl rfl
theorem inG2 : ∀ w ∈ u_ws RX2 TX2 17, w ∈ gT := by
  intro w hw
  obtain ⟨k, hk, rfl⟩ := List.mem_map.mp hw
  have hk := List.mem_range.mp hk
  rcases (by omega : k = 0 ∨ k = 1 ∨ k = 2 ∨ k = 3 ∨ k = 4 ∨ k = 5 ∨ k = 6 ∨ k = 7 ∨ k = 8 ∨ k = 9 ∨ k = 10 ∨ k = 11 ∨ k = 12 ∨ k = 13 ∨ k = 14 ∨ k = 15 ∨ k = 16) with rfl | rfl | rfl | rfl | rfl | rfl | rfl | rfl | rfl | rfl | rfl | rfl | rfl | rfl | rfl | rfl | rfl
  · exact gw1 (i := 93) rfl rfl
  · exact gw1 (i := 95) rfl rfl
  · exact gw1 (i := 97) rfl rfl
  · exact gw1 (i := 99) rfl rfl
  · exact gw1 (i := 101) rfl rfl
  · exact gw1 (i := 103) rfl rfl
  · exact gw1 (i := 105) rfl rfl
  · exact gw1 (i := 107) rfl rfl
  · exact gw1 (i := 109) rfl rfl
  · exact gw1 (i := 111) rfl rfl
  · exact gw1 (i := 113) rfl rfl
  · exact gw1 (i := 115) rfl rfl
  · exact gw1 (i := 117) rfl rfl
  · exact gw1 (i := 119) rfl rfl
  · exact gw1 (i := 121) rfl rfl
  · exact gw1 (i := 123) rfl rfl
  · exact gw1 (i := 125) rfl rfl
theorem inG3 : ∀ w ∈ u_ws RX3 TX3 4, w ∈ gT := by
  intro w hw
  obtain ⟨k, hk, rfl⟩ := List.mem_map.mp hw
  have hk := List.mem_range.mp hk
  rcases (by omega : k = 0 ∨ k = 1 ∨ k = 2 ∨ k = 3) with rfl | rfl | rfl | rfl
  · exact gw1 (i := 141) rfl rfl
  · exact gw1 (i := 143) rfl rfl
  · exact gw1 (i := 145) rfl rfl
  · exact gw1 (i := 147) rfl rfl
theorem inG4 : ∀ w ∈ u_ws RX4 TX4 6, w ∈ gT := by
  intro w hw
  obtain ⟨k, hk, rfl⟩ := List.mem_map.mp hw
  have hk := List.mem_range.mp hk
  rcases (by omega : k = 0 ∨ k = 1 ∨ k = 2 ∨ k = 3 ∨ k = 4 ∨ k = 5) with rfl | rfl | rfl | rfl | rfl | rfl
  · exact gw1 (i := 168) rfl rfl
  · exact gw1 (i := 170) rfl rfl
  · exact gw1 (i := 172) rfl rfl
  · exact gw1 (i := 174) rfl rfl
  · exact gw1 (i := 176) rfl rfl
  · exact gw1 (i := 178) rfl rfl
theorem inG5 : ∀ w ∈ u_ws RX5 TX5 8, w ∈ gT := by
  intro w hw
  obtain ⟨k, hk, rfl⟩ := List.mem_map.mp hw
  have hk := List.mem_range.mp hk
  rcases (by omega : k = 0 ∨ k = 1 ∨ k = 2 ∨ k = 3 ∨ k = 4 ∨ k = 5 ∨ k = 6 ∨ k = 7) with rfl | rfl | rfl | rfl | rfl | rfl | rfl | rfl
  · exact gw1 (i := 229) rfl rfl
  · exact gw1 (i := 231) rfl rfl
  · exact gw1 (i := 233) rfl rfl
  · exact gw1 (i := 235) rfl rfl
  · exact gw1 (i := 237) rfl rfl
  · exact gw1 (i := 239) rfl rfl
  · exact gw2 (i := 1) rfl rfl
  · exact gw2 (i := 3) rfl rfl
theorem inG6 : ∀ w ∈ u_ws RX6 TX6 23, w ∈ gT := by
  intro w hw
  obtain ⟨k, hk, rfl⟩ := List.mem_map.mp hw
  have hk := List.mem_range.mp hk
  rcases (by omega : k = 0 ∨ k = 1 ∨ k = 2 ∨ k = 3 ∨ k = 4 ∨ k = 5 ∨ k = 6 ∨ k = 7 ∨ k = 8 ∨ k = 9 ∨ k = 10 ∨ k = 11 ∨ k = 12 ∨ k = 13 ∨ k = 14 ∨ k = 15 ∨ k = 16 ∨ k = 17 ∨ k = 18 ∨ k = 19 ∨ k = 20 ∨ k = 21 ∨ k = 22) with rfl | rfl | rfl | rfl | rfl | rfl | rfl | rfl | rfl | rfl | rfl | rfl | rfl | rfl | rfl | rfl | rfl | rfl | rfl | rfl | rfl | rfl | rfl
  · exact gw4 (i := 103) rfl rfl
  · exact gw4 (i := 105) rfl rfl
  · exact gw4 (i := 107) rfl rfl
  · exact gw4 (i := 109) rfl rfl
  · exact gw4 (i := 111) rfl rfl
  · exact gw4 (i := 113) rfl rfl
  · exact gw4 (i := 115) rfl rfl
  · exact gw4 (i := 117) rfl rfl
  · exact gw4 (i := 119) rfl rfl
  · exact gw4 (i := 121) rfl rfl
  · exact gw4 (i := 123) rfl rfl
  · exact gw4 (i := 125) rfl rfl
  · exact gw4 (i := 127) rfl rfl
  · exact gw4 (i := 129) rfl rfl
  · exact gw4 (i := 131) rfl rfl
  · exact gw4 (i := 133) rfl rfl
  · exact gw4 (i := 135) rfl rfl
  · exact gw4 (i := 137) rfl rfl
  · exact gw4 (i := 139) rfl rfl
  · exact gw4 (i := 141) rfl rfl
  · exact gw4 (i := 143) rfl rfl
  · exact gw4 (i := 145) rfl rfl
  · exact gw4 (i := 147) rfl rfl
theorem cn_0 : RX5 ≠ "java/lang/invoke/MethodHandle" ∧ RX5 ≠ "java/lang/invoke/VarHandle" := ⟨by decide +kernel, by decide +kernel⟩
theorem pn_0 : plainName RX5 = true := by decide +kernel
theorem cn_1 : RX0 ≠ "java/lang/invoke/MethodHandle" ∧ RX0 ≠ "java/lang/invoke/VarHandle" := ⟨by decide +kernel, by decide +kernel⟩
theorem pn_1 : plainName RX0 = true := by decide +kernel
theorem cn_2 : RX1 ≠ "java/lang/invoke/MethodHandle" ∧ RX1 ≠ "java/lang/invoke/VarHandle" := ⟨by decide +kernel, by decide +kernel⟩
theorem pn_2 : plainName RX1 = true := by decide +kernel
theorem cn_3 : RX2 ≠ "java/lang/invoke/MethodHandle" ∧ RX2 ≠ "java/lang/invoke/VarHandle" := ⟨by decide +kernel, by decide +kernel⟩
theorem pn_3 : plainName RX2 = true := by decide +kernel
theorem cn_4 : RX3 ≠ "java/lang/invoke/MethodHandle" ∧ RX3 ≠ "java/lang/invoke/VarHandle" := ⟨by decide +kernel, by decide +kernel⟩
theorem pn_4 : plainName RX3 = true := by decide +kernel
theorem cn_5 : RX4 ≠ "java/lang/invoke/MethodHandle" ∧ RX4 ≠ "java/lang/invoke/VarHandle" := ⟨by decide +kernel, by decide +kernel⟩
theorem pn_5 : plainName RX4 = true := by decide +kernel
theorem cn_6 : RX6 ≠ "java/lang/invoke/MethodHandle" ∧ RX6 ≠ "java/lang/invoke/VarHandle" := ⟨by decide +kernel, by decide +kernel⟩
theorem pn_6 : plainName RX6 = true := by decide +kernel
theorem cn_7 : RJ6 ≠ "java/lang/invoke/MethodHandle" ∧ RJ6 ≠ "java/lang/invoke/VarHandle" := ⟨by decide +kernel, by decide +kernel⟩
theorem cn_8 : RJ9 ≠ "java/lang/invoke/MethodHandle" ∧ RJ9 ≠ "java/lang/invoke/VarHandle" := ⟨by decide +kernel, by decide +kernel⟩
theorem cn_9 : RJ7 ≠ "java/lang/invoke/MethodHandle" ∧ RJ7 ≠ "java/lang/invoke/VarHandle" := ⟨by decide +kernel, by decide +kernel⟩
theorem ds_0 : (parseMethodDescriptor "()I").map (fun d => d.parameters.length) = some 0 := by decide +kernel
theorem ds_1 : (parseMethodDescriptor "()V").map (fun d => d.parameters.length) = some 0 := by decide +kernel
theorem ds_2 : (parseMethodDescriptor "()Z").map (fun d => d.parameters.length) = some 0 := by decide +kernel
theorem ds_3 : (parseMethodDescriptor "(I)I").map (fun d => d.parameters.length) = some 1 := by decide +kernel
theorem ds_4 : (parseMethodDescriptor "(I)LSlideFold$Lane;").map (fun d => d.parameters.length) = some 1 := by decide +kernel
theorem ds_5 : (parseMethodDescriptor "(I)V").map (fun d => d.parameters.length) = some 1 := by decide +kernel
theorem ds_6 : (parseMethodDescriptor "(I)Z").map (fun d => d.parameters.length) = some 1 := by decide +kernel
theorem ds_7 : (parseMethodDescriptor "(II)I").map (fun d => d.parameters.length) = some 2 := by decide +kernel
theorem ds_8 : (parseMethodDescriptor "(II)LSlideFold$Lane;").map (fun d => d.parameters.length) = some 2 := by decide +kernel
theorem ds_9 : (parseMethodDescriptor "(II)V").map (fun d => d.parameters.length) = some 2 := by decide +kernel
theorem ds_10 : (parseMethodDescriptor "(II)Z").map (fun d => d.parameters.length) = some 2 := by decide +kernel
theorem ds_11 : (parseMethodDescriptor "(III)I").map (fun d => d.parameters.length) = some 3 := by decide +kernel
theorem ds_12 : (parseMethodDescriptor "(III)V").map (fun d => d.parameters.length) = some 3 := by decide +kernel
theorem ds_13 : (parseMethodDescriptor "(III)Z").map (fun d => d.parameters.length) = some 3 := by decide +kernel
theorem ds_14 : (parseMethodDescriptor "(IIII)I").map (fun d => d.parameters.length) = some 4 := by decide +kernel
theorem ds_15 : (parseMethodDescriptor "(IIII)V").map (fun d => d.parameters.length) = some 4 := by decide +kernel
theorem ds_16 : (parseMethodDescriptor "(IIII)Z").map (fun d => d.parameters.length) = some 4 := by decide +kernel
theorem ds_17 : (parseMethodDescriptor "(IIIII)I").map (fun d => d.parameters.length) = some 5 := by decide +kernel
theorem ds_18 : (parseMethodDescriptor "(IIIZ)V").map (fun d => d.parameters.length) = some 4 := by decide +kernel
theorem ds_19 : (parseMethodDescriptor "(IIZ)V").map (fun d => d.parameters.length) = some 3 := by decide +kernel
theorem ds_20 : (parseMethodDescriptor "(J)I").map (fun d => d.parameters.length) = some 1 := by decide +kernel
theorem ds_21 : (parseMethodDescriptor "(LSlideFold$Flip;)V").map (fun d => d.parameters.length) = some 1 := by decide +kernel
theorem ds_22 : (parseMethodDescriptor "(LSlideFold$Lane;)V").map (fun d => d.parameters.length) = some 1 := by decide +kernel
theorem ds_23 : (parseMethodDescriptor "(LSlideFold$Lane;I)V").map (fun d => d.parameters.length) = some 2 := by decide +kernel
theorem ds_24 : (parseMethodDescriptor "(LSlideFold$Lane;II)I").map (fun d => d.parameters.length) = some 3 := by decide +kernel
theorem ds_25 : (parseMethodDescriptor "(LSlideFold$Lane;II)V").map (fun d => d.parameters.length) = some 3 := by decide +kernel
theorem ds_26 : (parseMethodDescriptor "(LSlideFold$Lane;III)I").map (fun d => d.parameters.length) = some 4 := by decide +kernel
theorem ds_27 : (parseMethodDescriptor "(LSlideFold$Lane;III)V").map (fun d => d.parameters.length) = some 4 := by decide +kernel
theorem ds_28 : (parseMethodDescriptor "(Z)I").map (fun d => d.parameters.length) = some 1 := by decide +kernel
theorem ds_29 : (parseMethodDescriptor "(ZI)V").map (fun d => d.parameters.length) = some 2 := by decide +kernel
theorem ds_30 : (parseMethodDescriptor "([II)V").map (fun d => d.parameters.length) = some 2 := by decide +kernel
theorem mokI {M : Nat} {y : MethodName} {b : ByteArray} {l : Nat} {r : Option FieldType} {k : Nat} (e : mt M = (y, b, l, r, k)) (h1 : Cond.code y b l r ∈ gT) (h2 : Cond.initialized y.cls ∈ gT) (h3 : y.cls ≠ "java/lang/invoke/MethodHandle" ∧ y.cls ≠ "java/lang/invoke/VarHandle") (h4 : (parseMethodDescriptor y.desc).map (fun d => d.parameters.length) = some k) (h5 : l ≤ 21) (h6 : plainFor y = true) : MOK M := by
  unfold MOK my mb ml mr mp
  rw [e]
  exact ⟨h1, h2, h3, h4, h5, h6⟩
theorem mk_0 : MOK 0 := mokI (y := ⟨RX0, "<init>", "()V"⟩) (b := prog_2_method_1_code) (l := 1) (r := none) (k := 0) rfl (gw1 (i := 33) rfl (gk_code _ _ _ _)) (gw1 (i := 3) rfl (gk_initialized _)) cn_1 ds_1 (Nat.le_of_ble_eq_true rfl) (pfor pn_1)
theorem mk_1 : MOK 1 := mokI (y := ⟨RX0, "clear", "()V"⟩) (b := prog_2_method_2_code) (l := 1) (r := none) (k := 0) rfl (gw2 (i := 71) rfl (gk_code _ _ _ _)) (gw1 (i := 3) rfl (gk_initialized _)) cn_1 ds_1 (Nat.le_of_ble_eq_true rfl) (pfor pn_1)
theorem mk_2 : MOK 2 := mokI (y := ⟨RX0, "copyFrom", "(LSlideFold$Flip;)V"⟩) (b := prog_2_method_3_code) (l := 2) (r := none) (k := 1) rfl (gw3 (i := 200) rfl (gk_code _ _ _ _)) (gw1 (i := 3) rfl (gk_initialized _)) cn_1 ds_21 (Nat.le_of_ble_eq_true rfl) (pfor pn_1)
theorem mk_3 : MOK 3 := mokI (y := ⟨RX0, "add", "()V"⟩) (b := prog_2_method_4_code) (l := 2) (r := none) (k := 0) rfl (gw2 (i := 229) rfl (gk_code _ _ _ _)) (gw1 (i := 3) rfl (gk_initialized _)) cn_1 ds_1 (Nat.le_of_ble_eq_true rfl) (pfor pn_1)
theorem mk_4 : MOK 4 := mokI (y := ⟨RX0, "drop", "()V"⟩) (b := prog_2_method_5_code) (l := 1) (r := none) (k := 0) rfl (gw3 (i := 36) rfl (gk_code _ _ _ _)) (gw1 (i := 3) rfl (gk_initialized _)) cn_1 ds_1 (Nat.le_of_ble_eq_true rfl) (pfor pn_1)
theorem mk_5 : MOK 5 := mokI (y := ⟨RX0, "layAnew", "(I)V"⟩) (b := prog_2_method_6_code) (l := 2) (r := none) (k := 1) rfl (gw3 (i := 20) rfl (gk_code _ _ _ _)) (gw1 (i := 3) rfl (gk_initialized _)) cn_1 ds_5 (Nat.le_of_ble_eq_true rfl) (pfor pn_1)
theorem mk_6 : MOK 6 := mokI (y := ⟨RX0, "endMove", "(I)V"⟩) (b := prog_2_method_7_code) (l := 4) (r := none) (k := 1) rfl (gw2 (i := 233) rfl (gk_code _ _ _ _)) (gw1 (i := 3) rfl (gk_initialized _)) cn_1 ds_5 (Nat.le_of_ble_eq_true rfl) (pfor pn_1)
theorem mk_7 : MOK 7 := mokI (y := ⟨RX0, "told", "(I)I"⟩) (b := prog_2_method_8_code) (l := 2) (r := some .int) (k := 1) rfl (gw3 (i := 188) rfl (gk_code _ _ _ _)) (gw1 (i := 3) rfl (gk_initialized _)) cn_1 ds_3 (Nat.le_of_ble_eq_true rfl) (pfor pn_1)
theorem mk_8 : MOK 8 := mokI (y := ⟨RX1, "<init>", "()V"⟩) (b := prog_3_method_1_code) (l := 1) (r := none) (k := 0) rfl (gw1 (i := 185) rfl (gk_code _ _ _ _)) (gw1 (i := 6) rfl (gk_initialized _)) cn_2 ds_1 (Nat.le_of_ble_eq_true rfl) (pfor pn_2)
theorem mk_9 : MOK 9 := mokI (y := ⟨RX1, "begin", "(I)V"⟩) (b := prog_3_method_2_code) (l := 3) (r := none) (k := 1) rfl (gw2 (i := 134) rfl (gk_code _ _ _ _)) (gw1 (i := 6) rfl (gk_initialized _)) cn_2 ds_5 (Nat.le_of_ble_eq_true rfl) (pfor pn_2)
theorem mk_10 : MOK 10 := mokI (y := ⟨RX1, "number", "(I)I"⟩) (b := prog_3_method_3_code) (l := 2) (r := some .int) (k := 1) rfl (gw2 (i := 198) rfl (gk_code _ _ _ _)) (gw1 (i := 6) rfl (gk_initialized _)) cn_2 ds_3 (Nat.le_of_ble_eq_true rfl) (pfor pn_2)
theorem mk_11 : MOK 11 := mokI (y := ⟨RX1, "reaches", "(II)Z"⟩) (b := prog_3_method_4_code) (l := 4) (r := some .boolean) (k := 2) rfl (gw3 (i := 7) rfl (gk_code _ _ _ _)) (gw1 (i := 6) rfl (gk_initialized _)) cn_2 ds_10 (Nat.le_of_ble_eq_true rfl) (pfor pn_2)
theorem mk_12 : MOK 12 := mokI (y := ⟨RX1, "noteNumbers", "()V"⟩) (b := prog_3_method_5_code) (l := 1) (r := none) (k := 0) rfl (gw3 (i := 135) rfl (gk_code _ _ _ _)) (gw1 (i := 6) rfl (gk_initialized _)) cn_2 ds_1 (Nat.le_of_ble_eq_true rfl) (pfor pn_2)
theorem mk_13 : MOK 13 := mokI (y := ⟨RX1, "isAsNoted", "()Z"⟩) (b := prog_3_method_6_code) (l := 2) (r := some .boolean) (k := 0) rfl (gw3 (i := 140) rfl (gk_code _ _ _ _)) (gw1 (i := 6) rfl (gk_initialized _)) cn_2 ds_2 (Nat.le_of_ble_eq_true rfl) (pfor pn_2)
theorem mk_14 : MOK 14 := mokI (y := ⟨RX1, "append", "(I)V"⟩) (b := prog_3_method_7_code) (l := 2) (r := none) (k := 1) rfl (gw2 (i := 139) rfl (gk_code _ _ _ _)) (gw1 (i := 6) rfl (gk_initialized _)) cn_2 ds_5 (Nat.le_of_ble_eq_true rfl) (pfor pn_2)
theorem mk_15 : MOK 15 := mokI (y := ⟨RX1, "addGreatest", "(I)V"⟩) (b := prog_3_method_8_code) (l := 2) (r := none) (k := 1) rfl (gw2 (i := 143) rfl (gk_code _ _ _ _)) (gw1 (i := 6) rfl (gk_initialized _)) cn_2 ds_5 (Nat.le_of_ble_eq_true rfl) (pfor pn_2)
theorem mk_16 : MOK 16 := mokI (y := ⟨RX1, "addShare", "(I)V"⟩) (b := prog_3_method_9_code) (l := 6) (r := none) (k := 1) rfl (gw2 (i := 147) rfl (gk_code _ _ _ _)) (gw1 (i := 6) rfl (gk_initialized _)) cn_2 ds_5 (Nat.le_of_ble_eq_true rfl) (pfor pn_2)
theorem mk_17 : MOK 17 := mokI (y := ⟨RX1, "addLine", "(I)V"⟩) (b := prog_3_method_10_code) (l := 4) (r := none) (k := 1) rfl (gw2 (i := 154) rfl (gk_code _ _ _ _)) (gw1 (i := 6) rfl (gk_initialized _)) cn_2 ds_5 (Nat.le_of_ble_eq_true rfl) (pfor pn_2)
theorem mk_18 : MOK 18 := mokI (y := ⟨RX1, "addRun", "(I)V"⟩) (b := prog_3_method_11_code) (l := 3) (r := none) (k := 1) rfl (gw2 (i := 161) rfl (gk_code _ _ _ _)) (gw1 (i := 6) rfl (gk_initialized _)) cn_2 ds_5 (Nat.le_of_ble_eq_true rfl) (pfor pn_2)
theorem mk_19 : MOK 19 := mokI (y := ⟨RX1, "addLetter", "(I)V"⟩) (b := prog_3_method_12_code) (l := 5) (r := none) (k := 1) rfl (gw2 (i := 168) rfl (gk_code _ _ _ _)) (gw1 (i := 6) rfl (gk_initialized _)) cn_2 ds_5 (Nat.le_of_ble_eq_true rfl) (pfor pn_2)
theorem mk_20 : MOK 20 := mokI (y := ⟨RX1, "addNest", "(I)V"⟩) (b := prog_3_method_13_code) (l := 2) (r := none) (k := 1) rfl (gw2 (i := 178) rfl (gk_code _ _ _ _)) (gw1 (i := 6) rfl (gk_initialized _)) cn_2 ds_5 (Nat.le_of_ble_eq_true rfl) (pfor pn_2)
theorem mk_21 : MOK 21 := mokI (y := ⟨RX1, "addLike", "(I)V"⟩) (b := prog_3_method_14_code) (l := 2) (r := none) (k := 1) rfl (gw2 (i := 182) rfl (gk_code _ _ _ _)) (gw1 (i := 6) rfl (gk_initialized _)) cn_2 ds_5 (Nat.le_of_ble_eq_true rfl) (pfor pn_2)
theorem mk_22 : MOK 22 := mokI (y := ⟨RX1, "addStep", "(I)V"⟩) (b := prog_3_method_15_code) (l := 5) (r := none) (k := 1) rfl (gw2 (i := 186) rfl (gk_code _ _ _ _)) (gw1 (i := 6) rfl (gk_initialized _)) cn_2 ds_5 (Nat.le_of_ble_eq_true rfl) (pfor pn_2)
theorem mk_23 : MOK 23 := mokI (y := ⟨RX1, "addSpread", "(I)V"⟩) (b := prog_3_method_16_code) (l := 2) (r := none) (k := 1) rfl (gw2 (i := 190) rfl (gk_code _ _ _ _)) (gw1 (i := 6) rfl (gk_initialized _)) cn_2 ds_5 (Nat.le_of_ble_eq_true rfl) (pfor pn_2)
theorem mk_24 : MOK 24 := mokI (y := ⟨RX1, "addElement", "(I)V"⟩) (b := prog_3_method_17_code) (l := 3) (r := none) (k := 1) rfl (gw2 (i := 194) rfl (gk_code _ _ _ _)) (gw1 (i := 6) rfl (gk_initialized _)) cn_2 ds_5 (Nat.le_of_ble_eq_true rfl) (pfor pn_2)
theorem mk_25 : MOK 25 := mokI (y := ⟨RX2, "<init>", "(I)V"⟩) (b := prog_4_method_1_code) (l := 2) (r := none) (k := 1) rfl (gw1 (i := 27) rfl (gk_code _ _ _ _)) (gw1 (i := 2) rfl (gk_initialized _)) cn_3 ds_5 (Nat.le_of_ble_eq_true rfl) (pfor pn_3)
theorem mk_26 : MOK 26 := mokI (y := ⟨RX2, "begin", "(IIII)V"⟩) (b := prog_4_method_2_code) (l := 5) (r := none) (k := 4) rfl (gw2 (i := 67) rfl (gk_code _ _ _ _)) (gw1 (i := 2) rfl (gk_initialized _)) cn_3 ds_15 (Nat.le_of_ble_eq_true rfl) (pfor pn_3)
theorem mk_27 : MOK 27 := mokI (y := ⟨RX2, "copyFrom", "(LSlideFold$Lane;)V"⟩) (b := prog_4_method_3_code) (l := 2) (r := none) (k := 1) rfl (gw4 (i := 40) rfl (gk_code _ _ _ _)) (gw1 (i := 2) rfl (gk_initialized _)) cn_3 ds_22 (Nat.le_of_ble_eq_true rfl) (pfor pn_3)
theorem mk_28 : MOK 28 := mokI (y := ⟨RX2, "hasNumber", "(I)Z"⟩) (b := prog_4_method_4_code) (l := 2) (r := some .boolean) (k := 1) rfl (gw3 (i := 80) rfl (gk_code _ _ _ _)) (gw1 (i := 2) rfl (gk_initialized _)) cn_3 ds_6 (Nat.le_of_ble_eq_true rfl) (pfor pn_3)
theorem mk_29 : MOK 29 := mokI (y := ⟨RX2, "isFull", "()Z"⟩) (b := prog_4_method_5_code) (l := 1) (r := some .boolean) (k := 0) rfl (gw2 (i := 114) rfl (gk_code _ _ _ _)) (gw1 (i := 2) rfl (gk_initialized _)) cn_3 ds_2 (Nat.le_of_ble_eq_true rfl) (pfor pn_3)
theorem mk_30 : MOK 30 := mokI (y := ⟨RX2, "isTooLate", "(I)Z"⟩) (b := prog_4_method_6_code) (l := 2) (r := some .boolean) (k := 1) rfl (gw2 (i := 110) rfl (gk_code _ _ _ _)) (gw1 (i := 2) rfl (gk_initialized _)) cn_3 ds_6 (Nat.le_of_ble_eq_true rfl) (pfor pn_3)
theorem mk_31 : MOK 31 := mokI (y := ⟨RX2, "heldUntil", "(J)I"⟩) (b := prog_4_method_7_code) (l := 4) (r := some .int) (k := 1) rfl (gw2 (i := 213) rfl (gk_code _ _ _ _)) (gw1 (i := 2) rfl (gk_initialized _)) cn_3 ds_20 (Nat.le_of_ble_eq_true rfl) (pfor pn_3)
theorem mk_32 : MOK 32 := mokI (y := ⟨RX2, "startsSession", "(II)Z"⟩) (b := prog_4_method_8_code) (l := 3) (r := some .boolean) (k := 2) rfl (gw2 (i := 122) rfl (gk_code _ _ _ _)) (gw1 (i := 2) rfl (gk_initialized _)) cn_3 ds_10 (Nat.le_of_ble_eq_true rfl) (pfor pn_3)
theorem mk_33 : MOK 33 := mokI (y := ⟨RX2, "goes", "(III)Z"⟩) (b := prog_4_method_9_code) (l := 4) (r := some .boolean) (k := 3) rfl (gw3 (i := 24) rfl (gk_code _ _ _ _)) (gw1 (i := 2) rfl (gk_initialized _)) cn_3 ds_13 (Nat.le_of_ble_eq_true rfl) (pfor pn_3)
theorem mk_34 : MOK 34 := mokI (y := ⟨RX2, "insert", "(III)V"⟩) (b := prog_4_method_10_code) (l := 4) (r := none) (k := 3) rfl (gw2 (i := 217) rfl (gk_code _ _ _ _)) (gw1 (i := 2) rfl (gk_initialized _)) cn_3 ds_12 (Nat.le_of_ble_eq_true rfl) (pfor pn_3)
theorem mk_35 : MOK 35 := mokI (y := ⟨RX2, "remove", "(I)V"⟩) (b := prog_4_method_11_code) (l := 2) (r := none) (k := 1) rfl (gw3 (i := 32) rfl (gk_code _ _ _ _)) (gw1 (i := 2) rfl (gk_initialized _)) cn_3 ds_5 (Nat.le_of_ble_eq_true rfl) (pfor pn_3)
theorem mk_36 : MOK 36 := mokI (y := ⟨RX2, "shift", "(III)V"⟩) (b := prog_4_method_12_code) (l := 4) (r := none) (k := 3) rfl (gw2 (i := 221) rfl (gk_code _ _ _ _)) (gw1 (i := 2) rfl (gk_initialized _)) cn_3 ds_12 (Nat.le_of_ble_eq_true rfl) (pfor pn_3)
theorem mk_37 : MOK 37 := mokI (y := ⟨RX2, "told", "(I)I"⟩) (b := prog_4_method_13_code) (l := 2) (r := some .int) (k := 1) rfl (gw3 (i := 208) rfl (gk_code _ _ _ _)) (gw1 (i := 2) rfl (gk_initialized _)) cn_3 ds_3 (Nat.le_of_ble_eq_true rfl) (pfor pn_3)
theorem mk_38 : MOK 38 := mokI (y := ⟨RX3, "<init>", "()V"⟩) (b := prog_5_method_1_code) (l := 1) (r := none) (k := 0) rfl (gw1 (i := 131) rfl (gk_code _ _ _ _)) (gw1 (i := 4) rfl (gk_initialized _)) cn_4 ds_1 (Nat.le_of_ble_eq_true rfl) (pfor pn_4)
theorem mk_39 : MOK 39 := mokI (y := ⟨RX3, "begin", "(III)V"⟩) (b := prog_5_method_2_code) (l := 4) (r := none) (k := 3) rfl (gw4 (i := 0) rfl (gk_code _ _ _ _)) (gw1 (i := 4) rfl (gk_initialized _)) cn_4 ds_12 (Nat.le_of_ble_eq_true rfl) (pfor pn_4)
theorem mk_40 : MOK 40 := mokI (y := ⟨RX3, "end", "()V"⟩) (b := prog_5_method_3_code) (l := 1) (r := none) (k := 0) rfl (gw2 (i := 83) rfl (gk_code _ _ _ _)) (gw1 (i := 4) rfl (gk_initialized _)) cn_4 ds_1 (Nat.le_of_ble_eq_true rfl) (pfor pn_4)
theorem mk_41 : MOK 41 := mokI (y := ⟨RX3, "told", "(I)I"⟩) (b := prog_5_method_4_code) (l := 2) (r := some .int) (k := 1) rfl (gw4 (i := 12) rfl (gk_code _ _ _ _)) (gw1 (i := 4) rfl (gk_initialized _)) cn_4 ds_3 (Nat.le_of_ble_eq_true rfl) (pfor pn_4)
theorem mk_42 : MOK 42 := mokI (y := ⟨RX4, "<init>", "()V"⟩) (b := prog_6_method_1_code) (l := 1) (r := none) (k := 0) rfl (gw1 (i := 155) rfl (gk_code _ _ _ _)) (gw1 (i := 5) rfl (gk_initialized _)) cn_5 ds_1 (Nat.le_of_ble_eq_true rfl) (pfor pn_5)
theorem mk_43 : MOK 43 := mokI (y := ⟨RX4, "begin", "(IIIZ)V"⟩) (b := prog_6_method_2_code) (l := 5) (r := none) (k := 4) rfl (gw3 (i := 216) rfl (gk_code _ _ _ _)) (gw1 (i := 5) rfl (gk_initialized _)) cn_5 ds_18 (Nat.le_of_ble_eq_true rfl) (pfor pn_5)
theorem mk_44 : MOK 44 := mokI (y := ⟨RX4, "note", "(ZI)V"⟩) (b := prog_6_method_3_code) (l := 3) (r := none) (k := 2) rfl (gw3 (i := 12) rfl (gk_code _ _ _ _)) (gw1 (i := 5) rfl (gk_initialized _)) cn_5 ds_29 (Nat.le_of_ble_eq_true rfl) (pfor pn_5)
theorem mk_45 : MOK 45 := mokI (y := ⟨RX4, "end", "()V"⟩) (b := prog_6_method_4_code) (l := 1) (r := none) (k := 0) rfl (gw2 (i := 79) rfl (gk_code _ _ _ _)) (gw1 (i := 5) rfl (gk_initialized _)) cn_5 ds_1 (Nat.le_of_ble_eq_true rfl) (pfor pn_5)
theorem mk_46 : MOK 46 := mokI (y := ⟨RX5, "<init>", "()V"⟩) (b := prog_1_method_1_code) (l := 2) (r := none) (k := 0) rfl (gw1 (i := 16) rfl (gk_code _ _ _ _)) (gw1 (i := 1) rfl (gk_initialized _)) cn_0 ds_1 (Nat.le_of_ble_eq_true rfl) (pfor pn_0)
theorem mk_47 : MOK 47 := mokI (y := ⟨RX5, "table", "(II)Z"⟩) (b := prog_1_method_2_code) (l := 3) (r := some .boolean) (k := 2) rfl (gw2 (i := 9) rfl (gk_code _ _ _ _)) (gw1 (i := 1) rfl (gk_initialized _)) cn_0 ds_10 (Nat.le_of_ble_eq_true rfl) (pfor pn_0)
theorem mk_48 : MOK 48 := mokI (y := ⟨RX5, "letter", "(II)Z"⟩) (b := prog_1_method_3_code) (l := 3) (r := some .boolean) (k := 2) rfl (gw2 (i := 20) rfl (gk_code _ _ _ _)) (gw1 (i := 1) rfl (gk_initialized _)) cn_0 ds_10 (Nat.le_of_ble_eq_true rfl) (pfor pn_0)
theorem mk_49 : MOK 49 := mokI (y := ⟨RX5, "triple", "(I)I"⟩) (b := prog_1_method_4_code) (l := 5) (r := some .int) (k := 1) rfl (gw2 (i := 24) rfl (gk_code _ _ _ _)) (gw1 (i := 1) rfl (gk_initialized _)) cn_0 ds_3 (Nat.le_of_ble_eq_true rfl) (pfor pn_0)
theorem mk_50 : MOK 50 := mokI (y := ⟨RX5, "element", "(I)I"⟩) (b := prog_1_method_5_code) (l := 2) (r := some .int) (k := 1) rfl (gw2 (i := 36) rfl (gk_code _ _ _ _)) (gw1 (i := 1) rfl (gk_initialized _)) cn_0 ds_3 (Nat.le_of_ble_eq_true rfl) (pfor pn_0)
theorem mk_51 : MOK 51 := mokI (y := ⟨RX5, "product", "(II)I"⟩) (b := prog_1_method_6_code) (l := 3) (r := some .int) (k := 2) rfl (gw2 (i := 32) rfl (gk_code _ _ _ _)) (gw1 (i := 1) rfl (gk_initialized _)) cn_0 ds_7 (Nat.le_of_ble_eq_true rfl) (pfor pn_0)
theorem mk_52 : MOK 52 := mokI (y := ⟨RX5, "associates", "(III)Z"⟩) (b := prog_1_method_7_code) (l := 4) (r := some .boolean) (k := 3) rfl (gw2 (i := 28) rfl (gk_code _ _ _ _)) (gw1 (i := 1) rfl (gk_initialized _)) cn_0 ds_13 (Nat.le_of_ble_eq_true rfl) (pfor pn_0)
theorem mk_53 : MOK 53 := mokI (y := ⟨RX5, "firstNeutral", "()I"⟩) (b := prog_1_method_8_code) (l := 4) (r := some .int) (k := 0) rfl (gw2 (i := 40) rfl (gk_code _ _ _ _)) (gw1 (i := 1) rfl (gk_initialized _)) cn_0 ds_0 (Nat.le_of_ble_eq_true rfl) (pfor pn_0)
theorem mk_54 : MOK 54 := mokI (y := ⟨RX5, "firstAbsorbing", "()I"⟩) (b := prog_1_method_9_code) (l := 4) (r := some .int) (k := 0) rfl (gw2 (i := 44) rfl (gk_code _ _ _ _)) (gw1 (i := 1) rfl (gk_initialized _)) cn_0 ds_0 (Nat.le_of_ble_eq_true rfl) (pfor pn_0)
theorem mk_55 : MOK 55 := mokI (y := ⟨RX5, "idempotents", "()I"⟩) (b := prog_1_method_10_code) (l := 3) (r := some .int) (k := 0) rfl (gw2 (i := 48) rfl (gk_code _ _ _ _)) (gw1 (i := 1) rfl (gk_initialized _)) cn_0 ds_0 (Nat.le_of_ble_eq_true rfl) (pfor pn_0)
theorem mk_56 : MOK 56 := mokI (y := ⟨RX5, "commutingPairs", "()I"⟩) (b := prog_1_method_11_code) (l := 4) (r := some .int) (k := 0) rfl (gw2 (i := 52) rfl (gk_code _ _ _ _)) (gw1 (i := 1) rfl (gk_initialized _)) cn_0 ds_0 (Nat.le_of_ble_eq_true rfl) (pfor pn_0)
theorem mk_57 : MOK 57 := mokI (y := ⟨RX5, "isUsed", "(I)Z"⟩) (b := prog_1_method_12_code) (l := 3) (r := some .boolean) (k := 1) rfl (gw2 (i := 16) rfl (gk_code _ _ _ _)) (gw1 (i := 1) rfl (gk_initialized _)) cn_0 ds_6 (Nat.le_of_ble_eq_true rfl) (pfor pn_0)
theorem mk_58 : MOK 58 := mokI (y := ⟨RX5, "open", "(IIIII)I"⟩) (b := prog_1_method_13_code) (l := 6) (r := some .int) (k := 5) rfl (gw2 (i := 56) rfl (gk_code _ _ _ _)) (gw1 (i := 1) rfl (gk_initialized _)) cn_0 ds_17 (Nat.le_of_ble_eq_true rfl) (pfor pn_0)
theorem mk_59 : MOK 59 := mokI (y := ⟨RX5, "isSize", "(II)Z"⟩) (b := prog_1_method_14_code) (l := 2) (r := some .boolean) (k := 2) rfl (gw2 (i := 62) rfl (gk_code _ _ _ _)) (gw1 (i := 1) rfl (gk_initialized _)) cn_0 ds_10 (Nat.le_of_ble_eq_true rfl) (pfor pn_0)
theorem mk_60 : MOK 60 := mokI (y := ⟨RX5, "shut", "(I)Z"⟩) (b := prog_1_method_15_code) (l := 3) (r := some .boolean) (k := 1) rfl (gw2 (i := 91) rfl (gk_code _ _ _ _)) (gw1 (i := 1) rfl (gk_initialized _)) cn_0 ds_6 (Nat.le_of_ble_eq_true rfl) (pfor pn_0)
theorem mk_61 : MOK 61 := mokI (y := ⟨RX5, "come", "(III)I"⟩) (b := prog_1_method_16_code) (l := 5) (r := some .int) (k := 3) rfl (gw2 (i := 99) rfl (gk_code _ _ _ _)) (gw1 (i := 1) rfl (gk_initialized _)) cn_0 ds_11 (Nat.le_of_ble_eq_true rfl) (pfor pn_0)
theorem mk_62 : MOK 62 := mokI (y := ⟨RX5, "burst", "(IIII)I"⟩) (b := prog_1_method_17_code) (l := 8) (r := some .int) (k := 4) rfl (gw3 (i := 44) rfl (gk_code _ _ _ _)) (gw1 (i := 1) rfl (gk_initialized _)) cn_0 ds_14 (Nat.le_of_ble_eq_true rfl) (pfor pn_0)
theorem mk_63 : MOK 63 := mokI (y := ⟨RX5, "leave", "(II)I"⟩) (b := prog_1_method_18_code) (l := 5) (r := some .int) (k := 2) rfl (gw3 (i := 48) rfl (gk_code _ _ _ _)) (gw1 (i := 1) rfl (gk_initialized _)) cn_0 ds_7 (Nat.le_of_ble_eq_true rfl) (pfor pn_0)
theorem mk_64 : MOK 64 := mokI (y := ⟨RX5, "until", "(II)I"⟩) (b := prog_1_method_19_code) (l := 6) (r := some .int) (k := 2) rfl (gw3 (i := 52) rfl (gk_code _ _ _ _)) (gw1 (i := 1) rfl (gk_initialized _)) cn_0 ds_7 (Nat.le_of_ble_eq_true rfl) (pfor pn_0)
theorem mk_65 : MOK 65 := mokI (y := ⟨RX5, "take", "(II)I"⟩) (b := prog_1_method_20_code) (l := 5) (r := some .int) (k := 2) rfl (gw3 (i := 56) rfl (gk_code _ _ _ _)) (gw1 (i := 1) rfl (gk_initialized _)) cn_0 ds_7 (Nat.le_of_ble_eq_true rfl) (pfor pn_0)
theorem mk_66 : MOK 66 := mokI (y := ⟨RX5, "alter", "(III)Z"⟩) (b := prog_1_method_21_code) (l := 5) (r := some .boolean) (k := 3) rfl (gw3 (i := 64) rfl (gk_code _ _ _ _)) (gw1 (i := 1) rfl (gk_initialized _)) cn_0 ds_13 (Nat.le_of_ble_eq_true rfl) (pfor pn_0)
theorem mk_67 : MOK 67 := mokI (y := ⟨RX5, "place", "(LSlideFold$Lane;II)V"⟩) (b := prog_1_method_22_code) (l := 7) (r := none) (k := 3) rfl (gw2 (i := 209) rfl (gk_code _ _ _ _)) (gw1 (i := 1) rfl (gk_initialized _)) cn_0 ds_25 (Nat.le_of_ble_eq_true rfl) (pfor pn_0)
theorem mk_68 : MOK 68 := mokI (y := ⟨RX5, "dropOldest", "(LSlideFold$Lane;)V"⟩) (b := prog_1_method_23_code) (l := 2) (r := none) (k := 1) rfl (gw3 (i := 28) rfl (gk_code _ _ _ _)) (gw1 (i := 1) rfl (gk_initialized _)) cn_0 ds_22 (Nat.le_of_ble_eq_true rfl) (pfor pn_0)
theorem mk_69 : MOK 69 := mokI (y := ⟨RX5, "layAnew", "(LSlideFold$Lane;)V"⟩) (b := prog_1_method_24_code) (l := 2) (r := none) (k := 1) rfl (gw3 (i := 16) rfl (gk_code _ _ _ _)) (gw1 (i := 1) rfl (gk_initialized _)) cn_0 ds_22 (Nat.le_of_ble_eq_true rfl) (pfor pn_0)
theorem mk_70 : MOK 70 := mokI (y := ⟨RX5, "give", "(LSlideFold$Lane;I)V"⟩) (b := prog_1_method_25_code) (l := 9) (r := none) (k := 2) rfl (gw2 (i := 118) rfl (gk_code _ _ _ _)) (gw1 (i := 1) rfl (gk_initialized _)) cn_0 ds_23 (Nat.le_of_ble_eq_true rfl) (pfor pn_0)
theorem mk_71 : MOK 71 := mokI (y := ⟨RX5, "noteMost", "()V"⟩) (b := prog_1_method_26_code) (l := 2) (r := none) (k := 0) rfl (gw3 (i := 40) rfl (gk_code _ _ _ _)) (gw1 (i := 1) rfl (gk_initialized _)) cn_0 ds_1 (Nat.le_of_ble_eq_true rfl) (pfor pn_0)
theorem mk_72 : MOK 72 := mokI (y := ⟨RX5, "event", "(III)I"⟩) (b := prog_1_method_27_code) (l := 5) (r := some .int) (k := 3) rfl (gw3 (i := 68) rfl (gk_code _ _ _ _)) (gw1 (i := 1) rfl (gk_initialized _)) cn_0 ds_11 (Nat.le_of_ble_eq_true rfl) (pfor pn_0)
theorem mk_73 : MOK 73 := mokI (y := ⟨RX5, "total", "(II)I"⟩) (b := prog_1_method_28_code) (l := 4) (r := some .int) (k := 2) rfl (gw3 (i := 72) rfl (gk_code _ _ _ _)) (gw1 (i := 1) rfl (gk_initialized _)) cn_0 ds_7 (Nat.le_of_ble_eq_true rfl) (pfor pn_0)
theorem mk_74 : MOK 74 := mokI (y := ⟨RX5, "part", "(IIII)I"⟩) (b := prog_1_method_29_code) (l := 6) (r := some .int) (k := 4) rfl (gw3 (i := 86) rfl (gk_code _ _ _ _)) (gw1 (i := 1) rfl (gk_initialized _)) cn_0 ds_14 (Nat.le_of_ble_eq_true rfl) (pfor pn_0)
theorem mk_75 : MOK 75 := mokI (y := ⟨RX5, "during", "(IIII)I"⟩) (b := prog_1_method_30_code) (l := 6) (r := some .int) (k := 4) rfl (gw3 (i := 90) rfl (gk_code _ _ _ _)) (gw1 (i := 1) rfl (gk_initialized _)) cn_0 ds_14 (Nat.le_of_ble_eq_true rfl) (pfor pn_0)
theorem mk_76 : MOK 76 := mokI (y := ⟨RX5, "many", "(III)I"⟩) (b := prog_1_method_31_code) (l := 5) (r := some .int) (k := 3) rfl (gw3 (i := 94) rfl (gk_code _ _ _ _)) (gw1 (i := 1) rfl (gk_initialized _)) cn_0 ds_11 (Nat.le_of_ble_eq_true rfl) (pfor pn_0)
theorem mk_77 : MOK 77 := mokI (y := ⟨RX5, "reach", "(III)I"⟩) (b := prog_1_method_32_code) (l := 6) (r := some .int) (k := 3) rfl (gw3 (i := 98) rfl (gk_code _ _ _ _)) (gw1 (i := 1) rfl (gk_initialized _)) cn_0 ds_11 (Nat.le_of_ble_eq_true rfl) (pfor pn_0)
theorem mk_78 : MOK 78 := mokI (y := ⟨RX5, "reachBack", "(III)I"⟩) (b := prog_1_method_33_code) (l := 6) (r := some .int) (k := 3) rfl (gw3 (i := 102) rfl (gk_code _ _ _ _)) (gw1 (i := 1) rfl (gk_initialized _)) cn_0 ds_11 (Nat.le_of_ble_eq_true rfl) (pfor pn_0)
theorem mk_79 : MOK 79 := mokI (y := ⟨RX5, "peak", "(III)I"⟩) (b := prog_1_method_34_code) (l := 5) (r := some .int) (k := 3) rfl (gw3 (i := 106) rfl (gk_code _ _ _ _)) (gw1 (i := 1) rfl (gk_initialized _)) cn_0 ds_11 (Nat.le_of_ble_eq_true rfl) (pfor pn_0)
theorem mk_80 : MOK 80 := mokI (y := ⟨RX5, "peakAt", "(III)I"⟩) (b := prog_1_method_35_code) (l := 9) (r := some .int) (k := 3) rfl (gw3 (i := 110) rfl (gk_code _ _ _ _)) (gw1 (i := 1) rfl (gk_initialized _)) cn_0 ds_11 (Nat.le_of_ble_eq_true rfl) (pfor pn_0)
theorem mk_81 : MOK 81 := mokI (y := ⟨RX5, "without", "(III)I"⟩) (b := prog_1_method_36_code) (l := 5) (r := some .int) (k := 3) rfl (gw3 (i := 115) rfl (gk_code _ _ _ _)) (gw1 (i := 1) rfl (gk_initialized _)) cn_0 ds_11 (Nat.le_of_ble_eq_true rfl) (pfor pn_0)
theorem mk_82 : MOK 82 := mokI (y := ⟨RX5, "spare", "(II)I"⟩) (b := prog_1_method_37_code) (l := 8) (r := some .int) (k := 2) rfl (gw3 (i := 123) rfl (gk_code _ _ _ _)) (gw1 (i := 1) rfl (gk_initialized _)) cn_0 ds_7 (Nat.le_of_ble_eq_true rfl) (pfor pn_0)
theorem mk_83 : MOK 83 := mokI (y := ⟨RX5, "turned", "(II)I"⟩) (b := prog_1_method_38_code) (l := 5) (r := some .int) (k := 2) rfl (gw3 (i := 127) rfl (gk_code _ _ _ _)) (gw1 (i := 1) rfl (gk_initialized _)) cn_0 ds_7 (Nat.le_of_ble_eq_true rfl) (pfor pn_0)
theorem mk_84 : MOK 84 := mokI (y := ⟨RX5, "commutes", "(II)I"⟩) (b := prog_1_method_39_code) (l := 6) (r := some .int) (k := 2) rfl (gw3 (i := 131) rfl (gk_code _ _ _ _)) (gw1 (i := 1) rfl (gk_initialized _)) cn_0 ds_7 (Nat.le_of_ble_eq_true rfl) (pfor pn_0)
theorem mk_85 : MOK 85 := mokI (y := ⟨RX5, "law", "(III)I"⟩) (b := prog_1_method_40_code) (l := 4) (r := some .int) (k := 3) rfl (gw3 (i := 144) rfl (gk_code _ _ _ _)) (gw1 (i := 1) rfl (gk_initialized _)) cn_0 ds_11 (Nat.le_of_ble_eq_true rfl) (pfor pn_0)
theorem mk_86 : MOK 86 := mokI (y := ⟨RX5, "joined", "(III)I"⟩) (b := prog_1_method_41_code) (l := 7) (r := some .int) (k := 3) rfl (gw3 (i := 149) rfl (gk_code _ _ _ _)) (gw1 (i := 1) rfl (gk_initialized _)) cn_0 ds_11 (Nat.le_of_ble_eq_true rfl) (pfor pn_0)
theorem mk_87 : MOK 87 := mokI (y := ⟨RX5, "woven", "(III)I"⟩) (b := prog_1_method_42_code) (l := 10) (r := some .int) (k := 3) rfl (gw3 (i := 153) rfl (gk_code _ _ _ _)) (gw1 (i := 1) rfl (gk_initialized _)) cn_0 ds_11 (Nat.le_of_ble_eq_true rfl) (pfor pn_0)
theorem mk_88 : MOK 88 := mokI (y := ⟨RX5, "same", "(II)I"⟩) (b := prog_1_method_43_code) (l := 5) (r := some .int) (k := 2) rfl (gw3 (i := 157) rfl (gk_code _ _ _ _)) (gw1 (i := 1) rfl (gk_initialized _)) cn_0 ds_7 (Nat.le_of_ble_eq_true rfl) (pfor pn_0)
theorem mk_89 : MOK 89 := mokI (y := ⟨RX5, "panes", "(II)I"⟩) (b := prog_1_method_44_code) (l := 8) (r := some .int) (k := 2) rfl (gw3 (i := 161) rfl (gk_code _ _ _ _)) (gw1 (i := 1) rfl (gk_initialized _)) cn_0 ds_7 (Nat.le_of_ble_eq_true rfl) (pfor pn_0)
theorem mk_90 : MOK 90 := mokI (y := ⟨RX5, "fullest", "(II)I"⟩) (b := prog_1_method_45_code) (l := 10) (r := some .int) (k := 2) rfl (gw3 (i := 165) rfl (gk_code _ _ _ _)) (gw1 (i := 1) rfl (gk_initialized _)) cn_0 ds_7 (Nat.le_of_ble_eq_true rfl) (pfor pn_0)
theorem mk_91 : MOK 91 := mokI (y := ⟨RX5, "sessions", "(II)I"⟩) (b := prog_1_method_46_code) (l := 6) (r := some .int) (k := 2) rfl (gw3 (i := 169) rfl (gk_code _ _ _ _)) (gw1 (i := 1) rfl (gk_initialized _)) cn_0 ds_7 (Nat.le_of_ble_eq_true rfl) (pfor pn_0)
theorem mk_92 : MOK 92 := mokI (y := ⟨RX5, "session", "(IIII)I"⟩) (b := prog_1_method_47_code) (l := 8) (r := some .int) (k := 4) rfl (gw3 (i := 176) rfl (gk_code _ _ _ _)) (gw1 (i := 1) rfl (gk_initialized _)) cn_0 ds_14 (Nat.le_of_ble_eq_true rfl) (pfor pn_0)
theorem mk_93 : MOK 93 := mokI (y := ⟨RX5, "longest", "(II)I"⟩) (b := prog_1_method_48_code) (l := 10) (r := some .int) (k := 2) rfl (gw3 (i := 180) rfl (gk_code _ _ _ _)) (gw1 (i := 1) rfl (gk_initialized _)) cn_0 ds_7 (Nat.le_of_ble_eq_true rfl) (pfor pn_0)
theorem mk_94 : MOK 94 := mokI (y := ⟨RX5, "state", "(II)I"⟩) (b := prog_1_method_49_code) (l := 4) (r := some .int) (k := 2) rfl (gw3 (i := 184) rfl (gk_code _ _ _ _)) (gw1 (i := 1) rfl (gk_initialized _)) cn_0 ds_7 (Nat.le_of_ble_eq_true rfl) (pfor pn_0)
theorem mk_95 : MOK 95 := mokI (y := ⟨RX5, "soon", "(II)I"⟩) (b := prog_1_method_50_code) (l := 5) (r := some .int) (k := 2) rfl (gw3 (i := 192) rfl (gk_code _ _ _ _)) (gw1 (i := 1) rfl (gk_initialized _)) cn_0 ds_7 (Nat.le_of_ble_eq_true rfl) (pfor pn_0)
theorem mk_96 : MOK 96 := mokI (y := ⟨RX5, "cost", "(III)I"⟩) (b := prog_1_method_51_code) (l := 6) (r := some .int) (k := 3) rfl (gw3 (i := 196) rfl (gk_code _ _ _ _)) (gw1 (i := 1) rfl (gk_initialized _)) cn_0 ds_11 (Nat.le_of_ble_eq_true rfl) (pfor pn_0)
theorem mk_97 : MOK 97 := mokI (y := ⟨RX5, "lane", "(II)I"⟩) (b := prog_1_method_52_code) (l := 4) (r := some .int) (k := 2) rfl (gw3 (i := 204) rfl (gk_code _ _ _ _)) (gw1 (i := 1) rfl (gk_initialized _)) cn_0 ds_7 (Nat.le_of_ble_eq_true rfl) (pfor pn_0)
theorem mk_98 : MOK 98 := mokI (y := ⟨RX5, "watch", "(IIII)I"⟩) (b := prog_1_method_53_code) (l := 7) (r := some .int) (k := 4) rfl (gw3 (i := 212) rfl (gk_code _ _ _ _)) (gw1 (i := 1) rfl (gk_initialized _)) cn_0 ds_14 (Nat.le_of_ble_eq_true rfl) (pfor pn_0)
theorem mk_99 : MOK 99 := mokI (y := ⟨RX5, "rings", "(I)I"⟩) (b := prog_1_method_54_code) (l := 2) (r := some .int) (k := 1) rfl (gw3 (i := 220) rfl (gk_code _ _ _ _)) (gw1 (i := 1) rfl (gk_initialized _)) cn_0 ds_3 (Nat.le_of_ble_eq_true rfl) (pfor pn_0)
theorem mk_100 : MOK 100 := mokI (y := ⟨RX5, "rang", "(I)I"⟩) (b := prog_1_method_55_code) (l := 2) (r := some .int) (k := 1) rfl (gw3 (i := 228) rfl (gk_code _ _ _ _)) (gw1 (i := 1) rfl (gk_initialized _)) cn_0 ds_3 (Nat.le_of_ble_eq_true rfl) (pfor pn_0)
theorem mk_101 : MOK 101 := mokI (y := ⟨RX5, "isTold", "(I)Z"⟩) (b := prog_1_method_56_code) (l := 2) (r := some .boolean) (k := 1) rfl (gw3 (i := 224) rfl (gk_code _ _ _ _)) (gw1 (i := 1) rfl (gk_initialized _)) cn_0 ds_6 (Nat.le_of_ble_eq_true rfl) (pfor pn_0)
theorem mk_102 : MOK 102 := mokI (y := ⟨RX5, "ringWatches", "(LSlideFold$Lane;)V"⟩) (b := prog_1_method_57_code) (l := 4) (r := none) (k := 1) rfl (gw2 (i := 239) rfl (gk_code _ _ _ _)) (gw1 (i := 1) rfl (gk_initialized _)) cn_0 ds_22 (Nat.le_of_ble_eq_true rfl) (pfor pn_0)
theorem mk_103 : MOK 103 := mokI (y := ⟨RX5, "isWatched", "(I)Z"⟩) (b := prog_1_method_58_code) (l := 3) (r := some .boolean) (k := 1) rfl (gw3 (i := 3) rfl (gk_code _ _ _ _)) (gw1 (i := 1) rfl (gk_initialized _)) cn_0 ds_6 (Nat.le_of_ble_eq_true rfl) (pfor pn_0)
theorem mk_104 : MOK 104 := mokI (y := ⟨RX5, "link", "(IIII)Z"⟩) (b := prog_1_method_59_code) (l := 6) (r := some .boolean) (k := 4) rfl (gw3 (i := 232) rfl (gk_code _ _ _ _)) (gw1 (i := 1) rfl (gk_initialized _)) cn_0 ds_16 (Nat.le_of_ble_eq_true rfl) (pfor pn_0)
theorem mk_105 : MOK 105 := mokI (y := ⟨RX5, "unlink", "(I)Z"⟩) (b := prog_1_method_60_code) (l := 2) (r := some .boolean) (k := 1) rfl (gw4 (i := 4) rfl (gk_code _ _ _ _)) (gw1 (i := 1) rfl (gk_initialized _)) cn_0 ds_6 (Nat.le_of_ble_eq_true rfl) (pfor pn_0)
theorem mk_106 : MOK 106 := mokI (y := ⟨RX5, "linked", "(II)I"⟩) (b := prog_1_method_61_code) (l := 3) (r := some .int) (k := 2) rfl (gw4 (i := 8) rfl (gk_code _ _ _ _)) (gw1 (i := 1) rfl (gk_initialized _)) cn_0 ds_7 (Nat.le_of_ble_eq_true rfl) (pfor pn_0)
theorem mk_107 : MOK 107 := mokI (y := ⟨RX5, "isLinkedTo", "(I)Z"⟩) (b := prog_1_method_62_code) (l := 3) (r := some .boolean) (k := 1) rfl (gw3 (i := 236) rfl (gk_code _ _ _ _)) (gw1 (i := 1) rfl (gk_initialized _)) cn_0 ds_6 (Nat.le_of_ble_eq_true rfl) (pfor pn_0)
theorem mk_108 : MOK 108 := mokI (y := ⟨RX5, "endTies", "(I)V"⟩) (b := prog_1_method_63_code) (l := 3) (r := none) (k := 1) rfl (gw2 (i := 75) rfl (gk_code _ _ _ _)) (gw1 (i := 1) rfl (gk_initialized _)) cn_0 ds_5 (Nat.le_of_ble_eq_true rfl) (pfor pn_0)
theorem mk_109 : MOK 109 := mokI (y := ⟨RX5, "shortest", "(IIII)I"⟩) (b := prog_1_method_64_code) (l := 10) (r := some .int) (k := 4) rfl (gw4 (i := 16) rfl (gk_code _ _ _ _)) (gw1 (i := 1) rfl (gk_initialized _)) cn_0 ds_14 (Nat.le_of_ble_eq_true rfl) (pfor pn_0)
theorem mk_110 : MOK 110 := mokI (y := ⟨RX5, "windows", "(IIII)I"⟩) (b := prog_1_method_65_code) (l := 10) (r := some .int) (k := 4) rfl (gw4 (i := 20) rfl (gk_code _ _ _ _)) (gw1 (i := 1) rfl (gk_initialized _)) cn_0 ds_14 (Nat.le_of_ble_eq_true rfl) (pfor pn_0)
theorem mk_111 : MOK 111 := mokI (y := ⟨RX5, "were", "(IIII)I"⟩) (b := prog_1_method_66_code) (l := 11) (r := some .int) (k := 4) rfl (gw4 (i := 24) rfl (gk_code _ _ _ _)) (gw1 (i := 1) rfl (gk_initialized _)) cn_0 ds_14 (Nat.le_of_ble_eq_true rfl) (pfor pn_0)
theorem mk_112 : MOK 112 := mokI (y := ⟨RX5, "parted", "(IIII)I"⟩) (b := prog_1_method_67_code) (l := 9) (r := some .int) (k := 4) rfl (gw4 (i := 28) rfl (gk_code _ _ _ _)) (gw1 (i := 1) rfl (gk_initialized _)) cn_0 ds_14 (Nat.le_of_ble_eq_true rfl) (pfor pn_0)
theorem mk_113 : MOK 113 := mokI (y := ⟨RX5, "partFrom", "(LSlideFold$Lane;III)V"⟩) (b := prog_1_method_68_code) (l := 9) (r := none) (k := 4) rfl (gw4 (i := 32) rfl (gk_code _ _ _ _)) (gw1 (i := 1) rfl (gk_initialized _)) cn_0 ds_27 (Nat.le_of_ble_eq_true rfl) (pfor pn_0)
theorem mk_114 : MOK 114 := mokI (y := ⟨RX5, "keep", "(II)I"⟩) (b := prog_1_method_69_code) (l := 4) (r := some .int) (k := 2) rfl (gw4 (i := 36) rfl (gk_code _ _ _ _)) (gw1 (i := 1) rfl (gk_initialized _)) cn_0 ds_7 (Nat.le_of_ble_eq_true rfl) (pfor pn_0)
theorem mk_115 : MOK 115 := mokI (y := ⟨RX5, "back", "(I)I"⟩) (b := prog_1_method_70_code) (l := 3) (r := some .int) (k := 1) rfl (gw4 (i := 45) rfl (gk_code _ _ _ _)) (gw1 (i := 1) rfl (gk_initialized _)) cn_0 ds_3 (Nat.le_of_ble_eq_true rfl) (pfor pn_0)
theorem mk_116 : MOK 116 := mokI (y := ⟨RX5, "about", "(I)I"⟩) (b := prog_1_method_71_code) (l := 2) (r := some .int) (k := 1) rfl (gw4 (i := 49) rfl (gk_code _ _ _ _)) (gw1 (i := 1) rfl (gk_initialized _)) cn_0 ds_3 (Nat.le_of_ble_eq_true rfl) (pfor pn_0)
theorem mk_117 : MOK 117 := mokI (y := ⟨RX5, "openLanes", "()I"⟩) (b := prog_1_method_72_code) (l := 3) (r := some .int) (k := 0) rfl (gw2 (i := 87) rfl (gk_code _ _ _ _)) (gw1 (i := 1) rfl (gk_initialized _)) cn_0 ds_0 (Nat.le_of_ble_eq_true rfl) (pfor pn_0)
theorem mk_118 : MOK 118 := mokI (y := ⟨RX5, "heldInAll", "()I"⟩) (b := prog_1_method_73_code) (l := 3) (r := some .int) (k := 0) rfl (gw4 (i := 53) rfl (gk_code _ _ _ _)) (gw1 (i := 1) rfl (gk_initialized _)) cn_0 ds_0 (Nat.le_of_ble_eq_true rfl) (pfor pn_0)
theorem mk_119 : MOK 119 := mokI (y := ⟨RX5, "spentInAll", "()I"⟩) (b := prog_1_method_74_code) (l := 3) (r := some .int) (k := 0) rfl (gw4 (i := 57) rfl (gk_code _ _ _ _)) (gw1 (i := 1) rfl (gk_initialized _)) cn_0 ds_0 (Nat.le_of_ble_eq_true rfl) (pfor pn_0)
theorem mk_120 : MOK 120 := mokI (y := ⟨RX5, "toldWatches", "()I"⟩) (b := prog_1_method_75_code) (l := 3) (r := some .int) (k := 0) rfl (gw4 (i := 61) rfl (gk_code _ _ _ _)) (gw1 (i := 1) rfl (gk_initialized _)) cn_0 ds_0 (Nat.le_of_ble_eq_true rfl) (pfor pn_0)
theorem mk_121 : MOK 121 := mokI (y := ⟨RX5, "fullBoxes", "()I"⟩) (b := prog_1_method_76_code) (l := 3) (r := some .int) (k := 0) rfl (gw4 (i := 65) rfl (gk_code _ _ _ _)) (gw1 (i := 1) rfl (gk_initialized _)) cn_0 ds_0 (Nat.le_of_ble_eq_true rfl) (pfor pn_0)
theorem mk_122 : MOK 122 := mokI (y := ⟨RX5, "ringsInAll", "()I"⟩) (b := prog_1_method_77_code) (l := 3) (r := some .int) (k := 0) rfl (gw4 (i := 69) rfl (gk_code _ _ _ _)) (gw1 (i := 1) rfl (gk_initialized _)) cn_0 ds_0 (Nat.le_of_ble_eq_true rfl) (pfor pn_0)
theorem mk_123 : MOK 123 := mokI (y := ⟨RX5, "linksInAll", "()I"⟩) (b := prog_1_method_78_code) (l := 3) (r := some .int) (k := 0) rfl (gw4 (i := 73) rfl (gk_code _ _ _ _)) (gw1 (i := 1) rfl (gk_initialized _)) cn_0 ds_0 (Nat.le_of_ble_eq_true rfl) (pfor pn_0)
theorem mk_124 : MOK 124 := mokI (y := ⟨RX5, "within", "(III)Z"⟩) (b := prog_1_method_79_code) (l := 3) (r := some .boolean) (k := 3) rfl (gw2 (i := 12) rfl (gk_code _ _ _ _)) (gw1 (i := 1) rfl (gk_initialized _)) cn_0 ds_13 (Nat.le_of_ble_eq_true rfl) (pfor pn_0)
theorem mk_125 : MOK 125 := mokI (y := ⟨RX5, "isLane", "(I)Z"⟩) (b := prog_1_method_80_code) (l := 1) (r := some .boolean) (k := 1) rfl (gw2 (i := 59) rfl (gk_code _ _ _ _)) (gw1 (i := 1) rfl (gk_initialized _)) cn_0 ds_6 (Nat.le_of_ble_eq_true rfl) (pfor pn_0)
theorem mk_126 : MOK 126 := mokI (y := ⟨RX5, "isTime", "(I)Z"⟩) (b := prog_1_method_81_code) (l := 1) (r := some .boolean) (k := 1) rfl (gw2 (i := 102) rfl (gk_code _ _ _ _)) (gw1 (i := 1) rfl (gk_initialized _)) cn_0 ds_6 (Nat.le_of_ble_eq_true rfl) (pfor pn_0)
theorem mk_127 : MOK 127 := mokI (y := ⟨RX5, "isValue", "(I)Z"⟩) (b := prog_1_method_82_code) (l := 1) (r := some .boolean) (k := 1) rfl (gw2 (i := 106) rfl (gk_code _ _ _ _)) (gw1 (i := 1) rfl (gk_initialized _)) cn_0 ds_6 (Nat.le_of_ble_eq_true rfl) (pfor pn_0)
theorem mk_128 : MOK 128 := mokI (y := ⟨RX5, "isGap", "(I)Z"⟩) (b := prog_1_method_83_code) (l := 1) (r := some .boolean) (k := 1) rfl (gw3 (i := 172) rfl (gk_code _ _ _ _)) (gw1 (i := 1) rfl (gk_initialized _)) cn_0 ds_6 (Nat.le_of_ble_eq_true rfl) (pfor pn_0)
theorem mk_129 : MOK 129 := mokI (y := ⟨RX5, "openLane", "(I)LSlideFold$Lane;"⟩) (b := prog_1_method_84_code) (l := 2) (r := some (.object "SlideFold$Lane")) (k := 1) rfl (gw2 (i := 95) rfl (gk_code _ _ _ _)) (gw1 (i := 1) rfl (gk_initialized _)) cn_0 ds_4 (Nat.le_of_ble_eq_true rfl) (pfor pn_0)
theorem mk_130 : MOK 130 := mokI (y := ⟨RX5, "laneWith", "(II)LSlideFold$Lane;"⟩) (b := prog_1_method_85_code) (l := 4) (r := some (.object "SlideFold$Lane")) (k := 2) rfl (gw3 (i := 76) rfl (gk_code _ _ _ _)) (gw1 (i := 1) rfl (gk_initialized _)) cn_0 ds_8 (Nat.le_of_ble_eq_true rfl) (pfor pn_0)
theorem mk_131 : MOK 131 := mokI (y := ⟨RX5, "laneHolding", "(II)LSlideFold$Lane;"⟩) (b := prog_1_method_86_code) (l := 4) (r := some (.object "SlideFold$Lane")) (k := 2) rfl (gw3 (i := 60) rfl (gk_code _ _ _ _)) (gw1 (i := 1) rfl (gk_initialized _)) cn_0 ds_8 (Nat.le_of_ble_eq_true rfl) (pfor pn_0)
theorem mk_132 : MOK 132 := mokI (y := ⟨RX5, "comesTo", "(LSlideFold$Lane;III)I"⟩) (b := prog_1_method_87_code) (l := 5) (r := some .int) (k := 4) rfl (gw2 (i := 126) rfl (gk_code _ _ _ _)) (gw1 (i := 1) rfl (gk_initialized _)) cn_0 ds_26 (Nat.le_of_ble_eq_true rfl) (pfor pn_0)
theorem mk_133 : MOK 133 := mokI (y := ⟨RX5, "comesToWithout", "(LSlideFold$Lane;II)I"⟩) (b := prog_1_method_88_code) (l := 5) (r := some .int) (k := 3) rfl (gw3 (i := 119) rfl (gk_code _ _ _ _)) (gw1 (i := 1) rfl (gk_initialized _)) cn_0 ds_24 (Nat.le_of_ble_eq_true rfl) (pfor pn_0)
theorem mk_134 : MOK 134 := mokI (y := ⟨RX5, "foldPart", "(LSlideFold$Lane;II)V"⟩) (b := prog_1_method_89_code) (l := 5) (r := none) (k := 3) rfl (gw2 (i := 130) rfl (gk_code _ _ _ _)) (gw1 (i := 1) rfl (gk_initialized _)) cn_0 ds_25 (Nat.le_of_ble_eq_true rfl) (pfor pn_0)
theorem mk_135 : MOK 135 := mokI (y := ⟨RX6, "<init>", "()V"⟩) (b := prog_8_method_1_code) (l := 2) (r := none) (k := 0) rfl (gw4 (i := 78) rfl (gk_code _ _ _ _)) (gw1 (i := 8) rfl (gk_initialized _)) cn_6 ds_1 (Nat.le_of_ble_eq_true rfl) (pfor pn_6)
theorem mk_136 : MOK 136 := mokI (y := ⟨RX6, "isIn", "(III)Z"⟩) (b := prog_8_method_2_code) (l := 3) (r := some .boolean) (k := 3) rfl (gw4 (i := 156) rfl (gk_code _ _ _ _)) (gw1 (i := 8) rfl (gk_initialized _)) cn_6 ds_13 (Nat.le_of_ble_eq_true rfl) (pfor pn_6)
theorem mk_137 : MOK 137 := mokI (y := ⟨RX6, "isLane", "(I)Z"⟩) (b := prog_8_method_3_code) (l := 2) (r := some .boolean) (k := 1) rfl (gw4 (i := 224) rfl (gk_code _ _ _ _)) (gw1 (i := 8) rfl (gk_initialized _)) cn_6 ds_6 (Nat.le_of_ble_eq_true rfl) (pfor pn_6)
theorem mk_138 : MOK 138 := mokI (y := ⟨RX6, "of", "(II)I"⟩) (b := prog_8_method_4_code) (l := 3) (r := some .int) (k := 2) rfl (gw4 (i := 164) rfl (gk_code _ _ _ _)) (gw1 (i := 8) rfl (gk_initialized _)) cn_6 ds_7 (Nat.le_of_ble_eq_true rfl) (pfor pn_6)
theorem mk_139 : MOK 139 := mokI (y := ⟨RX6, "set", "(III)V"⟩) (b := prog_8_method_5_code) (l := 4) (r := none) (k := 3) rfl (gw4 (i := 204) rfl (gk_code _ _ _ _)) (gw1 (i := 8) rfl (gk_initialized _)) cn_6 ds_12 (Nat.le_of_ble_eq_true rfl) (pfor pn_6)
theorem mk_140 : MOK 140 := mokI (y := ⟨RX6, "more", "(III)V"⟩) (b := prog_8_method_6_code) (l := 4) (r := none) (k := 3) rfl (gw5 (i := 130) rfl (gk_code _ _ _ _)) (gw1 (i := 8) rfl (gk_initialized _)) cn_6 ds_12 (Nat.le_of_ble_eq_true rfl) (pfor pn_6)
theorem mk_141 : MOK 141 := mokI (y := ⟨RX6, "heldOf", "(I)I"⟩) (b := prog_8_method_7_code) (l := 2) (r := some .int) (k := 1) rfl (gw5 (i := 19) rfl (gk_code _ _ _ _)) (gw1 (i := 8) rfl (gk_initialized _)) cn_6 ds_3 (Nat.le_of_ble_eq_true rfl) (pfor pn_6)
theorem mk_142 : MOK 142 := mokI (y := ⟨RX6, "isUsed", "(I)Z"⟩) (b := prog_8_method_8_code) (l := 3) (r := some .boolean) (k := 1) rfl (gw4 (i := 160) rfl (gk_code _ _ _ _)) (gw1 (i := 8) rfl (gk_initialized _)) cn_6 ds_6 (Nat.le_of_ble_eq_true rfl) (pfor pn_6)
theorem mk_143 : MOK 143 := mokI (y := ⟨RX6, "table", "(II)Z"⟩) (b := prog_8_method_9_code) (l := 3) (r := some .boolean) (k := 2) rfl (gw4 (i := 153) rfl (gk_code _ _ _ _)) (gw1 (i := 8) rfl (gk_initialized _)) cn_6 ds_10 (Nat.le_of_ble_eq_true rfl) (pfor pn_6)
theorem mk_144 : MOK 144 := mokI (y := ⟨RX6, "letter", "(II)Z"⟩) (b := prog_8_method_10_code) (l := 3) (r := some .boolean) (k := 2) rfl (gw4 (i := 168) rfl (gk_code _ _ _ _)) (gw1 (i := 8) rfl (gk_initialized _)) cn_6 ds_10 (Nat.le_of_ble_eq_true rfl) (pfor pn_6)
theorem mk_145 : MOK 145 := mokI (y := ⟨RX6, "product", "(II)I"⟩) (b := prog_8_method_11_code) (l := 3) (r := some .int) (k := 2) rfl (gw4 (i := 184) rfl (gk_code _ _ _ _)) (gw1 (i := 8) rfl (gk_initialized _)) cn_6 ds_7 (Nat.le_of_ble_eq_true rfl) (pfor pn_6)
theorem mk_146 : MOK 146 := mokI (y := ⟨RX6, "associates", "(I)Z"⟩) (b := prog_8_method_12_code) (l := 5) (r := some .boolean) (k := 1) rfl (gw4 (i := 180) rfl (gk_code _ _ _ _)) (gw1 (i := 8) rfl (gk_initialized _)) cn_6 ds_6 (Nat.le_of_ble_eq_true rfl) (pfor pn_6)
theorem mk_147 : MOK 147 := mokI (y := ⟨RX6, "firstThree", "()I"⟩) (b := prog_8_method_13_code) (l := 2) (r := some .int) (k := 0) rfl (gw4 (i := 188) rfl (gk_code _ _ _ _)) (gw1 (i := 8) rfl (gk_initialized _)) cn_6 ds_0 (Nat.le_of_ble_eq_true rfl) (pfor pn_6)
theorem mk_148 : MOK 148 := mokI (y := ⟨RX6, "triple", "(I)I"⟩) (b := prog_8_method_14_code) (l := 3) (r := some .int) (k := 1) rfl (gw4 (i := 172) rfl (gk_code _ _ _ _)) (gw1 (i := 8) rfl (gk_initialized _)) cn_6 ds_3 (Nat.le_of_ble_eq_true rfl) (pfor pn_6)
theorem mk_149 : MOK 149 := mokI (y := ⟨RX6, "countAssociating", "()I"⟩) (b := prog_8_method_15_code) (l := 3) (r := some .int) (k := 0) rfl (gw4 (i := 176) rfl (gk_code _ _ _ _)) (gw1 (i := 8) rfl (gk_initialized _)) cn_6 ds_0 (Nat.le_of_ble_eq_true rfl) (pfor pn_6)
theorem mk_150 : MOK 150 := mokI (y := ⟨RX6, "isSuch", "(II)Z"⟩) (b := prog_8_method_16_code) (l := 5) (r := some .boolean) (k := 2) rfl (gw4 (i := 196) rfl (gk_code _ _ _ _)) (gw1 (i := 8) rfl (gk_initialized _)) cn_6 ds_10 (Nat.le_of_ble_eq_true rfl) (pfor pn_6)
theorem mk_151 : MOK 151 := mokI (y := ⟨RX6, "element", "(I)I"⟩) (b := prog_8_method_17_code) (l := 4) (r := some .int) (k := 1) rfl (gw4 (i := 192) rfl (gk_code _ _ _ _)) (gw1 (i := 8) rfl (gk_initialized _)) cn_6 ds_3 (Nat.le_of_ble_eq_true rfl) (pfor pn_6)
theorem mk_152 : MOK 152 := mokI (y := ⟨RX6, "clearRow", "()V"⟩) (b := prog_8_method_18_code) (l := 1) (r := none) (k := 0) rfl (gw5 (i := 15) rfl (gk_code _ _ _ _)) (gw1 (i := 8) rfl (gk_initialized _)) cn_6 ds_1 (Nat.le_of_ble_eq_true rfl) (pfor pn_6)
theorem mk_153 : MOK 153 := mokI (y := ⟨RX6, "put", "(I)V"⟩) (b := prog_8_method_19_code) (l := 2) (r := none) (k := 1) rfl (gw5 (i := 27) rfl (gk_code _ _ _ _)) (gw1 (i := 8) rfl (gk_initialized _)) cn_6 ds_5 (Nat.le_of_ble_eq_true rfl) (pfor pn_6)
theorem mk_154 : MOK 154 := mokI (y := ⟨RX6, "putFrom", "(III)V"⟩) (b := prog_8_method_20_code) (l := 5) (r := none) (k := 3) rfl (gw5 (i := 23) rfl (gk_code _ _ _ _)) (gw1 (i := 8) rfl (gk_initialized _)) cn_6 ds_12 (Nat.le_of_ble_eq_true rfl) (pfor pn_6)
theorem mk_155 : MOK 155 := mokI (y := ⟨RX6, "layAll", "(I)V"⟩) (b := prog_8_method_21_code) (l := 2) (r := none) (k := 1) rfl (gw5 (i := 11) rfl (gk_code _ _ _ _)) (gw1 (i := 8) rfl (gk_initialized _)) cn_6 ds_5 (Nat.le_of_ble_eq_true rfl) (pfor pn_6)
theorem mk_156 : MOK 156 := mokI (y := ⟨RX6, "howMany", "(I)I"⟩) (b := prog_8_method_22_code) (l := 1) (r := some .int) (k := 1) rfl (gw5 (i := 3) rfl (gk_code _ _ _ _)) (gw1 (i := 8) rfl (gk_initialized _)) cn_6 ds_3 (Nat.le_of_ble_eq_true rfl) (pfor pn_6)
theorem mk_157 : MOK 157 := mokI (y := ⟨RX6, "isNumber", "(II)Z"⟩) (b := prog_8_method_23_code) (l := 3) (r := some .boolean) (k := 2) rfl (gw5 (i := 0) rfl (gk_code _ _ _ _)) (gw1 (i := 8) rfl (gk_initialized _)) cn_6 ds_10 (Nat.le_of_ble_eq_true rfl) (pfor pn_6)
theorem mk_158 : MOK 158 := mokI (y := ⟨RX6, "goThrough", "(I)V"⟩) (b := prog_8_method_24_code) (l := 2) (r := none) (k := 1) rfl (gw5 (i := 36) rfl (gk_code _ _ _ _)) (gw1 (i := 8) rfl (gk_initialized _)) cn_6 ds_5 (Nat.le_of_ble_eq_true rfl) (pfor pn_6)
theorem mk_159 : MOK 159 := mokI (y := ⟨RX6, "comes", "(II)I"⟩) (b := prog_8_method_25_code) (l := 3) (r := some .int) (k := 2) rfl (gw5 (i := 31) rfl (gk_code _ _ _ _)) (gw1 (i := 8) rfl (gk_initialized _)) cn_6 ds_7 (Nat.le_of_ble_eq_true rfl) (pfor pn_6)
theorem mk_160 : MOK 160 := mokI (y := ⟨RX6, "greatest", "()V"⟩) (b := prog_8_method_26_code) (l := 4) (r := none) (k := 0) rfl (gw5 (i := 40) rfl (gk_code _ _ _ _)) (gw1 (i := 8) rfl (gk_initialized _)) cn_6 ds_1 (Nat.le_of_ble_eq_true rfl) (pfor pn_6)
theorem mk_161 : MOK 161 := mokI (y := ⟨RX6, "share", "()V"⟩) (b := prog_8_method_27_code) (l := 6) (r := none) (k := 0) rfl (gw5 (i := 44) rfl (gk_code _ _ _ _)) (gw1 (i := 8) rfl (gk_initialized _)) cn_6 ds_1 (Nat.le_of_ble_eq_true rfl) (pfor pn_6)
theorem mk_162 : MOK 162 := mokI (y := ⟨RX6, "rest", "(II)I"⟩) (b := prog_8_method_28_code) (l := 3) (r := some .int) (k := 2) rfl (gw5 (i := 51) rfl (gk_code _ _ _ _)) (gw1 (i := 8) rfl (gk_initialized _)) cn_6 ds_7 (Nat.le_of_ble_eq_true rfl) (pfor pn_6)
theorem mk_163 : MOK 163 := mokI (y := ⟨RX6, "line", "()V"⟩) (b := prog_8_method_29_code) (l := 5) (r := none) (k := 0) rfl (gw5 (i := 48) rfl (gk_code _ _ _ _)) (gw1 (i := 8) rfl (gk_initialized _)) cn_6 ds_1 (Nat.le_of_ble_eq_true rfl) (pfor pn_6)
theorem mk_164 : MOK 164 := mokI (y := ⟨RX6, "run", "()V"⟩) (b := prog_8_method_30_code) (l := 8) (r := none) (k := 0) rfl (gw5 (i := 55) rfl (gk_code _ _ _ _)) (gw1 (i := 8) rfl (gk_initialized _)) cn_6 ds_1 (Nat.le_of_ble_eq_true rfl) (pfor pn_6)
theorem mk_165 : MOK 165 := mokI (y := ⟨RX6, "send", "()V"⟩) (b := prog_8_method_31_code) (l := 5) (r := none) (k := 0) rfl (gw5 (i := 59) rfl (gk_code _ _ _ _)) (gw1 (i := 8) rfl (gk_initialized _)) cn_6 ds_1 (Nat.le_of_ble_eq_true rfl) (pfor pn_6)
theorem mk_166 : MOK 166 := mokI (y := ⟨RX6, "bits", "(I)I"⟩) (b := prog_8_method_32_code) (l := 3) (r := some .int) (k := 1) rfl (gw5 (i := 62) rfl (gk_code _ _ _ _)) (gw1 (i := 8) rfl (gk_initialized _)) cn_6 ds_3 (Nat.le_of_ble_eq_true rfl) (pfor pn_6)
theorem mk_167 : MOK 167 := mokI (y := ⟨RX6, "nest", "()V"⟩) (b := prog_8_method_33_code) (l := 7) (r := none) (k := 0) rfl (gw5 (i := 66) rfl (gk_code _ _ _ _)) (gw1 (i := 8) rfl (gk_initialized _)) cn_6 ds_1 (Nat.le_of_ble_eq_true rfl) (pfor pn_6)
theorem mk_168 : MOK 168 := mokI (y := ⟨RX6, "alikeFrom", "(I)I"⟩) (b := prog_8_method_34_code) (l := 3) (r := some .int) (k := 1) rfl (gw5 (i := 74) rfl (gk_code _ _ _ _)) (gw1 (i := 8) rfl (gk_initialized _)) cn_6 ds_3 (Nat.le_of_ble_eq_true rfl) (pfor pn_6)
theorem mk_169 : MOK 169 := mokI (y := ⟨RX6, "like", "()V"⟩) (b := prog_8_method_35_code) (l := 6) (r := none) (k := 0) rfl (gw5 (i := 70) rfl (gk_code _ _ _ _)) (gw1 (i := 8) rfl (gk_initialized _)) cn_6 ds_1 (Nat.le_of_ble_eq_true rfl) (pfor pn_6)
theorem mk_170 : MOK 170 := mokI (y := ⟨RX6, "steps", "()V"⟩) (b := prog_8_method_36_code) (l := 6) (r := none) (k := 0) rfl (gw5 (i := 78) rfl (gk_code _ _ _ _)) (gw1 (i := 8) rfl (gk_initialized _)) cn_6 ds_1 (Nat.le_of_ble_eq_true rfl) (pfor pn_6)
theorem mk_171 : MOK 171 := mokI (y := ⟨RX6, "spread", "()V"⟩) (b := prog_8_method_37_code) (l := 5) (r := none) (k := 0) rfl (gw5 (i := 82) rfl (gk_code _ _ _ _)) (gw1 (i := 8) rfl (gk_initialized _)) cn_6 ds_1 (Nat.le_of_ble_eq_true rfl) (pfor pn_6)
theorem mk_172 : MOK 172 := mokI (y := ⟨RX6, "multiply", "()V"⟩) (b := prog_8_method_38_code) (l := 3) (r := none) (k := 0) rfl (gw5 (i := 86) rfl (gk_code _ _ _ _)) (gw1 (i := 8) rfl (gk_initialized _)) cn_6 ds_1 (Nat.le_of_ble_eq_true rfl) (pfor pn_6)
theorem mk_173 : MOK 173 := mokI (y := ⟨RX6, "isReached", "(II)Z"⟩) (b := prog_8_method_39_code) (l := 2) (r := some .boolean) (k := 2) rfl (gw5 (i := 89) rfl (gk_code _ _ _ _)) (gw1 (i := 8) rfl (gk_initialized _)) cn_6 ds_10 (Nat.le_of_ble_eq_true rfl) (pfor pn_6)
theorem mk_174 : MOK 174 := mokI (y := ⟨RX6, "open", "(IIIII)I"⟩) (b := prog_8_method_40_code) (l := 7) (r := some .int) (k := 5) rfl (gw4 (i := 200) rfl (gk_code _ _ _ _)) (gw1 (i := 8) rfl (gk_initialized _)) cn_6 ds_17 (Nat.le_of_ble_eq_true rfl) (pfor pn_6)
theorem mk_175 : MOK 175 := mokI (y := ⟨RX6, "openLanes", "()I"⟩) (b := prog_8_method_41_code) (l := 3) (r := some .int) (k := 0) rfl (gw4 (i := 216) rfl (gk_code _ _ _ _)) (gw1 (i := 8) rfl (gk_initialized _)) cn_6 ds_0 (Nat.le_of_ble_eq_true rfl) (pfor pn_6)
theorem mk_176 : MOK 176 := mokI (y := ⟨RX6, "shut", "(I)Z"⟩) (b := prog_8_method_42_code) (l := 2) (r := some .boolean) (k := 1) rfl (gw4 (i := 220) rfl (gk_code _ _ _ _)) (gw1 (i := 8) rfl (gk_initialized _)) cn_6 ds_6 (Nat.le_of_ble_eq_true rfl) (pfor pn_6)
theorem mk_177 : MOK 177 := mokI (y := ⟨RX6, "endMove", "(II)V"⟩) (b := prog_8_method_43_code) (l := 4) (r := none) (k := 2) rfl (gw5 (i := 162) rfl (gk_code _ _ _ _)) (gw1 (i := 8) rfl (gk_initialized _)) cn_6 ds_9 (Nat.le_of_ble_eq_true rfl) (pfor pn_6)
theorem mk_178 : MOK 178 := mokI (y := ⟨RX6, "goFlip", "(I)I"⟩) (b := prog_8_method_44_code) (l := 4) (r := some .int) (k := 1) rfl (gw5 (i := 166) rfl (gk_code _ _ _ _)) (gw1 (i := 8) rfl (gk_initialized _)) cn_6 ds_3 (Nat.le_of_ble_eq_true rfl) (pfor pn_6)
theorem mk_179 : MOK 179 := mokI (y := ⟨RX6, "layAnew", "(I)V"⟩) (b := prog_8_method_45_code) (l := 3) (r := none) (k := 1) rfl (gw5 (i := 174) rfl (gk_code _ _ _ _)) (gw1 (i := 8) rfl (gk_initialized _)) cn_6 ds_5 (Nat.le_of_ble_eq_true rfl) (pfor pn_6)
theorem mk_180 : MOK 180 := mokI (y := ⟨RX6, "state", "(II)I"⟩) (b := prog_8_method_46_code) (l := 3) (r := some .int) (k := 2) rfl (gw4 (i := 228) rfl (gk_code _ _ _ _)) (gw1 (i := 8) rfl (gk_initialized _)) cn_6 ds_7 (Nat.le_of_ble_eq_true rfl) (pfor pn_6)
theorem mk_181 : MOK 181 := mokI (y := ⟨RX6, "soon", "(II)I"⟩) (b := prog_8_method_47_code) (l := 3) (r := some .int) (k := 2) rfl (gw4 (i := 232) rfl (gk_code _ _ _ _)) (gw1 (i := 8) rfl (gk_initialized _)) cn_6 ds_7 (Nat.le_of_ble_eq_true rfl) (pfor pn_6)
theorem mk_182 : MOK 182 := mokI (y := ⟨RX6, "endWatches", "(I)V"⟩) (b := prog_8_method_48_code) (l := 3) (r := none) (k := 1) rfl (gw4 (i := 208) rfl (gk_code _ _ _ _)) (gw1 (i := 8) rfl (gk_initialized _)) cn_6 ds_5 (Nat.le_of_ble_eq_true rfl) (pfor pn_6)
theorem mk_183 : MOK 183 := mokI (y := ⟨RX6, "isTold", "(I)Z"⟩) (b := prog_8_method_49_code) (l := 2) (r := some .boolean) (k := 1) rfl (gw5 (i := 97) rfl (gk_code _ _ _ _)) (gw1 (i := 8) rfl (gk_initialized _)) cn_6 ds_6 (Nat.le_of_ble_eq_true rfl) (pfor pn_6)
theorem mk_184 : MOK 184 := mokI (y := ⟨RX6, "reachedNow", "(III)I"⟩) (b := prog_8_method_50_code) (l := 4) (r := some .int) (k := 3) rfl (gw5 (i := 7) rfl (gk_code _ _ _ _)) (gw1 (i := 8) rfl (gk_initialized _)) cn_6 ds_11 (Nat.le_of_ble_eq_true rfl) (pfor pn_6)
theorem mk_185 : MOK 185 := mokI (y := ⟨RX6, "look", "(I)V"⟩) (b := prog_8_method_51_code) (l := 4) (r := none) (k := 1) rfl (gw5 (i := 170) rfl (gk_code _ _ _ _)) (gw1 (i := 8) rfl (gk_initialized _)) cn_6 ds_5 (Nat.le_of_ble_eq_true rfl) (pfor pn_6)
theorem mk_186 : MOK 186 := mokI (y := ⟨RX6, "watch", "(IIII)I"⟩) (b := prog_8_method_52_code) (l := 5) (r := some .int) (k := 4) rfl (gw4 (i := 236) rfl (gk_code _ _ _ _)) (gw1 (i := 8) rfl (gk_initialized _)) cn_6 ds_14 (Nat.le_of_ble_eq_true rfl) (pfor pn_6)
theorem mk_187 : MOK 187 := mokI (y := ⟨RX6, "rings", "(I)I"⟩) (b := prog_8_method_53_code) (l := 2) (r := some .int) (k := 1) rfl (gw5 (i := 93) rfl (gk_code _ _ _ _)) (gw1 (i := 8) rfl (gk_initialized _)) cn_6 ds_3 (Nat.le_of_ble_eq_true rfl) (pfor pn_6)
theorem mk_188 : MOK 188 := mokI (y := ⟨RX6, "rang", "(I)I"⟩) (b := prog_8_method_54_code) (l := 2) (r := some .int) (k := 1) rfl (gw5 (i := 101) rfl (gk_code _ _ _ _)) (gw1 (i := 8) rfl (gk_initialized _)) cn_6 ds_3 (Nat.le_of_ble_eq_true rfl) (pfor pn_6)
theorem mk_189 : MOK 189 := mokI (y := ⟨RX6, "shift", "(IIZ)V"⟩) (b := prog_8_method_55_code) (l := 6) (r := none) (k := 3) rfl (gw5 (i := 154) rfl (gk_code _ _ _ _)) (gw1 (i := 8) rfl (gk_initialized _)) cn_6 ds_19 (Nat.le_of_ble_eq_true rfl) (pfor pn_6)
theorem mk_190 : MOK 190 := mokI (y := ⟨RX6, "copyEvent", "(II)V"⟩) (b := prog_8_method_56_code) (l := 3) (r := none) (k := 2) rfl (gw5 (i := 158) rfl (gk_code _ _ _ _)) (gw1 (i := 8) rfl (gk_initialized _)) cn_6 ds_9 (Nat.le_of_ble_eq_true rfl) (pfor pn_6)
theorem mk_191 : MOK 191 := mokI (y := ⟨RX6, "placeOf", "(II)I"⟩) (b := prog_8_method_57_code) (l := 4) (r := some .int) (k := 2) rfl (gw5 (i := 150) rfl (gk_code _ _ _ _)) (gw1 (i := 8) rfl (gk_initialized _)) cn_6 ds_7 (Nat.le_of_ble_eq_true rfl) (pfor pn_6)
theorem mk_192 : MOK 192 := mokI (y := ⟨RX6, "drop", "(I)V"⟩) (b := prog_8_method_58_code) (l := 2) (r := none) (k := 1) rfl (gw5 (i := 182) rfl (gk_code _ _ _ _)) (gw1 (i := 8) rfl (gk_initialized _)) cn_6 ds_5 (Nat.le_of_ble_eq_true rfl) (pfor pn_6)
theorem mk_193 : MOK 193 := mokI (y := ⟨RX6, "isTooMany", "(I)Z"⟩) (b := prog_8_method_59_code) (l := 2) (r := some .boolean) (k := 1) rfl (gw5 (i := 178) rfl (gk_code _ _ _ _)) (gw1 (i := 8) rfl (gk_initialized _)) cn_6 ds_6 (Nat.le_of_ble_eq_true rfl) (pfor pn_6)
theorem mk_194 : MOK 194 := mokI (y := ⟨RX6, "enter", "(III)V"⟩) (b := prog_8_method_60_code) (l := 7) (r := none) (k := 3) rfl (gw5 (i := 146) rfl (gk_code _ _ _ _)) (gw1 (i := 8) rfl (gk_initialized _)) cn_6 ds_12 (Nat.le_of_ble_eq_true rfl) (pfor pn_6)
theorem mk_195 : MOK 195 := mokI (y := ⟨RX6, "seeMost", "(I)V"⟩) (b := prog_8_method_61_code) (l := 2) (r := none) (k := 1) rfl (gw5 (i := 190) rfl (gk_code _ _ _ _)) (gw1 (i := 8) rfl (gk_initialized _)) cn_6 ds_5 (Nat.le_of_ble_eq_true rfl) (pfor pn_6)
theorem mk_196 : MOK 196 := mokI (y := ⟨RX6, "behindCall", "(I)I"⟩) (b := prog_8_method_62_code) (l := 2) (r := some .int) (k := 1) rfl (gw5 (i := 186) rfl (gk_code _ _ _ _)) (gw1 (i := 8) rfl (gk_initialized _)) cn_6 ds_3 (Nat.le_of_ble_eq_true rfl) (pfor pn_6)
theorem mk_197 : MOK 197 := mokI (y := ⟨RX6, "isLinkedTo", "(I)Z"⟩) (b := prog_8_method_63_code) (l := 3) (r := some .boolean) (k := 1) rfl (gw5 (i := 110) rfl (gk_code _ _ _ _)) (gw1 (i := 8) rfl (gk_initialized _)) cn_6 ds_6 (Nat.le_of_ble_eq_true rfl) (pfor pn_6)
theorem mk_198 : MOK 198 := mokI (y := ⟨RX6, "endLinks", "(I)V"⟩) (b := prog_8_method_64_code) (l := 3) (r := none) (k := 1) rfl (gw4 (i := 212) rfl (gk_code _ _ _ _)) (gw1 (i := 8) rfl (gk_initialized _)) cn_6 ds_5 (Nat.le_of_ble_eq_true rfl) (pfor pn_6)
theorem mk_199 : MOK 199 := mokI (y := ⟨RX6, "link", "(IIII)Z"⟩) (b := prog_8_method_65_code) (l := 5) (r := some .boolean) (k := 4) rfl (gw5 (i := 105) rfl (gk_code _ _ _ _)) (gw1 (i := 8) rfl (gk_initialized _)) cn_6 ds_16 (Nat.le_of_ble_eq_true rfl) (pfor pn_6)
theorem mk_200 : MOK 200 := mokI (y := ⟨RX6, "unlink", "(I)Z"⟩) (b := prog_8_method_66_code) (l := 2) (r := some .boolean) (k := 1) rfl (gw5 (i := 114) rfl (gk_code _ _ _ _)) (gw1 (i := 8) rfl (gk_initialized _)) cn_6 ds_6 (Nat.le_of_ble_eq_true rfl) (pfor pn_6)
theorem mk_201 : MOK 201 := mokI (y := ⟨RX6, "linked", "(II)I"⟩) (b := prog_8_method_67_code) (l := 3) (r := some .int) (k := 2) rfl (gw5 (i := 118) rfl (gk_code _ _ _ _)) (gw1 (i := 8) rfl (gk_initialized _)) cn_6 ds_7 (Nat.le_of_ble_eq_true rfl) (pfor pn_6)
theorem mk_202 : MOK 202 := mokI (y := ⟨RX6, "isLost", "(II)Z"⟩) (b := prog_8_method_68_code) (l := 3) (r := some .boolean) (k := 2) rfl (gw5 (i := 126) rfl (gk_code _ _ _ _)) (gw1 (i := 8) rfl (gk_initialized _)) cn_6 ds_10 (Nat.le_of_ble_eq_true rfl) (pfor pn_6)
theorem mk_203 : MOK 203 := mokI (y := ⟨RX6, "isFull", "(I)Z"⟩) (b := prog_8_method_69_code) (l := 2) (r := some .boolean) (k := 1) rfl (gw5 (i := 134) rfl (gk_code _ _ _ _)) (gw1 (i := 8) rfl (gk_initialized _)) cn_6 ds_6 (Nat.le_of_ble_eq_true rfl) (pfor pn_6)
theorem mk_204 : MOK 204 := mokI (y := ⟨RX6, "give", "(II)V"⟩) (b := prog_8_method_70_code) (l := 8) (r := none) (k := 2) rfl (gw5 (i := 138) rfl (gk_code _ _ _ _)) (gw1 (i := 8) rfl (gk_initialized _)) cn_6 ds_9 (Nat.le_of_ble_eq_true rfl) (pfor pn_6)
theorem mk_205 : MOK 205 := mokI (y := ⟨RX6, "come", "(III)I"⟩) (b := prog_8_method_71_code) (l := 4) (r := some .int) (k := 3) rfl (gw5 (i := 122) rfl (gk_code _ _ _ _)) (gw1 (i := 8) rfl (gk_initialized _)) cn_6 ds_11 (Nat.le_of_ble_eq_true rfl) (pfor pn_6)
theorem mk_206 : MOK 206 := mokI (y := ⟨RX6, "burst", "(IIII)I"⟩) (b := prog_8_method_72_code) (l := 7) (r := some .int) (k := 4) rfl (gw5 (i := 194) rfl (gk_code _ _ _ _)) (gw1 (i := 8) rfl (gk_initialized _)) cn_6 ds_14 (Nat.le_of_ble_eq_true rfl) (pfor pn_6)
theorem mk_207 : MOK 207 := mokI (y := ⟨RX6, "leave", "(II)I"⟩) (b := prog_8_method_73_code) (l := 4) (r := some .int) (k := 2) rfl (gw5 (i := 198) rfl (gk_code _ _ _ _)) (gw1 (i := 8) rfl (gk_initialized _)) cn_6 ds_7 (Nat.le_of_ble_eq_true rfl) (pfor pn_6)
theorem mk_208 : MOK 208 := mokI (y := ⟨RX6, "until", "(II)I"⟩) (b := prog_8_method_74_code) (l := 5) (r := some .int) (k := 2) rfl (gw5 (i := 202) rfl (gk_code _ _ _ _)) (gw1 (i := 8) rfl (gk_initialized _)) cn_6 ds_7 (Nat.le_of_ble_eq_true rfl) (pfor pn_6)
theorem mk_209 : MOK 209 := mokI (y := ⟨RX6, "isEvent", "(II)Z"⟩) (b := prog_8_method_75_code) (l := 3) (r := some .boolean) (k := 2) rfl (gw5 (i := 210) rfl (gk_code _ _ _ _)) (gw1 (i := 8) rfl (gk_initialized _)) cn_6 ds_10 (Nat.le_of_ble_eq_true rfl) (pfor pn_6)
theorem mk_210 : MOK 210 := mokI (y := ⟨RX6, "take", "(II)I"⟩) (b := prog_8_method_76_code) (l := 4) (r := some .int) (k := 2) rfl (gw5 (i := 206) rfl (gk_code _ _ _ _)) (gw1 (i := 8) rfl (gk_initialized _)) cn_6 ds_7 (Nat.le_of_ble_eq_true rfl) (pfor pn_6)
theorem mk_211 : MOK 211 := mokI (y := ⟨RX6, "alter", "(III)Z"⟩) (b := prog_8_method_77_code) (l := 4) (r := some .boolean) (k := 3) rfl (gw5 (i := 214) rfl (gk_code _ _ _ _)) (gw1 (i := 8) rfl (gk_initialized _)) cn_6 ds_13 (Nat.le_of_ble_eq_true rfl) (pfor pn_6)
theorem mk_212 : MOK 212 := mokI (y := ⟨RX6, "event", "(III)I"⟩) (b := prog_8_method_78_code) (l := 4) (r := some .int) (k := 3) rfl (gw5 (i := 218) rfl (gk_code _ _ _ _)) (gw1 (i := 8) rfl (gk_initialized _)) cn_6 ds_11 (Nat.le_of_ble_eq_true rfl) (pfor pn_6)
theorem mk_213 : MOK 213 := mokI (y := ⟨RX6, "comesFrom", "(IIII)I"⟩) (b := prog_8_method_79_code) (l := 5) (r := some .int) (k := 4) rfl (gw5 (i := 142) rfl (gk_code _ _ _ _)) (gw1 (i := 8) rfl (gk_initialized _)) cn_6 ds_14 (Nat.le_of_ble_eq_true rfl) (pfor pn_6)
theorem mk_214 : MOK 214 := mokI (y := ⟨RX6, "total", "(II)I"⟩) (b := prog_8_method_80_code) (l := 3) (r := some .int) (k := 2) rfl (gw5 (i := 222) rfl (gk_code _ _ _ _)) (gw1 (i := 8) rfl (gk_initialized _)) cn_6 ds_7 (Nat.le_of_ble_eq_true rfl) (pfor pn_6)
theorem mk_215 : MOK 215 := mokI (y := ⟨RX6, "part", "(IIII)I"⟩) (b := prog_8_method_81_code) (l := 5) (r := some .int) (k := 4) rfl (gw5 (i := 226) rfl (gk_code _ _ _ _)) (gw1 (i := 8) rfl (gk_initialized _)) cn_6 ds_14 (Nat.le_of_ble_eq_true rfl) (pfor pn_6)
theorem mk_216 : MOK 216 := mokI (y := ⟨RX6, "aheadOf", "(II)I"⟩) (b := prog_8_method_82_code) (l := 3) (r := some .int) (k := 2) rfl (gw5 (i := 234) rfl (gk_code _ _ _ _)) (gw1 (i := 8) rfl (gk_initialized _)) cn_6 ds_7 (Nat.le_of_ble_eq_true rfl) (pfor pn_6)
theorem mk_217 : MOK 217 := mokI (y := ⟨RX6, "during", "(IIII)I"⟩) (b := prog_8_method_83_code) (l := 7) (r := some .int) (k := 4) rfl (gw5 (i := 230) rfl (gk_code _ _ _ _)) (gw1 (i := 8) rfl (gk_initialized _)) cn_6 ds_14 (Nat.le_of_ble_eq_true rfl) (pfor pn_6)
theorem mk_218 : MOK 218 := mokI (y := ⟨RX6, "many", "(III)I"⟩) (b := prog_8_method_84_code) (l := 5) (r := some .int) (k := 3) rfl (gw5 (i := 238) rfl (gk_code _ _ _ _)) (gw1 (i := 8) rfl (gk_initialized _)) cn_6 ds_11 (Nat.le_of_ble_eq_true rfl) (pfor pn_6)
theorem mk_219 : MOK 219 := mokI (y := ⟨RX6, "reach", "(III)I"⟩) (b := prog_8_method_85_code) (l := 5) (r := some .int) (k := 3) rfl (gw6 (i := 2) rfl (gk_code _ _ _ _)) (gw1 (i := 8) rfl (gk_initialized _)) cn_6 ds_11 (Nat.le_of_ble_eq_true rfl) (pfor pn_6)
theorem mk_220 : MOK 220 := mokI (y := ⟨RX6, "reachBack", "(III)I"⟩) (b := prog_8_method_86_code) (l := 5) (r := some .int) (k := 3) rfl (gw6 (i := 6) rfl (gk_code _ _ _ _)) (gw1 (i := 8) rfl (gk_initialized _)) cn_6 ds_11 (Nat.le_of_ble_eq_true rfl) (pfor pn_6)
theorem mk_221 : MOK 221 := mokI (y := ⟨RX6, "bestOf", "(III)I"⟩) (b := prog_8_method_87_code) (l := 8) (r := some .int) (k := 3) rfl (gw6 (i := 14) rfl (gk_code _ _ _ _)) (gw1 (i := 8) rfl (gk_initialized _)) cn_6 ds_11 (Nat.le_of_ble_eq_true rfl) (pfor pn_6)
theorem mk_222 : MOK 222 := mokI (y := ⟨RX6, "peakAt", "(III)I"⟩) (b := prog_8_method_88_code) (l := 4) (r := some .int) (k := 3) rfl (gw6 (i := 10) rfl (gk_code _ _ _ _)) (gw1 (i := 8) rfl (gk_initialized _)) cn_6 ds_11 (Nat.le_of_ble_eq_true rfl) (pfor pn_6)
theorem mk_223 : MOK 223 := mokI (y := ⟨RX6, "peak", "(III)I"⟩) (b := prog_8_method_89_code) (l := 5) (r := some .int) (k := 3) rfl (gw6 (i := 18) rfl (gk_code _ _ _ _)) (gw1 (i := 8) rfl (gk_initialized _)) cn_6 ds_11 (Nat.le_of_ble_eq_true rfl) (pfor pn_6)
theorem mk_224 : MOK 224 := mokI (y := ⟨RX6, "comesWithout", "(III)I"⟩) (b := prog_8_method_90_code) (l := 4) (r := some .int) (k := 3) rfl (gw6 (i := 26) rfl (gk_code _ _ _ _)) (gw1 (i := 8) rfl (gk_initialized _)) cn_6 ds_11 (Nat.le_of_ble_eq_true rfl) (pfor pn_6)
theorem mk_225 : MOK 225 := mokI (y := ⟨RX6, "without", "(III)I"⟩) (b := prog_8_method_91_code) (l := 4) (r := some .int) (k := 3) rfl (gw6 (i := 22) rfl (gk_code _ _ _ _)) (gw1 (i := 8) rfl (gk_initialized _)) cn_6 ds_11 (Nat.le_of_ble_eq_true rfl) (pfor pn_6)
theorem mk_226 : MOK 226 := mokI (y := ⟨RX6, "spare", "(II)I"⟩) (b := prog_8_method_92_code) (l := 7) (r := some .int) (k := 2) rfl (gw6 (i := 30) rfl (gk_code _ _ _ _)) (gw1 (i := 8) rfl (gk_initialized _)) cn_6 ds_7 (Nat.le_of_ble_eq_true rfl) (pfor pn_6)
theorem mk_227 : MOK 227 := mokI (y := ⟨RX6, "turned", "(II)I"⟩) (b := prog_8_method_93_code) (l := 4) (r := some .int) (k := 2) rfl (gw6 (i := 34) rfl (gk_code _ _ _ _)) (gw1 (i := 8) rfl (gk_initialized _)) cn_6 ds_7 (Nat.le_of_ble_eq_true rfl) (pfor pn_6)
theorem mk_228 : MOK 228 := mokI (y := ⟨RX6, "keepNumbers", "(I)V"⟩) (b := prog_8_method_94_code) (l := 3) (r := none) (k := 1) rfl (gw6 (i := 42) rfl (gk_code _ _ _ _)) (gw1 (i := 8) rfl (gk_initialized _)) cn_6 ds_5 (Nat.le_of_ble_eq_true rfl) (pfor pn_6)
theorem mk_229 : MOK 229 := mokI (y := ⟨RX6, "areKept", "(I)Z"⟩) (b := prog_8_method_95_code) (l := 3) (r := some .boolean) (k := 1) rfl (gw6 (i := 46) rfl (gk_code _ _ _ _)) (gw1 (i := 8) rfl (gk_initialized _)) cn_6 ds_6 (Nat.le_of_ble_eq_true rfl) (pfor pn_6)
theorem mk_230 : MOK 230 := mokI (y := ⟨RX6, "commutes", "(II)I"⟩) (b := prog_8_method_96_code) (l := 4) (r := some .int) (k := 2) rfl (gw6 (i := 38) rfl (gk_code _ _ _ _)) (gw1 (i := 8) rfl (gk_initialized _)) cn_6 ds_7 (Nat.le_of_ble_eq_true rfl) (pfor pn_6)
theorem mk_231 : MOK 231 := mokI (y := ⟨RX6, "areAlike", "(II)Z"⟩) (b := prog_8_method_97_code) (l := 3) (r := some .boolean) (k := 2) rfl (gw6 (i := 54) rfl (gk_code _ _ _ _)) (gw1 (i := 8) rfl (gk_initialized _)) cn_6 ds_10 (Nat.le_of_ble_eq_true rfl) (pfor pn_6)
theorem mk_232 : MOK 232 := mokI (y := ⟨RX6, "joined", "(III)I"⟩) (b := prog_8_method_98_code) (l := 4) (r := some .int) (k := 3) rfl (gw6 (i := 50) rfl (gk_code _ _ _ _)) (gw1 (i := 8) rfl (gk_initialized _)) cn_6 ds_11 (Nat.le_of_ble_eq_true rfl) (pfor pn_6)
theorem mk_233 : MOK 233 := mokI (y := ⟨RX6, "woven", "(III)I"⟩) (b := prog_8_method_99_code) (l := 6) (r := some .int) (k := 3) rfl (gw6 (i := 58) rfl (gk_code _ _ _ _)) (gw1 (i := 8) rfl (gk_initialized _)) cn_6 ds_11 (Nat.le_of_ble_eq_true rfl) (pfor pn_6)
theorem mk_234 : MOK 234 := mokI (y := ⟨RX6, "same", "(II)I"⟩) (b := prog_8_method_100_code) (l := 3) (r := some .int) (k := 2) rfl (gw6 (i := 62) rfl (gk_code _ _ _ _)) (gw1 (i := 8) rfl (gk_initialized _)) cn_6 ds_7 (Nat.le_of_ble_eq_true rfl) (pfor pn_6)
theorem mk_235 : MOK 235 := mokI (y := ⟨RX6, "law", "(III)I"⟩) (b := prog_8_method_101_code) (l := 4) (r := some .int) (k := 3) rfl (gw6 (i := 66) rfl (gk_code _ _ _ _)) (gw1 (i := 8) rfl (gk_initialized _)) cn_6 ds_11 (Nat.le_of_ble_eq_true rfl) (pfor pn_6)
theorem mk_236 : MOK 236 := mokI (y := ⟨RX6, "layParts", "(II)V"⟩) (b := prog_8_method_102_code) (l := 5) (r := none) (k := 2) rfl (gw6 (i := 75) rfl (gk_code _ _ _ _)) (gw1 (i := 8) rfl (gk_initialized _)) cn_6 ds_9 (Nat.le_of_ble_eq_true rfl) (pfor pn_6)
theorem mk_237 : MOK 237 := mokI (y := ⟨RX6, "shortest", "(IIII)I"⟩) (b := prog_8_method_103_code) (l := 7) (r := some .int) (k := 4) rfl (gw6 (i := 71) rfl (gk_code _ _ _ _)) (gw1 (i := 8) rfl (gk_initialized _)) cn_6 ds_14 (Nat.le_of_ble_eq_true rfl) (pfor pn_6)
theorem mk_238 : MOK 238 := mokI (y := ⟨RX6, "windows", "(IIII)I"⟩) (b := prog_8_method_104_code) (l := 9) (r := some .int) (k := 4) rfl (gw6 (i := 79) rfl (gk_code _ _ _ _)) (gw1 (i := 8) rfl (gk_initialized _)) cn_6 ds_14 (Nat.le_of_ble_eq_true rfl) (pfor pn_6)
theorem mk_239 : MOK 239 := mokI (y := ⟨RX6, "layRow", "(III)V"⟩) (b := prog_8_method_105_code) (l := 8) (r := none) (k := 3) rfl (gw6 (i := 87) rfl (gk_code _ _ _ _)) (gw1 (i := 8) rfl (gk_initialized _)) cn_6 ds_12 (Nat.le_of_ble_eq_true rfl) (pfor pn_6)
theorem mk_240 : MOK 240 := mokI (y := ⟨RX6, "parted", "(IIII)I"⟩) (b := prog_8_method_106_code) (l := 7) (r := some .int) (k := 4) rfl (gw6 (i := 83) rfl (gk_code _ _ _ _)) (gw1 (i := 8) rfl (gk_initialized _)) cn_6 ds_14 (Nat.le_of_ble_eq_true rfl) (pfor pn_6)
theorem mk_241 : MOK 241 := mokI (y := ⟨RX6, "were", "(IIII)I"⟩) (b := prog_8_method_107_code) (l := 6) (r := some .int) (k := 4) rfl (gw6 (i := 91) rfl (gk_code _ _ _ _)) (gw1 (i := 8) rfl (gk_initialized _)) cn_6 ds_14 (Nat.le_of_ble_eq_true rfl) (pfor pn_6)
theorem mk_242 : MOK 242 := mokI (y := ⟨RX6, "cost", "(III)I"⟩) (b := prog_8_method_108_code) (l := 8) (r := some .int) (k := 3) rfl (gw6 (i := 99) rfl (gk_code _ _ _ _)) (gw1 (i := 8) rfl (gk_initialized _)) cn_6 ds_11 (Nat.le_of_ble_eq_true rfl) (pfor pn_6)
theorem mk_243 : MOK 243 := mokI (y := ⟨RX6, "isWidth", "(I)Z"⟩) (b := prog_8_method_109_code) (l := 2) (r := some .boolean) (k := 1) rfl (gw6 (i := 107) rfl (gk_code _ _ _ _)) (gw1 (i := 8) rfl (gk_initialized _)) cn_6 ds_6 (Nat.le_of_ble_eq_true rfl) (pfor pn_6)
theorem mk_244 : MOK 244 := mokI (y := ⟨RX6, "inPane", "(III)I"⟩) (b := prog_8_method_110_code) (l := 5) (r := some .int) (k := 3) rfl (gw6 (i := 111) rfl (gk_code _ _ _ _)) (gw1 (i := 8) rfl (gk_initialized _)) cn_6 ds_11 (Nat.le_of_ble_eq_true rfl) (pfor pn_6)
theorem mk_245 : MOK 245 := mokI (y := ⟨RX6, "panes", "(II)I"⟩) (b := prog_8_method_111_code) (l := 5) (r := some .int) (k := 2) rfl (gw6 (i := 103) rfl (gk_code _ _ _ _)) (gw1 (i := 8) rfl (gk_initialized _)) cn_6 ds_7 (Nat.le_of_ble_eq_true rfl) (pfor pn_6)
theorem mk_246 : MOK 246 := mokI (y := ⟨RX6, "fullest", "(II)I"⟩) (b := prog_8_method_112_code) (l := 6) (r := some .int) (k := 2) rfl (gw6 (i := 115) rfl (gk_code _ _ _ _)) (gw1 (i := 8) rfl (gk_initialized _)) cn_6 ds_7 (Nat.le_of_ble_eq_true rfl) (pfor pn_6)
theorem mk_247 : MOK 247 := mokI (y := ⟨RX6, "isGap", "(I)Z"⟩) (b := prog_8_method_113_code) (l := 2) (r := some .boolean) (k := 1) rfl (gw6 (i := 123) rfl (gk_code _ _ _ _)) (gw1 (i := 8) rfl (gk_initialized _)) cn_6 ds_6 (Nat.le_of_ble_eq_true rfl) (pfor pn_6)
theorem mk_248 : MOK 248 := mokI (y := ⟨RX6, "inSession", "(III)I"⟩) (b := prog_8_method_114_code) (l := 5) (r := some .int) (k := 3) rfl (gw6 (i := 127) rfl (gk_code _ _ _ _)) (gw1 (i := 8) rfl (gk_initialized _)) cn_6 ds_11 (Nat.le_of_ble_eq_true rfl) (pfor pn_6)
theorem mk_249 : MOK 249 := mokI (y := ⟨RX6, "sessions", "(II)I"⟩) (b := prog_8_method_115_code) (l := 5) (r := some .int) (k := 2) rfl (gw6 (i := 119) rfl (gk_code _ _ _ _)) (gw1 (i := 8) rfl (gk_initialized _)) cn_6 ds_7 (Nat.le_of_ble_eq_true rfl) (pfor pn_6)
theorem mk_250 : MOK 250 := mokI (y := ⟨RX6, "session", "(IIII)I"⟩) (b := prog_8_method_116_code) (l := 7) (r := some .int) (k := 4) rfl (gw6 (i := 131) rfl (gk_code _ _ _ _)) (gw1 (i := 8) rfl (gk_initialized _)) cn_6 ds_14 (Nat.le_of_ble_eq_true rfl) (pfor pn_6)
theorem mk_251 : MOK 251 := mokI (y := ⟨RX6, "longest", "(II)I"⟩) (b := prog_8_method_117_code) (l := 7) (r := some .int) (k := 2) rfl (gw6 (i := 135) rfl (gk_code _ _ _ _)) (gw1 (i := 8) rfl (gk_initialized _)) cn_6 ds_7 (Nat.le_of_ble_eq_true rfl) (pfor pn_6)
theorem mk_252 : MOK 252 := mokI (y := ⟨RX6, "lane", "(II)I"⟩) (b := prog_8_method_118_code) (l := 3) (r := some .int) (k := 2) rfl (gw6 (i := 139) rfl (gk_code _ _ _ _)) (gw1 (i := 8) rfl (gk_initialized _)) cn_6 ds_7 (Nat.le_of_ble_eq_true rfl) (pfor pn_6)
theorem mk_253 : MOK 253 := mokI (y := ⟨RX6, "copyLane", "(II)V"⟩) (b := prog_8_method_119_code) (l := 4) (r := none) (k := 2) rfl (gw6 (i := 95) rfl (gk_code _ _ _ _)) (gw1 (i := 8) rfl (gk_initialized _)) cn_6 ds_9 (Nat.le_of_ble_eq_true rfl) (pfor pn_6)
theorem mk_254 : MOK 254 := mokI (y := ⟨RX6, "keep", "(II)I"⟩) (b := prog_8_method_120_code) (l := 3) (r := some .int) (k := 2) rfl (gw6 (i := 143) rfl (gk_code _ _ _ _)) (gw1 (i := 8) rfl (gk_initialized _)) cn_6 ds_7 (Nat.le_of_ble_eq_true rfl) (pfor pn_6)
theorem mk_255 : MOK 255 := mokI (y := ⟨RX6, "back", "(I)I"⟩) (b := prog_8_method_121_code) (l := 3) (r := some .int) (k := 1) rfl (gw6 (i := 147) rfl (gk_code _ _ _ _)) (gw1 (i := 8) rfl (gk_initialized _)) cn_6 ds_3 (Nat.le_of_ble_eq_true rfl) (pfor pn_6)
theorem mk_256 : MOK 256 := mokI (y := ⟨RX6, "sumOf", "(I)I"⟩) (b := prog_8_method_122_code) (l := 4) (r := some .int) (k := 1) rfl (gw6 (i := 155) rfl (gk_code _ _ _ _)) (gw1 (i := 8) rfl (gk_initialized _)) cn_6 ds_3 (Nat.le_of_ble_eq_true rfl) (pfor pn_6)
theorem mk_257 : MOK 257 := mokI (y := ⟨RX6, "boxesNow", "()I"⟩) (b := prog_8_method_123_code) (l := 3) (r := some .int) (k := 0) rfl (gw6 (i := 163) rfl (gk_code _ _ _ _)) (gw1 (i := 8) rfl (gk_initialized _)) cn_6 ds_0 (Nat.le_of_ble_eq_true rfl) (pfor pn_6)
theorem mk_258 : MOK 258 := mokI (y := ⟨RX6, "toldNow", "(Z)I"⟩) (b := prog_8_method_124_code) (l := 4) (r := some .int) (k := 1) rfl (gw6 (i := 159) rfl (gk_code _ _ _ _)) (gw1 (i := 8) rfl (gk_initialized _)) cn_6 ds_28 (Nat.le_of_ble_eq_true rfl) (pfor pn_6)
theorem mk_259 : MOK 259 := mokI (y := ⟨RX6, "linksNow", "()I"⟩) (b := prog_8_method_125_code) (l := 3) (r := some .int) (k := 0) rfl (gw6 (i := 167) rfl (gk_code _ _ _ _)) (gw1 (i := 8) rfl (gk_initialized _)) cn_6 ds_0 (Nat.le_of_ble_eq_true rfl) (pfor pn_6)
theorem mk_260 : MOK 260 := mokI (y := ⟨RX6, "about", "(I)I"⟩) (b := prog_8_method_126_code) (l := 2) (r := some .int) (k := 1) rfl (gw6 (i := 151) rfl (gk_code _ _ _ _)) (gw1 (i := 8) rfl (gk_initialized _)) cn_6 ds_3 (Nat.le_of_ble_eq_true rfl) (pfor pn_6)
theorem mk_261 : MOK 261 := mokI (y := ⟨RJ6, "bitCount", "(I)I"⟩) (b := prog_9_method_49_code) (l := 1) (r := some .int) (k := 1) rfl (gw2 (i := 171) rfl (gk_code _ _ _ _)) (gw1 (i := 10) rfl (gk_initialized _)) cn_7 ds_3 (Nat.le_of_ble_eq_true rfl) (by decide +kernel)
theorem mk_262 : MOK 262 := mokI (y := ⟨RJ9, "floorMod", "(II)I"⟩) (b := prog_10_method_50_code) (l := 3) (r := some .int) (k := 2) rfl (gw2 (i := 157) rfl (gk_code _ _ _ _)) (gw1 (i := 9) rfl (gk_initialized _)) cn_8 ds_7 (Nat.le_of_ble_eq_true rfl) (by decide +kernel)
theorem mk_263 : MOK 263 := mokI (y := ⟨RJ9, "abs", "(I)I"⟩) (b := prog_10_method_59_code) (l := 1) (r := some .int) (k := 1) rfl (gw2 (i := 150) rfl (gk_code _ _ _ _)) (gw1 (i := 9) rfl (gk_initialized _)) cn_8 ds_3 (Nat.le_of_ble_eq_true rfl) (by decide +kernel)
theorem mk_264 : MOK 264 := mokI (y := ⟨RJ9, "max", "(II)I"⟩) (b := prog_10_method_65_code) (l := 2) (r := some .int) (k := 2) rfl (gw2 (i := 164) rfl (gk_code _ _ _ _)) (gw1 (i := 9) rfl (gk_initialized _)) cn_8 ds_7 (Nat.le_of_ble_eq_true rfl) (by decide +kernel)
theorem mk_265 : MOK 265 := mokI (y := ⟨RJ9, "min", "(II)I"⟩) (b := prog_10_method_69_code) (l := 2) (r := some .int) (k := 2) rfl (gw2 (i := 204) rfl (gk_code _ _ _ _)) (gw1 (i := 9) rfl (gk_initialized _)) cn_8 ds_7 (Nat.le_of_ble_eq_true rfl) (by decide +kernel)
theorem mk_266 : MOK 266 := mokI (y := ⟨RJ7, "fill", "([II)V"⟩) (b := prog_12_method_103_code) (l := 4) (r := none) (k := 2) rfl (gw1 (i := 189) rfl (gk_code _ _ _ _)) (gw1 (i := 7) rfl (gk_initialized _)) cn_9 ds_30 (Nat.le_of_ble_eq_true rfl) (by decide +kernel)
theorem il_RL_9 : ILk RL 9 46 := ⟨Or.inl (gw1 (i := 14) rfl (gk_methodLink _ _ _)), mk_46, gw1 (i := 15) rfl (gk_instanceMethod _), rfl, rfl⟩
theorem il_RX5_23 : ILk RX5 23 25 := ⟨Or.inl (gw1 (i := 25) rfl (gk_methodLink _ _ _)), mk_25, gw1 (i := 26) rfl (gk_instanceMethod _), rfl, rfl⟩
theorem il_RX2_27 : ILk RX2 27 0 := ⟨Or.inr ⟨"SlideFold", nw1 (i := 31) rfl rfl⟩, mk_0, gw1 (i := 32) rfl (gk_instanceMethod _), rfl, rfl⟩
theorem fl_RX0_9 : FLk RX0 9 0 0 .int := ⟨RX0, TX0, 7, tyX0, rfl, rfl, by decide, inG0, tyX0_ok, nmX0, rfl, rfl, Or.inl (gw1 (i := 35) rfl (gk_fieldLink _ _ _ _ _))⟩
theorem fw_RX0_9 : FLw RX0 9 0 0 .int := ⟨fl_RX0_9, fun C T N h => by cases h; rfl⟩
theorem fl_RX5_294 : FLk RX5 294 0 0 .int := ⟨RX0, TX0, 7, tyX0, rfl, rfl, by decide, inG0, tyX0_ok, nmX0, rfl, rfl, Or.inr ⟨"SlideFold", nw1 (i := 36) rfl rfl⟩⟩
theorem fw_RX5_294 : FLw RX5 294 0 0 .int := ⟨fl_RX5_294, fun C T N h => by cases h; rfl⟩
theorem fl_RX0_15 : FLk RX0 15 0 1 .int := ⟨RX0, TX0, 7, tyX0, rfl, rfl, by decide, inG0, tyX0_ok, nmX0, rfl, rfl, Or.inl (gw1 (i := 37) rfl (gk_fieldLink _ _ _ _ _))⟩
theorem fw_RX0_15 : FLw RX0 15 0 1 .int := ⟨fl_RX0_15, fun C T N h => by cases h; rfl⟩
theorem fl_RX0_18 : FLk RX0 18 0 2 .int := ⟨RX0, TX0, 7, tyX0, rfl, rfl, by decide, inG0, tyX0_ok, nmX0, rfl, rfl, Or.inl (gw1 (i := 38) rfl (gk_fieldLink _ _ _ _ _))⟩
theorem fw_RX0_18 : FLw RX0 18 0 2 .int := ⟨fl_RX0_18, fun C T N h => by cases h; rfl⟩
theorem fl_RX5_297 : FLk RX5 297 0 2 .int := ⟨RX0, TX0, 7, tyX0, rfl, rfl, by decide, inG0, tyX0_ok, nmX0, rfl, rfl, Or.inr ⟨"SlideFold", nw1 (i := 39) rfl rfl⟩⟩
theorem fw_RX5_297 : FLw RX5 297 0 2 .int := ⟨fl_RX5_297, fun C T N h => by cases h; rfl⟩
theorem fl_RX0_21 : FLk RX0 21 0 3 .int := ⟨RX0, TX0, 7, tyX0, rfl, rfl, by decide, inG0, tyX0_ok, nmX0, rfl, rfl, Or.inl (gw1 (i := 40) rfl (gk_fieldLink _ _ _ _ _))⟩
theorem fw_RX0_21 : FLw RX0 21 0 3 .int := ⟨fl_RX0_21, fun C T N h => by cases h; rfl⟩
theorem fl_RX5_291 : FLk RX5 291 0 3 .int := ⟨RX0, TX0, 7, tyX0, rfl, rfl, by decide, inG0, tyX0_ok, nmX0, rfl, rfl, Or.inr ⟨"SlideFold", nw1 (i := 41) rfl rfl⟩⟩
theorem fw_RX5_291 : FLw RX5 291 0 3 .int := ⟨fl_RX5_291, fun C T N h => by cases h; rfl⟩
theorem fl_RX0_24 : FLk RX0 24 0 4 .int := ⟨RX0, TX0, 7, tyX0, rfl, rfl, by decide, inG0, tyX0_ok, nmX0, rfl, rfl, Or.inl (gw1 (i := 42) rfl (gk_fieldLink _ _ _ _ _))⟩
theorem fw_RX0_24 : FLw RX0 24 0 4 .int := ⟨fl_RX0_24, fun C T N h => by cases h; rfl⟩
theorem fl_RX0_27 : FLk RX0 27 0 5 .int := ⟨RX0, TX0, 7, tyX0, rfl, rfl, by decide, inG0, tyX0_ok, nmX0, rfl, rfl, Or.inl (gw1 (i := 43) rfl (gk_fieldLink _ _ _ _ _))⟩
theorem fw_RX0_27 : FLw RX0 27 0 5 .int := ⟨fl_RX0_27, fun C T N h => by cases h; rfl⟩
theorem fl_RX5_304 : FLk RX5 304 0 5 .int := ⟨RX0, TX0, 7, tyX0, rfl, rfl, by decide, inG0, tyX0_ok, nmX0, rfl, rfl, Or.inr ⟨"SlideFold", nw1 (i := 44) rfl rfl⟩⟩
theorem fw_RX5_304 : FLw RX5 304 0 5 .int := ⟨fl_RX5_304, fun C T N h => by cases h; rfl⟩
theorem fl_RX0_30 : FLk RX0 30 0 6 .int := ⟨RX0, TX0, 7, tyX0, rfl, rfl, by decide, inG0, tyX0_ok, nmX0, rfl, rfl, Or.inl (gw1 (i := 45) rfl (gk_fieldLink _ _ _ _ _))⟩
theorem fw_RX0_30 : FLw RX0 30 0 6 .int := ⟨fl_RX0_30, fun C T N h => by cases h; rfl⟩
theorem fl_RX5_307 : FLk RX5 307 0 6 .int := ⟨RX0, TX0, 7, tyX0, rfl, rfl, by decide, inG0, tyX0_ok, nmX0, rfl, rfl, Or.inr ⟨"SlideFold", nw1 (i := 46) rfl rfl⟩⟩
theorem fw_RX5_307 : FLw RX5 307 0 6 .int := ⟨fl_RX5_307, fun C T N h => by cases h; rfl⟩
theorem fl_RX2_9 : FLk RX2 9 2 0 .int := ⟨RX2, TX2, 17, tyX2, rfl, rfl, by decide, inG2, tyX2_ok, nmX2, rfl, rfl, Or.inl (gw1 (i := 63) rfl (gk_fieldLink _ _ _ _ _))⟩
theorem fw_RX2_9 : FLw RX2 9 2 0 .int := ⟨fl_RX2_9, fun C T N h => by cases h; rfl⟩
theorem fl_RX5_212 : FLk RX5 212 2 0 .int := ⟨RX2, TX2, 17, tyX2, rfl, rfl, by decide, inG2, tyX2_ok, nmX2, rfl, rfl, Or.inr ⟨"SlideFold", nw1 (i := 64) rfl rfl⟩⟩
theorem fw_RX5_212 : FLw RX5 212 2 0 .int := ⟨fl_RX5_212, fun C T N h => by cases h; rfl⟩
theorem fl_RX2_32 : FLk RX2 32 2 1 .boolean := ⟨RX2, TX2, 17, tyX2, rfl, rfl, by decide, inG2, tyX2_ok, nmX2, rfl, rfl, Or.inl (gw1 (i := 65) rfl (gk_fieldLink _ _ _ _ _))⟩
theorem fw_RX2_32 : FLw RX2 32 2 1 .boolean := ⟨fl_RX2_32, fun C T N h => by cases h; rfl⟩
theorem fl_RX5_94 : FLk RX5 94 2 1 .boolean := ⟨RX2, TX2, 17, tyX2, rfl, rfl, by decide, inG2, tyX2_ok, nmX2, rfl, rfl, Or.inr ⟨"SlideFold", nw1 (i := 66) rfl rfl⟩⟩
theorem fw_RX5_94 : FLw RX5 94 2 1 .boolean := ⟨fl_RX5_94, fun C T N h => by cases h; rfl⟩
theorem fl_RX2_36 : FLk RX2 36 2 2 .int := ⟨RX2, TX2, 17, tyX2, rfl, rfl, by decide, inG2, tyX2_ok, nmX2, rfl, rfl, Or.inl (gw1 (i := 67) rfl (gk_fieldLink _ _ _ _ _))⟩
theorem fw_RX2_36 : FLw RX2 36 2 2 .int := ⟨fl_RX2_36, fun C T N h => by cases h; rfl⟩
theorem fl_RX5_98 : FLk RX5 98 2 2 .int := ⟨RX2, TX2, 17, tyX2, rfl, rfl, by decide, inG2, tyX2_ok, nmX2, rfl, rfl, Or.inr ⟨"SlideFold", nw1 (i := 68) rfl rfl⟩⟩
theorem fw_RX5_98 : FLw RX5 98 2 2 .int := ⟨fl_RX5_98, fun C T N h => by cases h; rfl⟩
theorem fl_RX2_39 : FLk RX2 39 2 3 .int := ⟨RX2, TX2, 17, tyX2, rfl, rfl, by decide, inG2, tyX2_ok, nmX2, rfl, rfl, Or.inl (gw1 (i := 69) rfl (gk_fieldLink _ _ _ _ _))⟩
theorem fw_RX2_39 : FLw RX2 39 2 3 .int := ⟨fl_RX2_39, fun C T N h => by cases h; rfl⟩
theorem fl_RX5_160 : FLk RX5 160 2 3 .int := ⟨RX2, TX2, 17, tyX2, rfl, rfl, by decide, inG2, tyX2_ok, nmX2, rfl, rfl, Or.inr ⟨"SlideFold", nw1 (i := 70) rfl rfl⟩⟩
theorem fw_RX5_160 : FLw RX5 160 2 3 .int := ⟨fl_RX5_160, fun C T N h => by cases h; rfl⟩
theorem fl_RX2_42 : FLk RX2 42 2 4 .int := ⟨RX2, TX2, 17, tyX2, rfl, rfl, by decide, inG2, tyX2_ok, nmX2, rfl, rfl, Or.inl (gw1 (i := 71) rfl (gk_fieldLink _ _ _ _ _))⟩
theorem fw_RX2_42 : FLw RX2 42 2 4 .int := ⟨fl_RX2_42, fun C T N h => by cases h; rfl⟩
theorem fl_RX2_45 : FLk RX2 45 2 5 .int := ⟨RX2, TX2, 17, tyX2, rfl, rfl, by decide, inG2, tyX2_ok, nmX2, rfl, rfl, Or.inl (gw1 (i := 72) rfl (gk_fieldLink _ _ _ _ _))⟩
theorem fw_RX2_45 : FLw RX2 45 2 5 .int := ⟨fl_RX2_45, fun C T N h => by cases h; rfl⟩
theorem fl_RX2_48 : FLk RX2 48 2 6 .int := ⟨RX2, TX2, 17, tyX2, rfl, rfl, by decide, inG2, tyX2_ok, nmX2, rfl, rfl, Or.inl (gw1 (i := 73) rfl (gk_fieldLink _ _ _ _ _))⟩
theorem fw_RX2_48 : FLw RX2 48 2 6 .int := ⟨fl_RX2_48, fun C T N h => by cases h; rfl⟩
theorem fl_RX5_154 : FLk RX5 154 2 6 .int := ⟨RX2, TX2, 17, tyX2, rfl, rfl, by decide, inG2, tyX2_ok, nmX2, rfl, rfl, Or.inr ⟨"SlideFold", nw1 (i := 74) rfl rfl⟩⟩
theorem fw_RX5_154 : FLw RX5 154 2 6 .int := ⟨fl_RX5_154, fun C T N h => by cases h; rfl⟩
theorem fl_RX2_15 : FLk RX2 15 2 7 (.array .int) := ⟨RX2, TX2, 17, tyX2, rfl, rfl, by decide, inG2, tyX2_ok, nmX2, rfl, rfl, Or.inl (gw1 (i := 75) rfl (gk_fieldLink _ _ _ _ _))⟩
theorem fl_RX5_198 : FLk RX5 198 2 7 (.array .int) := ⟨RX2, TX2, 17, tyX2, rfl, rfl, by decide, inG2, tyX2_ok, nmX2, rfl, rfl, Or.inr ⟨"SlideFold", nw1 (i := 76) rfl rfl⟩⟩
theorem fl_RX2_19 : FLk RX2 19 2 8 (.array .int) := ⟨RX2, TX2, 17, tyX2, rfl, rfl, by decide, inG2, tyX2_ok, nmX2, rfl, rfl, Or.inl (gw1 (i := 77) rfl (gk_fieldLink _ _ _ _ _))⟩
theorem fl_RX5_176 : FLk RX5 176 2 8 (.array .int) := ⟨RX2, TX2, 17, tyX2, rfl, rfl, by decide, inG2, tyX2_ok, nmX2, rfl, rfl, Or.inr ⟨"SlideFold", nw1 (i := 78) rfl rfl⟩⟩
theorem fl_RX2_22 : FLk RX2 22 2 9 (.array .int) := ⟨RX2, TX2, 17, tyX2, rfl, rfl, by decide, inG2, tyX2_ok, nmX2, rfl, rfl, Or.inl (gw1 (i := 79) rfl (gk_fieldLink _ _ _ _ _))⟩
theorem fl_RX5_245 : FLk RX5 245 2 9 (.array .int) := ⟨RX2, TX2, 17, tyX2, rfl, rfl, by decide, inG2, tyX2_ok, nmX2, rfl, rfl, Or.inr ⟨"SlideFold", nw1 (i := 80) rfl rfl⟩⟩
theorem fl_RX2_51 : FLk RX2 51 2 10 .int := ⟨RX2, TX2, 17, tyX2, rfl, rfl, by decide, inG2, tyX2_ok, nmX2, rfl, rfl, Or.inl (gw1 (i := 81) rfl (gk_fieldLink _ _ _ _ _))⟩
theorem fw_RX2_51 : FLw RX2 51 2 10 .int := ⟨fl_RX2_51, fun C T N h => by cases h; rfl⟩
theorem fl_RX5_157 : FLk RX5 157 2 10 .int := ⟨RX2, TX2, 17, tyX2, rfl, rfl, by decide, inG2, tyX2_ok, nmX2, rfl, rfl, Or.inr ⟨"SlideFold", nw1 (i := 82) rfl rfl⟩⟩
theorem fw_RX5_157 : FLw RX5 157 2 10 .int := ⟨fl_RX5_157, fun C T N h => by cases h; rfl⟩
theorem fl_RX2_54 : FLk RX2 54 2 11 .int := ⟨RX2, TX2, 17, tyX2, rfl, rfl, by decide, inG2, tyX2_ok, nmX2, rfl, rfl, Or.inl (gw1 (i := 83) rfl (gk_fieldLink _ _ _ _ _))⟩
theorem fw_RX2_54 : FLw RX2 54 2 11 .int := ⟨fl_RX2_54, fun C T N h => by cases h; rfl⟩
theorem fl_RX5_136 : FLk RX5 136 2 11 .int := ⟨RX2, TX2, 17, tyX2, rfl, rfl, by decide, inG2, tyX2_ok, nmX2, rfl, rfl, Or.inr ⟨"SlideFold", nw1 (i := 84) rfl rfl⟩⟩
theorem fw_RX5_136 : FLw RX5 136 2 11 .int := ⟨fl_RX5_136, fun C T N h => by cases h; rfl⟩
theorem fl_RX2_57 : FLk RX2 57 2 12 .int := ⟨RX2, TX2, 17, tyX2, rfl, rfl, by decide, inG2, tyX2_ok, nmX2, rfl, rfl, Or.inl (gw1 (i := 85) rfl (gk_fieldLink _ _ _ _ _))⟩
theorem fw_RX2_57 : FLw RX2 57 2 12 .int := ⟨fl_RX2_57, fun C T N h => by cases h; rfl⟩
theorem fl_RX2_60 : FLk RX2 60 2 13 .int := ⟨RX2, TX2, 17, tyX2, rfl, rfl, by decide, inG2, tyX2_ok, nmX2, rfl, rfl, Or.inl (gw1 (i := 86) rfl (gk_fieldLink _ _ _ _ _))⟩
theorem fw_RX2_60 : FLw RX2 60 2 13 .int := ⟨fl_RX2_60, fun C T N h => by cases h; rfl⟩
theorem fl_RX5_204 : FLk RX5 204 2 13 .int := ⟨RX2, TX2, 17, tyX2, rfl, rfl, by decide, inG2, tyX2_ok, nmX2, rfl, rfl, Or.inr ⟨"SlideFold", nw1 (i := 87) rfl rfl⟩⟩
theorem fw_RX5_204 : FLw RX5 204 2 13 .int := ⟨fl_RX5_204, fun C T N h => by cases h; rfl⟩
theorem fl_RX2_63 : FLk RX2 63 2 14 .int := ⟨RX2, TX2, 17, tyX2, rfl, rfl, by decide, inG2, tyX2_ok, nmX2, rfl, rfl, Or.inl (gw1 (i := 88) rfl (gk_fieldLink _ _ _ _ _))⟩
theorem fw_RX2_63 : FLw RX2 63 2 14 .int := ⟨fl_RX2_63, fun C T N h => by cases h; rfl⟩
theorem fl_RX2_66 : FLk RX2 66 2 15 .int := ⟨RX2, TX2, 17, tyX2, rfl, rfl, by decide, inG2, tyX2_ok, nmX2, rfl, rfl, Or.inl (gw1 (i := 89) rfl (gk_fieldLink _ _ _ _ _))⟩
theorem fw_RX2_66 : FLw RX2 66 2 15 .int := ⟨fl_RX2_66, fun C T N h => by cases h; rfl⟩
theorem fl_RX5_242 : FLk RX5 242 2 15 .int := ⟨RX2, TX2, 17, tyX2, rfl, rfl, by decide, inG2, tyX2_ok, nmX2, rfl, rfl, Or.inr ⟨"SlideFold", nw1 (i := 90) rfl rfl⟩⟩
theorem fw_RX5_242 : FLw RX5 242 2 15 .int := ⟨fl_RX5_242, fun C T N h => by cases h; rfl⟩
theorem fl_RX2_28 : FLk RX2 28 2 16 (.object "SlideFold$Flip") := ⟨RX2, TX2, 17, tyX2, rfl, rfl, by decide, inG2, tyX2_ok, nmX2, rfl, rfl, Or.inl (gw1 (i := 91) rfl (gk_fieldLink _ _ _ _ _))⟩
theorem fl_RX5_189 : FLk RX5 189 2 16 (.object "SlideFold$Flip") := ⟨RX2, TX2, 17, tyX2, rfl, rfl, by decide, inG2, tyX2_ok, nmX2, rfl, rfl, Or.inr ⟨"SlideFold", nw1 (i := 92) rfl rfl⟩⟩
theorem il_RX5_26 : ILk RX5 26 38 := ⟨Or.inr ⟨"SlideFold", nw1 (i := 129) rfl rfl⟩, mk_38, gw1 (i := 130) rfl (gk_instanceMethod _), rfl, rfl⟩
theorem fl_RX3_9 : FLk RX3 9 3 0 .int := ⟨RX3, TX3, 4, tyX3, rfl, rfl, by decide, inG3, tyX3_ok, nmX3, rfl, rfl, Or.inl (gw1 (i := 133) rfl (gk_fieldLink _ _ _ _ _))⟩
theorem fw_RX3_9 : FLw RX3 9 3 0 .int := ⟨fl_RX3_9, fun C T N h => by cases h; rfl⟩
theorem fl_RX5_215 : FLk RX5 215 3 0 .int := ⟨RX3, TX3, 4, tyX3, rfl, rfl, by decide, inG3, tyX3_ok, nmX3, rfl, rfl, Or.inr ⟨"SlideFold", nw1 (i := 134) rfl rfl⟩⟩
theorem fw_RX5_215 : FLw RX5 215 3 0 .int := ⟨fl_RX5_215, fun C T N h => by cases h; rfl⟩
theorem fl_RX3_15 : FLk RX3 15 3 1 .int := ⟨RX3, TX3, 4, tyX3, rfl, rfl, by decide, inG3, tyX3_ok, nmX3, rfl, rfl, Or.inl (gw1 (i := 135) rfl (gk_fieldLink _ _ _ _ _))⟩
theorem fw_RX3_15 : FLw RX3 15 3 1 .int := ⟨fl_RX3_15, fun C T N h => by cases h; rfl⟩
theorem fl_RX5_218 : FLk RX5 218 3 1 .int := ⟨RX3, TX3, 4, tyX3, rfl, rfl, by decide, inG3, tyX3_ok, nmX3, rfl, rfl, Or.inr ⟨"SlideFold", nw1 (i := 136) rfl rfl⟩⟩
theorem fw_RX5_218 : FLw RX5 218 3 1 .int := ⟨fl_RX5_218, fun C T N h => by cases h; rfl⟩
theorem fl_RX3_18 : FLk RX3 18 3 2 .int := ⟨RX3, TX3, 4, tyX3, rfl, rfl, by decide, inG3, tyX3_ok, nmX3, rfl, rfl, Or.inl (gw1 (i := 137) rfl (gk_fieldLink _ _ _ _ _))⟩
theorem fw_RX3_18 : FLw RX3 18 3 2 .int := ⟨fl_RX3_18, fun C T N h => by cases h; rfl⟩
theorem fl_RX5_224 : FLk RX5 224 3 2 .int := ⟨RX3, TX3, 4, tyX3, rfl, rfl, by decide, inG3, tyX3_ok, nmX3, rfl, rfl, Or.inr ⟨"SlideFold", nw1 (i := 138) rfl rfl⟩⟩
theorem fw_RX5_224 : FLw RX5 224 3 2 .int := ⟨fl_RX5_224, fun C T N h => by cases h; rfl⟩
theorem fl_RX3_21 : FLk RX3 21 3 3 .int := ⟨RX3, TX3, 4, tyX3, rfl, rfl, by decide, inG3, tyX3_ok, nmX3, rfl, rfl, Or.inl (gw1 (i := 139) rfl (gk_fieldLink _ _ _ _ _))⟩
theorem fw_RX3_21 : FLw RX3 21 3 3 .int := ⟨fl_RX3_21, fun C T N h => by cases h; rfl⟩
theorem fl_RX5_231 : FLk RX5 231 3 3 .int := ⟨RX3, TX3, 4, tyX3, rfl, rfl, by decide, inG3, tyX3_ok, nmX3, rfl, rfl, Or.inr ⟨"SlideFold", nw1 (i := 140) rfl rfl⟩⟩
theorem fw_RX5_231 : FLw RX5 231 3 3 .int := ⟨fl_RX5_231, fun C T N h => by cases h; rfl⟩
theorem il_RX5_36 : ILk RX5 36 42 := ⟨Or.inr ⟨"SlideFold", nw1 (i := 153) rfl rfl⟩, mk_42, gw1 (i := 154) rfl (gk_instanceMethod _), rfl, rfl⟩
theorem fl_RX4_9 : FLk RX4 9 4 0 .int := ⟨RX4, TX4, 6, tyX4, rfl, rfl, by decide, inG4, tyX4_ok, nmX4, rfl, rfl, Or.inl (gw1 (i := 157) rfl (gk_fieldLink _ _ _ _ _))⟩
theorem fw_RX4_9 : FLw RX4 9 4 0 .int := ⟨fl_RX4_9, fun C T N h => by cases h; rfl⟩
theorem fl_RX5_321 : FLk RX5 321 4 0 .int := ⟨RX4, TX4, 6, tyX4, rfl, rfl, by decide, inG4, tyX4_ok, nmX4, rfl, rfl, Or.inr ⟨"SlideFold", nw1 (i := 158) rfl rfl⟩⟩
theorem fw_RX5_321 : FLw RX5 321 4 0 .int := ⟨fl_RX5_321, fun C T N h => by cases h; rfl⟩
theorem fl_RX4_15 : FLk RX4 15 4 1 .int := ⟨RX4, TX4, 6, tyX4, rfl, rfl, by decide, inG4, tyX4_ok, nmX4, rfl, rfl, Or.inl (gw1 (i := 159) rfl (gk_fieldLink _ _ _ _ _))⟩
theorem fw_RX4_15 : FLw RX4 15 4 1 .int := ⟨fl_RX4_15, fun C T N h => by cases h; rfl⟩
theorem fl_RX5_327 : FLk RX5 327 4 1 .int := ⟨RX4, TX4, 6, tyX4, rfl, rfl, by decide, inG4, tyX4_ok, nmX4, rfl, rfl, Or.inr ⟨"SlideFold", nw1 (i := 160) rfl rfl⟩⟩
theorem fw_RX5_327 : FLw RX5 327 4 1 .int := ⟨fl_RX5_327, fun C T N h => by cases h; rfl⟩
theorem fl_RX4_18 : FLk RX4 18 4 2 .int := ⟨RX4, TX4, 6, tyX4, rfl, rfl, by decide, inG4, tyX4_ok, nmX4, rfl, rfl, Or.inl (gw1 (i := 161) rfl (gk_fieldLink _ _ _ _ _))⟩
theorem fw_RX4_18 : FLw RX4 18 4 2 .int := ⟨fl_RX4_18, fun C T N h => by cases h; rfl⟩
theorem fl_RX5_328 : FLk RX5 328 4 2 .int := ⟨RX4, TX4, 6, tyX4, rfl, rfl, by decide, inG4, tyX4_ok, nmX4, rfl, rfl, Or.inr ⟨"SlideFold", nw1 (i := 162) rfl rfl⟩⟩
theorem fw_RX5_328 : FLw RX5 328 4 2 .int := ⟨fl_RX5_328, fun C T N h => by cases h; rfl⟩
theorem fl_RX4_21 : FLk RX4 21 4 3 .boolean := ⟨RX4, TX4, 6, tyX4, rfl, rfl, by decide, inG4, tyX4_ok, nmX4, rfl, rfl, Or.inl (gw1 (i := 163) rfl (gk_fieldLink _ _ _ _ _))⟩
theorem fw_RX4_21 : FLw RX4 21 4 3 .boolean := ⟨fl_RX4_21, fun C T N h => by cases h; rfl⟩
theorem fl_RX4_25 : FLk RX4 25 4 4 .int := ⟨RX4, TX4, 6, tyX4, rfl, rfl, by decide, inG4, tyX4_ok, nmX4, rfl, rfl, Or.inl (gw1 (i := 164) rfl (gk_fieldLink _ _ _ _ _))⟩
theorem fw_RX4_25 : FLw RX4 25 4 4 .int := ⟨fl_RX4_25, fun C T N h => by cases h; rfl⟩
theorem fl_RX5_315 : FLk RX5 315 4 4 .int := ⟨RX4, TX4, 6, tyX4, rfl, rfl, by decide, inG4, tyX4_ok, nmX4, rfl, rfl, Or.inr ⟨"SlideFold", nw1 (i := 165) rfl rfl⟩⟩
theorem fw_RX5_315 : FLw RX5 315 4 4 .int := ⟨fl_RX5_315, fun C T N h => by cases h; rfl⟩
theorem fl_RX4_28 : FLk RX4 28 4 5 .int := ⟨RX4, TX4, 6, tyX4, rfl, rfl, by decide, inG4, tyX4_ok, nmX4, rfl, rfl, Or.inl (gw1 (i := 166) rfl (gk_fieldLink _ _ _ _ _))⟩
theorem fw_RX4_28 : FLw RX4 28 4 5 .int := ⟨fl_RX4_28, fun C T N h => by cases h; rfl⟩
theorem fl_RX5_318 : FLk RX5 318 4 5 .int := ⟨RX4, TX4, 6, tyX4, rfl, rfl, by decide, inG4, tyX4_ok, nmX4, rfl, rfl, Or.inr ⟨"SlideFold", nw1 (i := 167) rfl rfl⟩⟩
theorem fw_RX5_318 : FLw RX5 318 4 5 .int := ⟨fl_RX5_318, fun C T N h => by cases h; rfl⟩
theorem il_RX5_39 : ILk RX5 39 8 := ⟨Or.inl (gw1 (i := 183) rfl (gk_methodLink _ _ _)), mk_8, gw1 (i := 184) rfl (gk_instanceMethod _), rfl, rfl⟩
theorem tl_RX1_18 : TLk RX1 18 266 := ⟨Or.inl (gw1 (i := 187) rfl (gk_methodLink _ _ _)), mk_266, gw1 (i := 188) rfl (gk_static _)⟩
theorem fl_RX1_9 : FLk RX1 9 1 0 (.array .int) := ⟨RX1, TX1, 8, tyX1, rfl, rfl, by decide, inG1, tyX1_ok, nmX1, rfl, rfl, Or.inl (gw1 (i := 190) rfl (gk_fieldLink _ _ _ _ _))⟩
theorem fl_RX5_67 : FLk RX5 67 1 0 (.array .int) := ⟨RX1, TX1, 8, tyX1, rfl, rfl, by decide, inG1, tyX1_ok, nmX1, rfl, rfl, Or.inr ⟨"SlideFold", nw1 (i := 191) rfl rfl⟩⟩
theorem fl_RX1_15 : FLk RX1 15 1 1 (.array .int) := ⟨RX1, TX1, 8, tyX1, rfl, rfl, by decide, inG1, tyX1_ok, nmX1, rfl, rfl, Or.inl (gw1 (i := 192) rfl (gk_fieldLink _ _ _ _ _))⟩
theorem fl_RX5_71 : FLk RX5 71 1 1 (.array .int) := ⟨RX1, TX1, 8, tyX1, rfl, rfl, by decide, inG1, tyX1_ok, nmX1, rfl, rfl, Or.inr ⟨"SlideFold", nw1 (i := 193) rfl rfl⟩⟩
theorem fl_RX1_24 : FLk RX1 24 1 2 (.array .int) := ⟨RX1, TX1, 8, tyX1, rfl, rfl, by decide, inG1, tyX1_ok, nmX1, rfl, rfl, Or.inl (gw1 (i := 194) rfl (gk_fieldLink _ _ _ _ _))⟩
theorem fl_RX1_27 : FLk RX1 27 1 3 (.array .int) := ⟨RX1, TX1, 8, tyX1, rfl, rfl, by decide, inG1, tyX1_ok, nmX1, rfl, rfl, Or.inl (gw1 (i := 195) rfl (gk_fieldLink _ _ _ _ _))⟩
theorem fl_RX1_54 : FLk RX1 54 1 4 .int := ⟨RX1, TX1, 8, tyX1, rfl, rfl, by decide, inG1, tyX1_ok, nmX1, rfl, rfl, Or.inl (gw1 (i := 196) rfl (gk_fieldLink _ _ _ _ _))⟩
theorem fw_RX1_54 : FLw RX1 54 1 4 .int := ⟨fl_RX1_54, fun C T N h => by cases h; rfl⟩
theorem fl_RX1_30 : FLk RX1 30 1 5 .int := ⟨RX1, TX1, 8, tyX1, rfl, rfl, by decide, inG1, tyX1_ok, nmX1, rfl, rfl, Or.inl (gw1 (i := 197) rfl (gk_fieldLink _ _ _ _ _))⟩
theorem fw_RX1_30 : FLw RX1 30 1 5 .int := ⟨fl_RX1_30, fun C T N h => by cases h; rfl⟩
theorem fl_RX1_34 : FLk RX1 34 1 6 .int := ⟨RX1, TX1, 8, tyX1, rfl, rfl, by decide, inG1, tyX1_ok, nmX1, rfl, rfl, Or.inl (gw1 (i := 198) rfl (gk_fieldLink _ _ _ _ _))⟩
theorem fw_RX1_34 : FLw RX1 34 1 6 .int := ⟨fl_RX1_34, fun C T N h => by cases h; rfl⟩
theorem fl_RX1_37 : FLk RX1 37 1 7 .int := ⟨RX1, TX1, 8, tyX1, rfl, rfl, by decide, inG1, tyX1_ok, nmX1, rfl, rfl, Or.inl (gw1 (i := 199) rfl (gk_fieldLink _ _ _ _ _))⟩
theorem fw_RX1_37 : FLw RX1 37 1 7 .int := ⟨fl_RX1_37, fun C T N h => by cases h; rfl⟩
theorem il_RX5_46 : ILk RX5 46 0 := ⟨Or.inr ⟨"SlideFold", nw1 (i := 218) rfl rfl⟩, mk_0, gw1 (i := 32) rfl (gk_instanceMethod _), rfl, rfl⟩
theorem fl_RX5_13 : FLk RX5 13 5 0 (.array (.object "SlideFold$Lane")) := ⟨RX5, TX5, 8, tyX5, rfl, rfl, by decide, inG5, tyX5_ok, nmX5, rfl, rfl, Or.inl (gw1 (i := 221) rfl (gk_fieldLink _ _ _ _ _))⟩
theorem fl_RX5_27 : FLk RX5 27 5 1 (.array (.object "SlideFold$Lane")) := ⟨RX5, TX5, 8, tyX5, rfl, rfl, by decide, inG5, tyX5_ok, nmX5, rfl, rfl, Or.inl (gw1 (i := 222) rfl (gk_fieldLink _ _ _ _ _))⟩
theorem fl_RX5_32 : FLk RX5 32 5 2 (.array (.object "SlideFold$Watch")) := ⟨RX5, TX5, 8, tyX5, rfl, rfl, by decide, inG5, tyX5_ok, nmX5, rfl, rfl, Or.inl (gw1 (i := 223) rfl (gk_fieldLink _ _ _ _ _))⟩
theorem fl_RX5_19 : FLk RX5 19 5 3 (.array (.object "SlideFold$Link")) := ⟨RX5, TX5, 8, tyX5, rfl, rfl, by decide, inG5, tyX5_ok, nmX5, rfl, rfl, Or.inl (gw1 (i := 224) rfl (gk_fieldLink _ _ _ _ _))⟩
theorem fl_RX5_40 : FLk RX5 40 5 4 (.object "SlideFold$Fold") := ⟨RX5, TX5, 8, tyX5, rfl, rfl, by decide, inG5, tyX5_ok, nmX5, rfl, rfl, Or.inl (gw1 (i := 225) rfl (gk_fieldLink _ _ _ _ _))⟩
theorem fl_RX5_47 : FLk RX5 47 5 5 (.object "SlideFold$Flip") := ⟨RX5, TX5, 8, tyX5, rfl, rfl, by decide, inG5, tyX5_ok, nmX5, rfl, rfl, Or.inl (gw1 (i := 226) rfl (gk_fieldLink _ _ _ _ _))⟩
theorem fl_RX5_53 : FLk RX5 53 5 6 (.array (.array .int)) := ⟨RX5, TX5, 8, tyX5, rfl, rfl, by decide, inG5, tyX5_ok, nmX5, rfl, rfl, Or.inl (gw1 (i := 227) rfl (gk_fieldLink _ _ _ _ _))⟩
theorem fl_RX5_56 : FLk RX5 56 5 7 (.array (.array .int)) := ⟨RX5, TX5, 8, tyX5, rfl, rfl, by decide, inG5, tyX5_ok, nmX5, rfl, rfl, Or.inl (gw1 (i := 228) rfl (gk_fieldLink _ _ _ _ _))⟩
theorem vl_RL_13 : VLk RL 13 47 := ⟨Or.inl (gw2 (i := 6) rfl (gk_methodLink _ _ _)), mk_47, gw2 (i := 7) rfl (gk_instanceMethod _), gw2 (i := 8) rfl (gk_selects _ _ _)⟩
theorem tl_RX5_59 : TLk RX5 59 124 := ⟨Or.inl (gw2 (i := 10) rfl (gk_methodLink _ _ _)), mk_124, gw2 (i := 11) rfl (gk_static _)⟩
theorem vl_RX5_63 : VLk RX5 63 57 := ⟨Or.inl (gw2 (i := 13) rfl (gk_methodLink _ _ _)), mk_57, gw2 (i := 15) rfl (gk_instanceMethod _), List.mem_filter.mpr ⟨List.mem_append_left _ (List.mem_of_getElem? (i := 0) rfl), gk_selects _ _ _⟩⟩
theorem vl_RL_18 : VLk RL 18 48 := ⟨Or.inl (gw2 (i := 17) rfl (gk_methodLink _ _ _)), mk_48, gw2 (i := 18) rfl (gk_instanceMethod _), gw2 (i := 19) rfl (gk_selects _ _ _)⟩
theorem vl_RL_22 : VLk RL 22 49 := ⟨Or.inl (gw2 (i := 21) rfl (gk_methodLink _ _ _)), mk_49, gw2 (i := 22) rfl (gk_instanceMethod _), gw2 (i := 23) rfl (gk_selects _ _ _)⟩
theorem vl_RX5_74 : VLk RX5 74 52 := ⟨Or.inl (gw2 (i := 25) rfl (gk_methodLink _ _ _)), mk_52, gw2 (i := 27) rfl (gk_instanceMethod _), List.mem_filter.mpr ⟨List.mem_append_left _ (List.mem_of_getElem? (i := 1) rfl), gk_selects _ _ _⟩⟩
theorem vl_RX5_90 : VLk RX5 90 51 := ⟨Or.inl (gw2 (i := 29) rfl (gk_methodLink _ _ _)), mk_51, gw2 (i := 31) rfl (gk_instanceMethod _), List.mem_filter.mpr ⟨List.mem_append_left _ (List.mem_of_getElem? (i := 2) rfl), gk_selects _ _ _⟩⟩
theorem vl_RL_27 : VLk RL 27 50 := ⟨Or.inl (gw2 (i := 33) rfl (gk_methodLink _ _ _)), mk_50, gw2 (i := 34) rfl (gk_instanceMethod _), gw2 (i := 35) rfl (gk_selects _ _ _)⟩
theorem vl_RX5_77 : VLk RX5 77 53 := ⟨Or.inl (gw2 (i := 37) rfl (gk_methodLink _ _ _)), mk_53, gw2 (i := 39) rfl (gk_instanceMethod _), List.mem_filter.mpr ⟨List.mem_append_left _ (List.mem_of_getElem? (i := 3) rfl), gk_selects _ _ _⟩⟩
theorem vl_RX5_81 : VLk RX5 81 54 := ⟨Or.inl (gw2 (i := 41) rfl (gk_methodLink _ _ _)), mk_54, gw2 (i := 43) rfl (gk_instanceMethod _), List.mem_filter.mpr ⟨List.mem_append_left _ (List.mem_of_getElem? (i := 4) rfl), gk_selects _ _ _⟩⟩
theorem vl_RX5_84 : VLk RX5 84 55 := ⟨Or.inl (gw2 (i := 45) rfl (gk_methodLink _ _ _)), mk_55, gw2 (i := 47) rfl (gk_instanceMethod _), List.mem_filter.mpr ⟨List.mem_append_left _ (List.mem_of_getElem? (i := 5) rfl), gk_selects _ _ _⟩⟩
theorem vl_RX5_87 : VLk RX5 87 56 := ⟨Or.inl (gw2 (i := 49) rfl (gk_methodLink _ _ _)), mk_56, gw2 (i := 51) rfl (gk_instanceMethod _), List.mem_filter.mpr ⟨List.mem_append_left _ (List.mem_of_getElem? (i := 6) rfl), gk_selects _ _ _⟩⟩
theorem vl_RL_31 : VLk RL 31 58 := ⟨Or.inl (gw2 (i := 53) rfl (gk_methodLink _ _ _)), mk_58, gw2 (i := 54) rfl (gk_instanceMethod _), gw2 (i := 55) rfl (gk_selects _ _ _)⟩
theorem tl_RX5_102 : TLk RX5 102 125 := ⟨Or.inl (gw2 (i := 57) rfl (gk_methodLink _ _ _)), mk_125, gw2 (i := 58) rfl (gk_static _)⟩
theorem tl_RX5_105 : TLk RX5 105 59 := ⟨Or.inl (gw2 (i := 60) rfl (gk_methodLink _ _ _)), mk_59, gw2 (i := 61) rfl (gk_static _)⟩
theorem vl_RX5_109 : VLk RX5 109 49 := ⟨Or.inl (gw2 (i := 63) rfl (gk_methodLink _ _ _)), mk_49, gw2 (i := 22) rfl (gk_instanceMethod _), gw2 (i := 23) rfl (gk_selects _ _ _)⟩
theorem vl_RX5_113 : VLk RX5 113 26 := ⟨Or.inl (gw2 (i := 64) rfl (gk_methodLink _ _ _)), mk_26, gw2 (i := 65) rfl (gk_instanceMethod _), gw2 (i := 66) rfl (gk_selects _ _ _)⟩
theorem vl_RX2_69 : VLk RX2 69 1 := ⟨Or.inl (gw2 (i := 68) rfl (gk_methodLink _ _ _)), mk_1, gw2 (i := 69) rfl (gk_instanceMethod _), gw2 (i := 70) rfl (gk_selects _ _ _)⟩
theorem vl_RX5_117 : VLk RX5 117 108 := ⟨Or.inl (gw2 (i := 72) rfl (gk_methodLink _ _ _)), mk_108, gw2 (i := 74) rfl (gk_instanceMethod _), List.mem_filter.mpr ⟨List.mem_append_left _ (List.mem_of_getElem? (i := 7) rfl), gk_selects _ _ _⟩⟩
theorem vl_RX5_344 : VLk RX5 344 45 := ⟨Or.inl (gw2 (i := 76) rfl (gk_methodLink _ _ _)), mk_45, gw2 (i := 77) rfl (gk_instanceMethod _), gw2 (i := 78) rfl (gk_selects _ _ _)⟩
theorem vl_RX5_340 : VLk RX5 340 40 := ⟨Or.inl (gw2 (i := 80) rfl (gk_methodLink _ _ _)), mk_40, gw2 (i := 81) rfl (gk_instanceMethod _), gw2 (i := 82) rfl (gk_selects _ _ _)⟩
theorem vl_RX5_120 : VLk RX5 120 117 := ⟨Or.inl (gw2 (i := 84) rfl (gk_methodLink _ _ _)), mk_117, gw2 (i := 86) rfl (gk_instanceMethod _), List.mem_filter.mpr ⟨List.mem_append_left _ (List.mem_of_getElem? (i := 8) rfl), gk_selects _ _ _⟩⟩
theorem vl_RL_36 : VLk RL 36 60 := ⟨Or.inl (gw2 (i := 88) rfl (gk_methodLink _ _ _)), mk_60, gw2 (i := 89) rfl (gk_instanceMethod _), gw2 (i := 90) rfl (gk_selects _ _ _)⟩
theorem vl_RX5_123 : VLk RX5 123 129 := ⟨Or.inl (gw2 (i := 92) rfl (gk_methodLink _ _ _)), mk_129, gw2 (i := 94) rfl (gk_instanceMethod _), List.mem_filter.mpr ⟨List.mem_append_left _ (List.mem_of_getElem? (i := 9) rfl), gk_selects _ _ _⟩⟩
theorem vl_RL_41 : VLk RL 41 61 := ⟨Or.inl (gw2 (i := 96) rfl (gk_methodLink _ _ _)), mk_61, gw2 (i := 97) rfl (gk_instanceMethod _), gw2 (i := 98) rfl (gk_selects _ _ _)⟩
theorem tl_RX5_127 : TLk RX5 127 126 := ⟨Or.inl (gw2 (i := 100) rfl (gk_methodLink _ _ _)), mk_126, gw2 (i := 101) rfl (gk_static _)⟩
theorem co_RX5_284 : Cond.constant RX5 284 (i3 (100000)) ∈ gT := gw2 (i := 103) rfl (gk_constant _ _ _)
theorem tl_RX5_130 : TLk RX5 130 127 := ⟨Or.inl (gw2 (i := 104) rfl (gk_methodLink _ _ _)), mk_127, gw2 (i := 105) rfl (gk_static _)⟩
theorem vl_RX5_133 : VLk RX5 133 30 := ⟨Or.inl (gw2 (i := 107) rfl (gk_methodLink _ _ _)), mk_30, gw2 (i := 108) rfl (gk_instanceMethod _), gw2 (i := 109) rfl (gk_selects _ _ _)⟩
theorem vl_RX5_139 : VLk RX5 139 29 := ⟨Or.inl (gw2 (i := 111) rfl (gk_methodLink _ _ _)), mk_29, gw2 (i := 112) rfl (gk_instanceMethod _), gw2 (i := 113) rfl (gk_selects _ _ _)⟩
theorem vl_RX5_143 : VLk RX5 143 70 := ⟨Or.inl (gw2 (i := 115) rfl (gk_methodLink _ _ _)), mk_70, gw2 (i := 117) rfl (gk_instanceMethod _), List.mem_filter.mpr ⟨List.mem_append_left _ (List.mem_of_getElem? (i := 10) rfl), gk_selects _ _ _⟩⟩
theorem vl_RX5_221 : VLk RX5 221 32 := ⟨Or.inl (gw2 (i := 119) rfl (gk_methodLink _ _ _)), mk_32, gw2 (i := 120) rfl (gk_instanceMethod _), gw2 (i := 121) rfl (gk_selects _ _ _)⟩
theorem vl_RX5_227 : VLk RX5 227 132 := ⟨Or.inl (gw2 (i := 123) rfl (gk_methodLink _ _ _)), mk_132, gw2 (i := 125) rfl (gk_instanceMethod _), List.mem_filter.mpr ⟨List.mem_append_left _ (List.mem_of_getElem? (i := 11) rfl), gk_selects _ _ _⟩⟩
theorem vl_RX5_259 : VLk RX5 259 134 := ⟨Or.inl (gw2 (i := 127) rfl (gk_methodLink _ _ _)), mk_134, gw2 (i := 129) rfl (gk_instanceMethod _), List.mem_filter.mpr ⟨List.mem_append_left _ (List.mem_of_getElem? (i := 12) rfl), gk_selects _ _ _⟩⟩
theorem vl_RX5_251 : VLk RX5 251 9 := ⟨Or.inl (gw2 (i := 131) rfl (gk_methodLink _ _ _)), mk_9, gw2 (i := 132) rfl (gk_instanceMethod _), gw2 (i := 133) rfl (gk_selects _ _ _)⟩
theorem co_RX1_40 : Cond.constant RX1 40 (i3 (-2147483648)) ∈ gT := gw2 (i := 135) rfl (gk_constant _ _ _)
theorem vl_RX5_253 : VLk RX5 253 14 := ⟨Or.inl (gw2 (i := 136) rfl (gk_methodLink _ _ _)), mk_14, gw2 (i := 137) rfl (gk_instanceMethod _), gw2 (i := 138) rfl (gk_selects _ _ _)⟩
theorem vl_RX1_57 : VLk RX1 57 15 := ⟨Or.inl (gw2 (i := 140) rfl (gk_methodLink _ _ _)), mk_15, gw2 (i := 142) rfl (gk_instanceMethod _), List.mem_filter.mpr ⟨List.mem_append_left _ (List.mem_of_getElem? (i := 13) rfl), gk_selects _ _ _⟩⟩
theorem vl_RX1_61 : VLk RX1 61 16 := ⟨Or.inl (gw2 (i := 144) rfl (gk_methodLink _ _ _)), mk_16, gw2 (i := 146) rfl (gk_instanceMethod _), List.mem_filter.mpr ⟨List.mem_append_left _ (List.mem_of_getElem? (i := 14) rfl), gk_selects _ _ _⟩⟩
theorem tl_RX1_88 : TLk RX1 88 263 := ⟨Or.inl (gw2 (i := 148) rfl (gk_methodLink _ _ _)), mk_263, gw2 (i := 149) rfl (gk_static _)⟩
theorem vl_RX1_64 : VLk RX1 64 17 := ⟨Or.inl (gw2 (i := 151) rfl (gk_methodLink _ _ _)), mk_17, gw2 (i := 153) rfl (gk_instanceMethod _), List.mem_filter.mpr ⟨List.mem_append_left _ (List.mem_of_getElem? (i := 15) rfl), gk_selects _ _ _⟩⟩
theorem tl_RX1_93 : TLk RX1 93 262 := ⟨Or.inl (gw2 (i := 155) rfl (gk_methodLink _ _ _)), mk_262, gw2 (i := 156) rfl (gk_static _)⟩
theorem vl_RX1_67 : VLk RX1 67 18 := ⟨Or.inl (gw2 (i := 158) rfl (gk_methodLink _ _ _)), mk_18, gw2 (i := 160) rfl (gk_instanceMethod _), List.mem_filter.mpr ⟨List.mem_append_left _ (List.mem_of_getElem? (i := 16) rfl), gk_selects _ _ _⟩⟩
theorem tl_RX1_97 : TLk RX1 97 264 := ⟨Or.inl (gw2 (i := 162) rfl (gk_methodLink _ _ _)), mk_264, gw2 (i := 163) rfl (gk_static _)⟩
theorem vl_RX1_70 : VLk RX1 70 19 := ⟨Or.inl (gw2 (i := 165) rfl (gk_methodLink _ _ _)), mk_19, gw2 (i := 167) rfl (gk_instanceMethod _), List.mem_filter.mpr ⟨List.mem_append_left _ (List.mem_of_getElem? (i := 17) rfl), gk_selects _ _ _⟩⟩
theorem tl_RX1_100 : TLk RX1 100 261 := ⟨Or.inl (gw2 (i := 169) rfl (gk_methodLink _ _ _)), mk_261, gw2 (i := 170) rfl (gk_static _)⟩
theorem co_RJ6_265 : Cond.constant RJ6 265 (i3 (1431655765)) ∈ gT := gw2 (i := 172) rfl (gk_constant _ _ _)
theorem co_RJ6_266 : Cond.constant RJ6 266 (i3 (858993459)) ∈ gT := gw2 (i := 173) rfl (gk_constant _ _ _)
theorem co_RJ6_267 : Cond.constant RJ6 267 (i3 (252645135)) ∈ gT := gw2 (i := 174) rfl (gk_constant _ _ _)
theorem vl_RX1_73 : VLk RX1 73 20 := ⟨Or.inl (gw2 (i := 175) rfl (gk_methodLink _ _ _)), mk_20, gw2 (i := 177) rfl (gk_instanceMethod _), List.mem_filter.mpr ⟨List.mem_append_left _ (List.mem_of_getElem? (i := 18) rfl), gk_selects _ _ _⟩⟩
theorem vl_RX1_76 : VLk RX1 76 21 := ⟨Or.inl (gw2 (i := 179) rfl (gk_methodLink _ _ _)), mk_21, gw2 (i := 181) rfl (gk_instanceMethod _), List.mem_filter.mpr ⟨List.mem_append_left _ (List.mem_of_getElem? (i := 19) rfl), gk_selects _ _ _⟩⟩
theorem vl_RX1_79 : VLk RX1 79 22 := ⟨Or.inl (gw2 (i := 183) rfl (gk_methodLink _ _ _)), mk_22, gw2 (i := 185) rfl (gk_instanceMethod _), List.mem_filter.mpr ⟨List.mem_append_left _ (List.mem_of_getElem? (i := 20) rfl), gk_selects _ _ _⟩⟩
theorem vl_RX1_82 : VLk RX1 82 23 := ⟨Or.inl (gw2 (i := 187) rfl (gk_methodLink _ _ _)), mk_23, gw2 (i := 189) rfl (gk_instanceMethod _), List.mem_filter.mpr ⟨List.mem_append_left _ (List.mem_of_getElem? (i := 21) rfl), gk_selects _ _ _⟩⟩
theorem vl_RX1_85 : VLk RX1 85 24 := ⟨Or.inl (gw2 (i := 191) rfl (gk_methodLink _ _ _)), mk_24, gw2 (i := 193) rfl (gk_instanceMethod _), List.mem_filter.mpr ⟨List.mem_append_left _ (List.mem_of_getElem? (i := 22) rfl), gk_selects _ _ _⟩⟩
theorem vl_RX5_273 : VLk RX5 273 10 := ⟨Or.inl (gw2 (i := 195) rfl (gk_methodLink _ _ _)), mk_10, gw2 (i := 196) rfl (gk_instanceMethod _), gw2 (i := 197) rfl (gk_selects _ _ _)⟩
theorem sl_RX1_41 : SLk RX1 41 := Or.inr ⟨_, nw2 (i := 199) (w := Cond.fieldLinkNest RX1 41 RX5 "NUMBERS" "[I" "SlideFold") rfl rfl⟩
theorem co_RX5_175 : Cond.constant RX5 175 (i3 (-2147483648)) ∈ gT := gw2 (i := 201) rfl (gk_constant _ _ _)
theorem tl_RX5_234 : TLk RX5 234 265 := ⟨Or.inl (gw2 (i := 202) rfl (gk_methodLink _ _ _)), mk_265, gw2 (i := 203) rfl (gk_static _)⟩
theorem tl_RX5_239 : TLk RX5 239 264 := ⟨Or.inl (gw2 (i := 205) rfl (gk_methodLink _ _ _)), mk_264, gw2 (i := 163) rfl (gk_static _)⟩
theorem vl_RX5_147 : VLk RX5 147 67 := ⟨Or.inl (gw2 (i := 206) rfl (gk_methodLink _ _ _)), mk_67, gw2 (i := 208) rfl (gk_instanceMethod _), List.mem_filter.mpr ⟨List.mem_append_left _ (List.mem_of_getElem? (i := 23) rfl), gk_selects _ _ _⟩⟩
theorem vl_RX5_167 : VLk RX5 167 31 := ⟨Or.inl (gw2 (i := 210) rfl (gk_methodLink _ _ _)), mk_31, gw2 (i := 211) rfl (gk_instanceMethod _), gw2 (i := 212) rfl (gk_selects _ _ _)⟩
theorem vl_RX5_185 : VLk RX5 185 34 := ⟨Or.inl (gw2 (i := 214) rfl (gk_methodLink _ _ _)), mk_34, gw2 (i := 215) rfl (gk_instanceMethod _), gw2 (i := 216) rfl (gk_selects _ _ _)⟩
theorem vl_RX2_89 : VLk RX2 89 36 := ⟨Or.inl (gw2 (i := 218) rfl (gk_methodLink _ _ _)), mk_36, gw2 (i := 220) rfl (gk_instanceMethod _), List.mem_filter.mpr ⟨List.mem_append_left _ (List.mem_of_getElem? (i := 24) rfl), gk_selects _ _ _⟩⟩
theorem ac_RX2_72 : Cond.methodLink RX2 72 arraycopyName ∈ gT ∧ Cond.native arraycopyName ∈ gT ∧ Cond.static arraycopyName ∈ gT ∧ Cond.initialized "java/lang/System" ∈ gT := ⟨gw2 (i := 222) rfl (gk_methodLink _ _ _), gw2 (i := 224) rfl (gk_native _), gw2 (i := 223) rfl (gk_static _), gw1 (i := 11) rfl (gk_initialized _)⟩
theorem tl_RX2_93 : TLk RX2 93 264 := ⟨Or.inl (gw2 (i := 225) rfl (gk_methodLink _ _ _)), mk_264, gw2 (i := 163) rfl (gk_static _)⟩
theorem vl_RX5_192 : VLk RX5 192 3 := ⟨Or.inl (gw2 (i := 226) rfl (gk_methodLink _ _ _)), mk_3, gw2 (i := 227) rfl (gk_instanceMethod _), gw2 (i := 228) rfl (gk_selects _ _ _)⟩
theorem vl_RX0_33 : VLk RX0 33 6 := ⟨Or.inl (gw2 (i := 230) rfl (gk_methodLink _ _ _)), mk_6, gw2 (i := 232) rfl (gk_instanceMethod _), List.mem_filter.mpr ⟨List.mem_append_left _ (List.mem_of_getElem? (i := 25) rfl), gk_selects _ _ _⟩⟩
theorem tl_RX0_43 : TLk RX0 43 265 := ⟨Or.inl (gw2 (i := 234) rfl (gk_methodLink _ _ _)), mk_265, gw2 (i := 203) rfl (gk_static _)⟩
theorem tl_RX0_37 : TLk RX0 37 264 := ⟨Or.inl (gw2 (i := 235) rfl (gk_methodLink _ _ _)), mk_264, gw2 (i := 163) rfl (gk_static _)⟩
theorem vl_RX5_195 : VLk RX5 195 102 := ⟨Or.inl (gw2 (i := 236) rfl (gk_methodLink _ _ _)), mk_102, gw2 (i := 238) rfl (gk_instanceMethod _), List.mem_filter.mpr ⟨List.mem_append_left _ (List.mem_of_getElem? (i := 26) rfl), gk_selects _ _ _⟩⟩
theorem vl_RX5_324 : VLk RX5 324 103 := ⟨Or.inl (gw3 (i := 0) rfl (gk_methodLink _ _ _)), mk_103, gw3 (i := 2) rfl (gk_instanceMethod _), List.mem_filter.mpr ⟨List.mem_append_left _ (List.mem_of_getElem? (i := 27) rfl), gk_selects _ _ _⟩⟩
theorem vl_RX5_256 : VLk RX5 256 11 := ⟨Or.inl (gw3 (i := 4) rfl (gk_methodLink _ _ _)), mk_11, gw3 (i := 5) rfl (gk_instanceMethod _), gw3 (i := 6) rfl (gk_selects _ _ _)⟩
theorem vl_RX1_44 : VLk RX1 44 10 := ⟨Or.inl (gw3 (i := 8) rfl (gk_methodLink _ _ _)), mk_10, gw2 (i := 196) rfl (gk_instanceMethod _), gw2 (i := 197) rfl (gk_selects _ _ _)⟩
theorem vl_RX5_331 : VLk RX5 331 44 := ⟨Or.inl (gw3 (i := 9) rfl (gk_methodLink _ _ _)), mk_44, gw3 (i := 10) rfl (gk_instanceMethod _), gw3 (i := 11) rfl (gk_selects _ _ _)⟩
theorem vl_RX5_182 : VLk RX5 182 69 := ⟨Or.inl (gw3 (i := 13) rfl (gk_methodLink _ _ _)), mk_69, gw3 (i := 15) rfl (gk_instanceMethod _), List.mem_filter.mpr ⟨List.mem_append_left _ (List.mem_of_getElem? (i := 28) rfl), gk_selects _ _ _⟩⟩
theorem vl_RX5_210 : VLk RX5 210 5 := ⟨Or.inl (gw3 (i := 17) rfl (gk_methodLink _ _ _)), mk_5, gw3 (i := 18) rfl (gk_instanceMethod _), gw3 (i := 19) rfl (gk_selects _ _ _)⟩
theorem vl_RX5_201 : VLk RX5 201 33 := ⟨Or.inl (gw3 (i := 21) rfl (gk_methodLink _ _ _)), mk_33, gw3 (i := 22) rfl (gk_instanceMethod _), gw3 (i := 23) rfl (gk_selects _ _ _)⟩
theorem vl_RX5_163 : VLk RX5 163 68 := ⟨Or.inl (gw3 (i := 25) rfl (gk_methodLink _ _ _)), mk_68, gw3 (i := 27) rfl (gk_instanceMethod _), List.mem_filter.mpr ⟨List.mem_append_left _ (List.mem_of_getElem? (i := 29) rfl), gk_selects _ _ _⟩⟩
theorem vl_RX5_179 : VLk RX5 179 35 := ⟨Or.inl (gw3 (i := 29) rfl (gk_methodLink _ _ _)), mk_35, gw3 (i := 30) rfl (gk_instanceMethod _), gw3 (i := 31) rfl (gk_selects _ _ _)⟩
theorem vl_RX5_207 : VLk RX5 207 4 := ⟨Or.inl (gw3 (i := 33) rfl (gk_methodLink _ _ _)), mk_4, gw3 (i := 34) rfl (gk_instanceMethod _), gw3 (i := 35) rfl (gk_selects _ _ _)⟩
theorem vl_RX5_151 : VLk RX5 151 71 := ⟨Or.inl (gw3 (i := 37) rfl (gk_methodLink _ _ _)), mk_71, gw3 (i := 39) rfl (gk_instanceMethod _), List.mem_filter.mpr ⟨List.mem_append_left _ (List.mem_of_getElem? (i := 30) rfl), gk_selects _ _ _⟩⟩
theorem vl_RL_46 : VLk RL 46 62 := ⟨Or.inl (gw3 (i := 41) rfl (gk_methodLink _ _ _)), mk_62, gw3 (i := 42) rfl (gk_instanceMethod _), gw3 (i := 43) rfl (gk_selects _ _ _)⟩
theorem vl_RL_51 : VLk RL 51 63 := ⟨Or.inl (gw3 (i := 45) rfl (gk_methodLink _ _ _)), mk_63, gw3 (i := 46) rfl (gk_instanceMethod _), gw3 (i := 47) rfl (gk_selects _ _ _)⟩
theorem vl_RL_56 : VLk RL 56 64 := ⟨Or.inl (gw3 (i := 49) rfl (gk_methodLink _ _ _)), mk_64, gw3 (i := 50) rfl (gk_instanceMethod _), gw3 (i := 51) rfl (gk_selects _ _ _)⟩
theorem vl_RL_60 : VLk RL 60 65 := ⟨Or.inl (gw3 (i := 53) rfl (gk_methodLink _ _ _)), mk_65, gw3 (i := 54) rfl (gk_instanceMethod _), gw3 (i := 55) rfl (gk_selects _ _ _)⟩
theorem vl_RX5_171 : VLk RX5 171 131 := ⟨Or.inl (gw3 (i := 57) rfl (gk_methodLink _ _ _)), mk_131, gw3 (i := 59) rfl (gk_instanceMethod _), List.mem_filter.mpr ⟨List.mem_append_left _ (List.mem_of_getElem? (i := 31) rfl), gk_selects _ _ _⟩⟩
theorem vl_RL_64 : VLk RL 64 66 := ⟨Or.inl (gw3 (i := 61) rfl (gk_methodLink _ _ _)), mk_66, gw3 (i := 62) rfl (gk_instanceMethod _), gw3 (i := 63) rfl (gk_selects _ _ _)⟩
theorem vl_RL_69 : VLk RL 69 72 := ⟨Or.inl (gw3 (i := 65) rfl (gk_methodLink _ _ _)), mk_72, gw3 (i := 66) rfl (gk_instanceMethod _), gw3 (i := 67) rfl (gk_selects _ _ _)⟩
theorem vl_RL_73 : VLk RL 73 73 := ⟨Or.inl (gw3 (i := 69) rfl (gk_methodLink _ _ _)), mk_73, gw3 (i := 70) rfl (gk_instanceMethod _), gw3 (i := 71) rfl (gk_selects _ _ _)⟩
theorem vl_RX5_248 : VLk RX5 248 130 := ⟨Or.inl (gw3 (i := 73) rfl (gk_methodLink _ _ _)), mk_130, gw3 (i := 75) rfl (gk_instanceMethod _), List.mem_filter.mpr ⟨List.mem_append_left _ (List.mem_of_getElem? (i := 32) rfl), gk_selects _ _ _⟩⟩
theorem vl_RX5_266 : VLk RX5 266 28 := ⟨Or.inl (gw3 (i := 77) rfl (gk_methodLink _ _ _)), mk_28, gw3 (i := 78) rfl (gk_instanceMethod _), gw3 (i := 79) rfl (gk_selects _ _ _)⟩
theorem sl_RX2_82 : SLk RX2 82 := Or.inr ⟨_, nw3 (i := 81) (w := Cond.fieldLinkNest RX2 82 RX5 "NUMBERS" "[I" "SlideFold") rfl rfl⟩
theorem tl_RX2_85 : TLk RX2 85 124 := ⟨Or.inr ⟨"SlideFold", nw3 (i := 82) rfl rfl⟩, mk_124, gw2 (i := 11) rfl (gk_static _)⟩
theorem vl_RL_77 : VLk RL 77 74 := ⟨Or.inl (gw3 (i := 83) rfl (gk_methodLink _ _ _)), mk_74, gw3 (i := 84) rfl (gk_instanceMethod _), gw3 (i := 85) rfl (gk_selects _ _ _)⟩
theorem vl_RL_81 : VLk RL 81 75 := ⟨Or.inl (gw3 (i := 87) rfl (gk_methodLink _ _ _)), mk_75, gw3 (i := 88) rfl (gk_instanceMethod _), gw3 (i := 89) rfl (gk_selects _ _ _)⟩
theorem vl_RL_85 : VLk RL 85 76 := ⟨Or.inl (gw3 (i := 91) rfl (gk_methodLink _ _ _)), mk_76, gw3 (i := 92) rfl (gk_instanceMethod _), gw3 (i := 93) rfl (gk_selects _ _ _)⟩
theorem vl_RL_89 : VLk RL 89 77 := ⟨Or.inl (gw3 (i := 95) rfl (gk_methodLink _ _ _)), mk_77, gw3 (i := 96) rfl (gk_instanceMethod _), gw3 (i := 97) rfl (gk_selects _ _ _)⟩
theorem vl_RL_93 : VLk RL 93 78 := ⟨Or.inl (gw3 (i := 99) rfl (gk_methodLink _ _ _)), mk_78, gw3 (i := 100) rfl (gk_instanceMethod _), gw3 (i := 101) rfl (gk_selects _ _ _)⟩
theorem vl_RL_97 : VLk RL 97 79 := ⟨Or.inl (gw3 (i := 103) rfl (gk_methodLink _ _ _)), mk_79, gw3 (i := 104) rfl (gk_instanceMethod _), gw3 (i := 105) rfl (gk_selects _ _ _)⟩
theorem vl_RX5_262 : VLk RX5 262 80 := ⟨Or.inl (gw3 (i := 107) rfl (gk_methodLink _ _ _)), mk_80, gw3 (i := 108) rfl (gk_instanceMethod _), gw3 (i := 109) rfl (gk_selects _ _ _)⟩
theorem vl_RL_101 : VLk RL 101 80 := ⟨Or.inl (gw3 (i := 111) rfl (gk_methodLink _ _ _)), mk_80, gw3 (i := 108) rfl (gk_instanceMethod _), gw3 (i := 109) rfl (gk_selects _ _ _)⟩
theorem vl_RL_105 : VLk RL 105 81 := ⟨Or.inl (gw3 (i := 112) rfl (gk_methodLink _ _ _)), mk_81, gw3 (i := 113) rfl (gk_instanceMethod _), gw3 (i := 114) rfl (gk_selects _ _ _)⟩
theorem vl_RX5_269 : VLk RX5 269 133 := ⟨Or.inl (gw3 (i := 116) rfl (gk_methodLink _ _ _)), mk_133, gw3 (i := 118) rfl (gk_instanceMethod _), List.mem_filter.mpr ⟨List.mem_append_left _ (List.mem_of_getElem? (i := 33) rfl), gk_selects _ _ _⟩⟩
theorem vl_RL_109 : VLk RL 109 82 := ⟨Or.inl (gw3 (i := 120) rfl (gk_methodLink _ _ _)), mk_82, gw3 (i := 121) rfl (gk_instanceMethod _), gw3 (i := 122) rfl (gk_selects _ _ _)⟩
theorem vl_RL_113 : VLk RL 113 83 := ⟨Or.inl (gw3 (i := 124) rfl (gk_methodLink _ _ _)), mk_83, gw3 (i := 125) rfl (gk_instanceMethod _), gw3 (i := 126) rfl (gk_selects _ _ _)⟩
theorem vl_RL_117 : VLk RL 117 84 := ⟨Or.inl (gw3 (i := 128) rfl (gk_methodLink _ _ _)), mk_84, gw3 (i := 129) rfl (gk_instanceMethod _), gw3 (i := 130) rfl (gk_selects _ _ _)⟩
theorem vl_RX5_275 : VLk RX5 275 12 := ⟨Or.inl (gw3 (i := 132) rfl (gk_methodLink _ _ _)), mk_12, gw3 (i := 133) rfl (gk_instanceMethod _), gw3 (i := 134) rfl (gk_selects _ _ _)⟩
theorem ac_RX1_48 : Cond.methodLink RX1 48 arraycopyName ∈ gT ∧ Cond.native arraycopyName ∈ gT ∧ Cond.static arraycopyName ∈ gT ∧ Cond.initialized "java/lang/System" ∈ gT := ⟨gw3 (i := 136) rfl (gk_methodLink _ _ _), gw2 (i := 224) rfl (gk_native _), gw2 (i := 223) rfl (gk_static _), gw1 (i := 11) rfl (gk_initialized _)⟩
theorem vl_RX5_278 : VLk RX5 278 13 := ⟨Or.inl (gw3 (i := 137) rfl (gk_methodLink _ _ _)), mk_13, gw3 (i := 138) rfl (gk_instanceMethod _), gw3 (i := 139) rfl (gk_selects _ _ _)⟩
theorem vl_RL_153 : VLk RL 153 85 := ⟨Or.inl (gw3 (i := 141) rfl (gk_methodLink _ _ _)), mk_85, gw3 (i := 142) rfl (gk_instanceMethod _), gw3 (i := 143) rfl (gk_selects _ _ _)⟩
theorem vl_RX5_281 : VLk RX5 281 73 := ⟨Or.inl (gw3 (i := 145) rfl (gk_methodLink _ _ _)), mk_73, gw3 (i := 70) rfl (gk_instanceMethod _), gw3 (i := 71) rfl (gk_selects _ _ _)⟩
theorem vl_RL_121 : VLk RL 121 86 := ⟨Or.inl (gw3 (i := 146) rfl (gk_methodLink _ _ _)), mk_86, gw3 (i := 147) rfl (gk_instanceMethod _), gw3 (i := 148) rfl (gk_selects _ _ _)⟩
theorem vl_RL_125 : VLk RL 125 87 := ⟨Or.inl (gw3 (i := 150) rfl (gk_methodLink _ _ _)), mk_87, gw3 (i := 151) rfl (gk_instanceMethod _), gw3 (i := 152) rfl (gk_selects _ _ _)⟩
theorem vl_RL_129 : VLk RL 129 88 := ⟨Or.inl (gw3 (i := 154) rfl (gk_methodLink _ _ _)), mk_88, gw3 (i := 155) rfl (gk_instanceMethod _), gw3 (i := 156) rfl (gk_selects _ _ _)⟩
theorem vl_RL_133 : VLk RL 133 89 := ⟨Or.inl (gw3 (i := 158) rfl (gk_methodLink _ _ _)), mk_89, gw3 (i := 159) rfl (gk_instanceMethod _), gw3 (i := 160) rfl (gk_selects _ _ _)⟩
theorem vl_RL_137 : VLk RL 137 90 := ⟨Or.inl (gw3 (i := 162) rfl (gk_methodLink _ _ _)), mk_90, gw3 (i := 163) rfl (gk_instanceMethod _), gw3 (i := 164) rfl (gk_selects _ _ _)⟩
theorem vl_RL_141 : VLk RL 141 91 := ⟨Or.inl (gw3 (i := 166) rfl (gk_methodLink _ _ _)), mk_91, gw3 (i := 167) rfl (gk_instanceMethod _), gw3 (i := 168) rfl (gk_selects _ _ _)⟩
theorem tl_RX5_285 : TLk RX5 285 128 := ⟨Or.inl (gw3 (i := 170) rfl (gk_methodLink _ _ _)), mk_128, gw3 (i := 171) rfl (gk_static _)⟩
theorem vl_RL_145 : VLk RL 145 92 := ⟨Or.inl (gw3 (i := 173) rfl (gk_methodLink _ _ _)), mk_92, gw3 (i := 174) rfl (gk_instanceMethod _), gw3 (i := 175) rfl (gk_selects _ _ _)⟩
theorem vl_RL_149 : VLk RL 149 93 := ⟨Or.inl (gw3 (i := 177) rfl (gk_methodLink _ _ _)), mk_93, gw3 (i := 178) rfl (gk_instanceMethod _), gw3 (i := 179) rfl (gk_selects _ _ _)⟩
theorem vl_RL_157 : VLk RL 157 94 := ⟨Or.inl (gw3 (i := 181) rfl (gk_methodLink _ _ _)), mk_94, gw3 (i := 182) rfl (gk_instanceMethod _), gw3 (i := 183) rfl (gk_selects _ _ _)⟩
theorem vl_RX5_288 : VLk RX5 288 7 := ⟨Or.inl (gw3 (i := 185) rfl (gk_methodLink _ _ _)), mk_7, gw3 (i := 186) rfl (gk_instanceMethod _), gw3 (i := 187) rfl (gk_selects _ _ _)⟩
theorem vl_RL_161 : VLk RL 161 95 := ⟨Or.inl (gw3 (i := 189) rfl (gk_methodLink _ _ _)), mk_95, gw3 (i := 190) rfl (gk_instanceMethod _), gw3 (i := 191) rfl (gk_selects _ _ _)⟩
theorem vl_RL_206 : VLk RL 206 96 := ⟨Or.inl (gw3 (i := 193) rfl (gk_methodLink _ _ _)), mk_96, gw3 (i := 194) rfl (gk_instanceMethod _), gw3 (i := 195) rfl (gk_selects _ _ _)⟩
theorem vl_RX5_300 : VLk RX5 300 2 := ⟨Or.inl (gw3 (i := 197) rfl (gk_methodLink _ _ _)), mk_2, gw3 (i := 198) rfl (gk_instanceMethod _), gw3 (i := 199) rfl (gk_selects _ _ _)⟩
theorem vl_RL_165 : VLk RL 165 97 := ⟨Or.inl (gw3 (i := 201) rfl (gk_methodLink _ _ _)), mk_97, gw3 (i := 202) rfl (gk_instanceMethod _), gw3 (i := 203) rfl (gk_selects _ _ _)⟩
theorem vl_RX5_308 : VLk RX5 308 37 := ⟨Or.inl (gw3 (i := 205) rfl (gk_methodLink _ _ _)), mk_37, gw3 (i := 206) rfl (gk_instanceMethod _), gw3 (i := 207) rfl (gk_selects _ _ _)⟩
theorem vl_RL_169 : VLk RL 169 98 := ⟨Or.inl (gw3 (i := 209) rfl (gk_methodLink _ _ _)), mk_98, gw3 (i := 210) rfl (gk_instanceMethod _), gw3 (i := 211) rfl (gk_selects _ _ _)⟩
theorem vl_RX5_309 : VLk RX5 309 43 := ⟨Or.inl (gw3 (i := 213) rfl (gk_methodLink _ _ _)), mk_43, gw3 (i := 214) rfl (gk_instanceMethod _), gw3 (i := 215) rfl (gk_selects _ _ _)⟩
theorem vl_RL_173 : VLk RL 173 99 := ⟨Or.inl (gw3 (i := 217) rfl (gk_methodLink _ _ _)), mk_99, gw3 (i := 218) rfl (gk_instanceMethod _), gw3 (i := 219) rfl (gk_selects _ _ _)⟩
theorem vl_RX5_312 : VLk RX5 312 101 := ⟨Or.inl (gw3 (i := 221) rfl (gk_methodLink _ _ _)), mk_101, gw3 (i := 223) rfl (gk_instanceMethod _), List.mem_filter.mpr ⟨List.mem_append_left _ (List.mem_of_getElem? (i := 34) rfl), gk_selects _ _ _⟩⟩
theorem vl_RL_177 : VLk RL 177 100 := ⟨Or.inl (gw3 (i := 225) rfl (gk_methodLink _ _ _)), mk_100, gw3 (i := 226) rfl (gk_instanceMethod _), gw3 (i := 227) rfl (gk_selects _ _ _)⟩
theorem vl_RL_181 : VLk RL 181 104 := ⟨Or.inl (gw3 (i := 229) rfl (gk_methodLink _ _ _)), mk_104, gw3 (i := 230) rfl (gk_instanceMethod _), gw3 (i := 231) rfl (gk_selects _ _ _)⟩
theorem vl_RX5_335 : VLk RX5 335 107 := ⟨Or.inl (gw3 (i := 233) rfl (gk_methodLink _ _ _)), mk_107, gw3 (i := 235) rfl (gk_instanceMethod _), List.mem_filter.mpr ⟨List.mem_append_left _ (List.mem_of_getElem? (i := 35) rfl), gk_selects _ _ _⟩⟩
theorem vl_RX5_338 : VLk RX5 338 39 := ⟨Or.inl (gw3 (i := 237) rfl (gk_methodLink _ _ _)), mk_39, gw3 (i := 238) rfl (gk_instanceMethod _), gw3 (i := 239) rfl (gk_selects _ _ _)⟩
theorem vl_RL_186 : VLk RL 186 105 := ⟨Or.inl (gw4 (i := 1) rfl (gk_methodLink _ _ _)), mk_105, gw4 (i := 2) rfl (gk_instanceMethod _), gw4 (i := 3) rfl (gk_selects _ _ _)⟩
theorem vl_RL_190 : VLk RL 190 106 := ⟨Or.inl (gw4 (i := 5) rfl (gk_methodLink _ _ _)), mk_106, gw4 (i := 6) rfl (gk_instanceMethod _), gw4 (i := 7) rfl (gk_selects _ _ _)⟩
theorem vl_RX5_343 : VLk RX5 343 41 := ⟨Or.inl (gw4 (i := 9) rfl (gk_methodLink _ _ _)), mk_41, gw4 (i := 10) rfl (gk_instanceMethod _), gw4 (i := 11) rfl (gk_selects _ _ _)⟩
theorem vl_RL_194 : VLk RL 194 109 := ⟨Or.inl (gw4 (i := 13) rfl (gk_methodLink _ _ _)), mk_109, gw4 (i := 14) rfl (gk_instanceMethod _), gw4 (i := 15) rfl (gk_selects _ _ _)⟩
theorem vl_RL_198 : VLk RL 198 110 := ⟨Or.inl (gw4 (i := 17) rfl (gk_methodLink _ _ _)), mk_110, gw4 (i := 18) rfl (gk_instanceMethod _), gw4 (i := 19) rfl (gk_selects _ _ _)⟩
theorem vl_RL_202 : VLk RL 202 111 := ⟨Or.inl (gw4 (i := 21) rfl (gk_methodLink _ _ _)), mk_111, gw4 (i := 22) rfl (gk_instanceMethod _), gw4 (i := 23) rfl (gk_selects _ _ _)⟩
theorem vl_RL_210 : VLk RL 210 112 := ⟨Or.inl (gw4 (i := 25) rfl (gk_methodLink _ _ _)), mk_112, gw4 (i := 26) rfl (gk_instanceMethod _), gw4 (i := 27) rfl (gk_selects _ _ _)⟩
theorem vl_RX5_345 : VLk RX5 345 113 := ⟨Or.inl (gw4 (i := 29) rfl (gk_methodLink _ _ _)), mk_113, gw4 (i := 31) rfl (gk_instanceMethod _), List.mem_filter.mpr ⟨List.mem_append_left _ (List.mem_of_getElem? (i := 36) rfl), gk_selects _ _ _⟩⟩
theorem vl_RL_214 : VLk RL 214 114 := ⟨Or.inl (gw4 (i := 33) rfl (gk_methodLink _ _ _)), mk_114, gw4 (i := 34) rfl (gk_instanceMethod _), gw4 (i := 35) rfl (gk_selects _ _ _)⟩
theorem vl_RX5_349 : VLk RX5 349 27 := ⟨Or.inl (gw4 (i := 37) rfl (gk_methodLink _ _ _)), mk_27, gw4 (i := 38) rfl (gk_instanceMethod _), gw4 (i := 39) rfl (gk_selects _ _ _)⟩
theorem vl_RX2_78 : VLk RX2 78 2 := ⟨Or.inl (gw4 (i := 41) rfl (gk_methodLink _ _ _)), mk_2, gw3 (i := 198) rfl (gk_instanceMethod _), gw3 (i := 199) rfl (gk_selects _ _ _)⟩
theorem vl_RL_218 : VLk RL 218 115 := ⟨Or.inl (gw4 (i := 42) rfl (gk_methodLink _ _ _)), mk_115, gw4 (i := 43) rfl (gk_instanceMethod _), gw4 (i := 44) rfl (gk_selects _ _ _)⟩
theorem vl_RL_222 : VLk RL 222 116 := ⟨Or.inl (gw4 (i := 46) rfl (gk_methodLink _ _ _)), mk_116, gw4 (i := 47) rfl (gk_instanceMethod _), gw4 (i := 48) rfl (gk_selects _ _ _)⟩
theorem vl_RX5_351 : VLk RX5 351 118 := ⟨Or.inl (gw4 (i := 50) rfl (gk_methodLink _ _ _)), mk_118, gw4 (i := 52) rfl (gk_instanceMethod _), List.mem_filter.mpr ⟨List.mem_append_left _ (List.mem_of_getElem? (i := 37) rfl), gk_selects _ _ _⟩⟩
theorem vl_RX5_354 : VLk RX5 354 119 := ⟨Or.inl (gw4 (i := 54) rfl (gk_methodLink _ _ _)), mk_119, gw4 (i := 56) rfl (gk_instanceMethod _), List.mem_filter.mpr ⟨List.mem_append_left _ (List.mem_of_getElem? (i := 38) rfl), gk_selects _ _ _⟩⟩
theorem vl_RX5_357 : VLk RX5 357 120 := ⟨Or.inl (gw4 (i := 58) rfl (gk_methodLink _ _ _)), mk_120, gw4 (i := 60) rfl (gk_instanceMethod _), List.mem_filter.mpr ⟨List.mem_append_left _ (List.mem_of_getElem? (i := 39) rfl), gk_selects _ _ _⟩⟩
theorem vl_RX5_360 : VLk RX5 360 121 := ⟨Or.inl (gw4 (i := 62) rfl (gk_methodLink _ _ _)), mk_121, gw4 (i := 64) rfl (gk_instanceMethod _), List.mem_filter.mpr ⟨List.mem_append_left _ (List.mem_of_getElem? (i := 40) rfl), gk_selects _ _ _⟩⟩
theorem vl_RX5_363 : VLk RX5 363 122 := ⟨Or.inl (gw4 (i := 66) rfl (gk_methodLink _ _ _)), mk_122, gw4 (i := 68) rfl (gk_instanceMethod _), List.mem_filter.mpr ⟨List.mem_append_left _ (List.mem_of_getElem? (i := 41) rfl), gk_selects _ _ _⟩⟩
theorem vl_RX5_366 : VLk RX5 366 123 := ⟨Or.inl (gw4 (i := 70) rfl (gk_methodLink _ _ _)), mk_123, gw4 (i := 72) rfl (gk_instanceMethod _), List.mem_filter.mpr ⟨List.mem_append_left _ (List.mem_of_getElem? (i := 42) rfl), gk_selects _ _ _⟩⟩
theorem il_RL_12 : ILk RL 12 135 := ⟨Or.inl (gw4 (i := 76) rfl (gk_methodLink _ _ _)), mk_135, gw4 (i := 77) rfl (gk_instanceMethod _), rfl, rfl⟩
theorem fl_RX6_7 : FLk RX6 7 6 0 (.array .int) := ⟨RX6, TX6, 23, tyX6, rfl, rfl, by decide, inG6, tyX6_ok, nmX6, rfl, rfl, Or.inl (gw4 (i := 80) rfl (gk_fieldLink _ _ _ _ _))⟩
theorem fl_RX6_13 : FLk RX6 13 6 1 (.array .int) := ⟨RX6, TX6, 23, tyX6, rfl, rfl, by decide, inG6, tyX6_ok, nmX6, rfl, rfl, Or.inl (gw4 (i := 81) rfl (gk_fieldLink _ _ _ _ _))⟩
theorem fl_RX6_16 : FLk RX6 16 6 2 (.array .int) := ⟨RX6, TX6, 23, tyX6, rfl, rfl, by decide, inG6, tyX6_ok, nmX6, rfl, rfl, Or.inl (gw4 (i := 82) rfl (gk_fieldLink _ _ _ _ _))⟩
theorem fl_RX6_19 : FLk RX6 19 6 3 (.array .int) := ⟨RX6, TX6, 23, tyX6, rfl, rfl, by decide, inG6, tyX6_ok, nmX6, rfl, rfl, Or.inl (gw4 (i := 83) rfl (gk_fieldLink _ _ _ _ _))⟩
theorem fl_RX6_22 : FLk RX6 22 6 4 (.array .int) := ⟨RX6, TX6, 23, tyX6, rfl, rfl, by decide, inG6, tyX6_ok, nmX6, rfl, rfl, Or.inl (gw4 (i := 84) rfl (gk_fieldLink _ _ _ _ _))⟩
theorem fl_RX6_25 : FLk RX6 25 6 5 (.array .int) := ⟨RX6, TX6, 23, tyX6, rfl, rfl, by decide, inG6, tyX6_ok, nmX6, rfl, rfl, Or.inl (gw4 (i := 85) rfl (gk_fieldLink _ _ _ _ _))⟩
theorem fl_RX6_28 : FLk RX6 28 6 6 (.array .int) := ⟨RX6, TX6, 23, tyX6, rfl, rfl, by decide, inG6, tyX6_ok, nmX6, rfl, rfl, Or.inl (gw4 (i := 86) rfl (gk_fieldLink _ _ _ _ _))⟩
theorem fl_RX6_31 : FLk RX6 31 6 7 (.array .int) := ⟨RX6, TX6, 23, tyX6, rfl, rfl, by decide, inG6, tyX6_ok, nmX6, rfl, rfl, Or.inl (gw4 (i := 87) rfl (gk_fieldLink _ _ _ _ _))⟩
theorem fl_RX6_105 : FLk RX6 105 6 8 .int := ⟨RX6, TX6, 23, tyX6, rfl, rfl, by decide, inG6, tyX6_ok, nmX6, rfl, rfl, Or.inl (gw4 (i := 88) rfl (gk_fieldLink _ _ _ _ _))⟩
theorem fw_RX6_105 : FLw RX6 105 6 8 .int := ⟨fl_RX6_105, fun C T N h => by cases h; rfl⟩
theorem fl_RX6_34 : FLk RX6 34 6 9 (.array .int) := ⟨RX6, TX6, 23, tyX6, rfl, rfl, by decide, inG6, tyX6_ok, nmX6, rfl, rfl, Or.inl (gw4 (i := 89) rfl (gk_fieldLink _ _ _ _ _))⟩
theorem fl_RX6_37 : FLk RX6 37 6 10 (.array .int) := ⟨RX6, TX6, 23, tyX6, rfl, rfl, by decide, inG6, tyX6_ok, nmX6, rfl, rfl, Or.inl (gw4 (i := 90) rfl (gk_fieldLink _ _ _ _ _))⟩
theorem fl_RX6_40 : FLk RX6 40 6 11 (.array .int) := ⟨RX6, TX6, 23, tyX6, rfl, rfl, by decide, inG6, tyX6_ok, nmX6, rfl, rfl, Or.inl (gw4 (i := 91) rfl (gk_fieldLink _ _ _ _ _))⟩
theorem fl_RX6_43 : FLk RX6 43 6 12 (.array .int) := ⟨RX6, TX6, 23, tyX6, rfl, rfl, by decide, inG6, tyX6_ok, nmX6, rfl, rfl, Or.inl (gw4 (i := 92) rfl (gk_fieldLink _ _ _ _ _))⟩
theorem fl_RX6_46 : FLk RX6 46 6 13 (.array .int) := ⟨RX6, TX6, 23, tyX6, rfl, rfl, by decide, inG6, tyX6_ok, nmX6, rfl, rfl, Or.inl (gw4 (i := 93) rfl (gk_fieldLink _ _ _ _ _))⟩
theorem fl_RX6_49 : FLk RX6 49 6 14 (.array .int) := ⟨RX6, TX6, 23, tyX6, rfl, rfl, by decide, inG6, tyX6_ok, nmX6, rfl, rfl, Or.inl (gw4 (i := 94) rfl (gk_fieldLink _ _ _ _ _))⟩
theorem fl_RX6_52 : FLk RX6 52 6 15 (.array .int) := ⟨RX6, TX6, 23, tyX6, rfl, rfl, by decide, inG6, tyX6_ok, nmX6, rfl, rfl, Or.inl (gw4 (i := 95) rfl (gk_fieldLink _ _ _ _ _))⟩
theorem fl_RX6_55 : FLk RX6 55 6 16 (.array .int) := ⟨RX6, TX6, 23, tyX6, rfl, rfl, by decide, inG6, tyX6_ok, nmX6, rfl, rfl, Or.inl (gw4 (i := 96) rfl (gk_fieldLink _ _ _ _ _))⟩
theorem fl_RX6_58 : FLk RX6 58 6 17 (.array .int) := ⟨RX6, TX6, 23, tyX6, rfl, rfl, by decide, inG6, tyX6_ok, nmX6, rfl, rfl, Or.inl (gw4 (i := 97) rfl (gk_fieldLink _ _ _ _ _))⟩
theorem fl_RX6_61 : FLk RX6 61 6 18 (.array .int) := ⟨RX6, TX6, 23, tyX6, rfl, rfl, by decide, inG6, tyX6_ok, nmX6, rfl, rfl, Or.inl (gw4 (i := 98) rfl (gk_fieldLink _ _ _ _ _))⟩
theorem fl_RX6_64 : FLk RX6 64 6 19 (.array .int) := ⟨RX6, TX6, 23, tyX6, rfl, rfl, by decide, inG6, tyX6_ok, nmX6, rfl, rfl, Or.inl (gw4 (i := 99) rfl (gk_fieldLink _ _ _ _ _))⟩
theorem fl_RX6_67 : FLk RX6 67 6 20 (.array .int) := ⟨RX6, TX6, 23, tyX6, rfl, rfl, by decide, inG6, tyX6_ok, nmX6, rfl, rfl, Or.inl (gw4 (i := 100) rfl (gk_fieldLink _ _ _ _ _))⟩
theorem fl_RX6_70 : FLk RX6 70 6 21 (.array .int) := ⟨RX6, TX6, 23, tyX6, rfl, rfl, by decide, inG6, tyX6_ok, nmX6, rfl, rfl, Or.inl (gw4 (i := 101) rfl (gk_fieldLink _ _ _ _ _))⟩
theorem fl_RX6_73 : FLk RX6 73 6 22 (.array .int) := ⟨RX6, TX6, 23, tyX6, rfl, rfl, by decide, inG6, tyX6_ok, nmX6, rfl, rfl, Or.inl (gw4 (i := 102) rfl (gk_fieldLink _ _ _ _ _))⟩
theorem vl_RL_17 : VLk RL 17 143 := ⟨Or.inl (gw4 (i := 150) rfl (gk_methodLink _ _ _)), mk_143, gw4 (i := 151) rfl (gk_instanceMethod _), gw4 (i := 152) rfl (gk_selects _ _ _)⟩
theorem tl_RX6_76 : TLk RX6 76 136 := ⟨Or.inl (gw4 (i := 154) rfl (gk_methodLink _ _ _)), mk_136, gw4 (i := 155) rfl (gk_static _)⟩
theorem vl_RX6_84 : VLk RX6 84 142 := ⟨Or.inl (gw4 (i := 157) rfl (gk_methodLink _ _ _)), mk_142, gw4 (i := 159) rfl (gk_instanceMethod _), List.mem_filter.mpr ⟨List.mem_append_left _ (List.mem_of_getElem? (i := 43) rfl), gk_selects _ _ _⟩⟩
theorem vl_RX6_80 : VLk RX6 80 138 := ⟨Or.inl (gw4 (i := 161) rfl (gk_methodLink _ _ _)), mk_138, gw4 (i := 163) rfl (gk_instanceMethod _), List.mem_filter.mpr ⟨List.mem_append_left _ (List.mem_of_getElem? (i := 44) rfl), gk_selects _ _ _⟩⟩
theorem vl_RL_21 : VLk RL 21 144 := ⟨Or.inl (gw4 (i := 165) rfl (gk_methodLink _ _ _)), mk_144, gw4 (i := 166) rfl (gk_instanceMethod _), gw4 (i := 167) rfl (gk_selects _ _ _)⟩
theorem vl_RL_26 : VLk RL 26 148 := ⟨Or.inl (gw4 (i := 169) rfl (gk_methodLink _ _ _)), mk_148, gw4 (i := 170) rfl (gk_instanceMethod _), gw4 (i := 171) rfl (gk_selects _ _ _)⟩
theorem vl_RX6_94 : VLk RX6 94 149 := ⟨Or.inl (gw4 (i := 173) rfl (gk_methodLink _ _ _)), mk_149, gw4 (i := 175) rfl (gk_instanceMethod _), List.mem_filter.mpr ⟨List.mem_append_left _ (List.mem_of_getElem? (i := 45) rfl), gk_selects _ _ _⟩⟩
theorem vl_RX6_91 : VLk RX6 91 146 := ⟨Or.inl (gw4 (i := 177) rfl (gk_methodLink _ _ _)), mk_146, gw4 (i := 179) rfl (gk_instanceMethod _), List.mem_filter.mpr ⟨List.mem_append_left _ (List.mem_of_getElem? (i := 46) rfl), gk_selects _ _ _⟩⟩
theorem vl_RX6_88 : VLk RX6 88 145 := ⟨Or.inl (gw4 (i := 181) rfl (gk_methodLink _ _ _)), mk_145, gw4 (i := 183) rfl (gk_instanceMethod _), List.mem_filter.mpr ⟨List.mem_append_left _ (List.mem_of_getElem? (i := 47) rfl), gk_selects _ _ _⟩⟩
theorem vl_RX6_98 : VLk RX6 98 147 := ⟨Or.inl (gw4 (i := 185) rfl (gk_methodLink _ _ _)), mk_147, gw4 (i := 187) rfl (gk_instanceMethod _), List.mem_filter.mpr ⟨List.mem_append_left _ (List.mem_of_getElem? (i := 48) rfl), gk_selects _ _ _⟩⟩
theorem vl_RL_30 : VLk RL 30 151 := ⟨Or.inl (gw4 (i := 189) rfl (gk_methodLink _ _ _)), mk_151, gw4 (i := 190) rfl (gk_instanceMethod _), gw4 (i := 191) rfl (gk_selects _ _ _)⟩
theorem vl_RX6_101 : VLk RX6 101 150 := ⟨Or.inl (gw4 (i := 193) rfl (gk_methodLink _ _ _)), mk_150, gw4 (i := 195) rfl (gk_instanceMethod _), List.mem_filter.mpr ⟨List.mem_append_left _ (List.mem_of_getElem? (i := 49) rfl), gk_selects _ _ _⟩⟩
theorem vl_RL_35 : VLk RL 35 174 := ⟨Or.inl (gw4 (i := 197) rfl (gk_methodLink _ _ _)), mk_174, gw4 (i := 198) rfl (gk_instanceMethod _), gw4 (i := 199) rfl (gk_selects _ _ _)⟩
theorem vl_RX6_173 : VLk RX6 173 139 := ⟨Or.inl (gw4 (i := 201) rfl (gk_methodLink _ _ _)), mk_139, gw4 (i := 203) rfl (gk_instanceMethod _), List.mem_filter.mpr ⟨List.mem_append_left _ (List.mem_of_getElem? (i := 50) rfl), gk_selects _ _ _⟩⟩
theorem vl_RX6_176 : VLk RX6 176 182 := ⟨Or.inl (gw4 (i := 205) rfl (gk_methodLink _ _ _)), mk_182, gw4 (i := 207) rfl (gk_instanceMethod _), List.mem_filter.mpr ⟨List.mem_append_left _ (List.mem_of_getElem? (i := 51) rfl), gk_selects _ _ _⟩⟩
theorem vl_RX6_179 : VLk RX6 179 198 := ⟨Or.inl (gw4 (i := 209) rfl (gk_methodLink _ _ _)), mk_198, gw4 (i := 211) rfl (gk_instanceMethod _), List.mem_filter.mpr ⟨List.mem_append_left _ (List.mem_of_getElem? (i := 52) rfl), gk_selects _ _ _⟩⟩
theorem vl_RX6_182 : VLk RX6 182 175 := ⟨Or.inl (gw4 (i := 213) rfl (gk_methodLink _ _ _)), mk_175, gw4 (i := 215) rfl (gk_instanceMethod _), List.mem_filter.mpr ⟨List.mem_append_left _ (List.mem_of_getElem? (i := 53) rfl), gk_selects _ _ _⟩⟩
theorem vl_RL_40 : VLk RL 40 176 := ⟨Or.inl (gw4 (i := 217) rfl (gk_methodLink _ _ _)), mk_176, gw4 (i := 218) rfl (gk_instanceMethod _), gw4 (i := 219) rfl (gk_selects _ _ _)⟩
theorem vl_RX6_124 : VLk RX6 124 137 := ⟨Or.inl (gw4 (i := 221) rfl (gk_methodLink _ _ _)), mk_137, gw4 (i := 223) rfl (gk_instanceMethod _), List.mem_filter.mpr ⟨List.mem_append_left _ (List.mem_of_getElem? (i := 54) rfl), gk_selects _ _ _⟩⟩
theorem vl_RL_160 : VLk RL 160 180 := ⟨Or.inl (gw4 (i := 225) rfl (gk_methodLink _ _ _)), mk_180, gw4 (i := 226) rfl (gk_instanceMethod _), gw4 (i := 227) rfl (gk_selects _ _ _)⟩
theorem vl_RL_164 : VLk RL 164 181 := ⟨Or.inl (gw4 (i := 229) rfl (gk_methodLink _ _ _)), mk_181, gw4 (i := 230) rfl (gk_instanceMethod _), gw4 (i := 231) rfl (gk_selects _ _ _)⟩
theorem vl_RL_172 : VLk RL 172 186 := ⟨Or.inl (gw4 (i := 233) rfl (gk_methodLink _ _ _)), mk_186, gw4 (i := 234) rfl (gk_instanceMethod _), gw4 (i := 235) rfl (gk_selects _ _ _)⟩
theorem vl_RX6_207 : VLk RX6 207 157 := ⟨Or.inl (gw4 (i := 237) rfl (gk_methodLink _ _ _)), mk_157, gw4 (i := 239) rfl (gk_instanceMethod _), List.mem_filter.mpr ⟨List.mem_append_left _ (List.mem_of_getElem? (i := 55) rfl), gk_selects _ _ _⟩⟩
theorem tl_RX6_127 : TLk RX6 127 156 := ⟨Or.inl (gw5 (i := 1) rfl (gk_methodLink _ _ _)), mk_156, gw5 (i := 2) rfl (gk_static _)⟩
theorem vl_RX6_203 : VLk RX6 203 184 := ⟨Or.inl (gw5 (i := 4) rfl (gk_methodLink _ _ _)), mk_184, gw5 (i := 6) rfl (gk_instanceMethod _), List.mem_filter.mpr ⟨List.mem_append_left _ (List.mem_of_getElem? (i := 56) rfl), gk_selects _ _ _⟩⟩
theorem vl_RX6_194 : VLk RX6 194 155 := ⟨Or.inl (gw5 (i := 8) rfl (gk_methodLink _ _ _)), mk_155, gw5 (i := 10) rfl (gk_instanceMethod _), List.mem_filter.mpr ⟨List.mem_append_left _ (List.mem_of_getElem? (i := 57) rfl), gk_selects _ _ _⟩⟩
theorem vl_RX6_113 : VLk RX6 113 152 := ⟨Or.inl (gw5 (i := 12) rfl (gk_methodLink _ _ _)), mk_152, gw5 (i := 14) rfl (gk_instanceMethod _), List.mem_filter.mpr ⟨List.mem_append_left _ (List.mem_of_getElem? (i := 58) rfl), gk_selects _ _ _⟩⟩
theorem vl_RX6_116 : VLk RX6 116 141 := ⟨Or.inl (gw5 (i := 16) rfl (gk_methodLink _ _ _)), mk_141, gw5 (i := 18) rfl (gk_instanceMethod _), List.mem_filter.mpr ⟨List.mem_append_left _ (List.mem_of_getElem? (i := 59) rfl), gk_selects _ _ _⟩⟩
theorem vl_RX6_120 : VLk RX6 120 154 := ⟨Or.inl (gw5 (i := 20) rfl (gk_methodLink _ _ _)), mk_154, gw5 (i := 22) rfl (gk_instanceMethod _), List.mem_filter.mpr ⟨List.mem_append_left _ (List.mem_of_getElem? (i := 60) rfl), gk_selects _ _ _⟩⟩
theorem vl_RX6_109 : VLk RX6 109 153 := ⟨Or.inl (gw5 (i := 24) rfl (gk_methodLink _ _ _)), mk_153, gw5 (i := 26) rfl (gk_instanceMethod _), List.mem_filter.mpr ⟨List.mem_append_left _ (List.mem_of_getElem? (i := 61) rfl), gk_selects _ _ _⟩⟩
theorem vl_RX6_197 : VLk RX6 197 159 := ⟨Or.inl (gw5 (i := 28) rfl (gk_methodLink _ _ _)), mk_159, gw5 (i := 30) rfl (gk_instanceMethod _), List.mem_filter.mpr ⟨List.mem_append_left _ (List.mem_of_getElem? (i := 62) rfl), gk_selects _ _ _⟩⟩
theorem co_RX6_160 : Cond.constant RX6 160 (i3 (-2147483648)) ∈ gT := gw5 (i := 32) rfl (gk_constant _ _ _)
theorem vl_RX6_161 : VLk RX6 161 158 := ⟨Or.inl (gw5 (i := 33) rfl (gk_methodLink _ _ _)), mk_158, gw5 (i := 35) rfl (gk_instanceMethod _), List.mem_filter.mpr ⟨List.mem_append_left _ (List.mem_of_getElem? (i := 63) rfl), gk_selects _ _ _⟩⟩
theorem vl_RX6_130 : VLk RX6 130 160 := ⟨Or.inl (gw5 (i := 37) rfl (gk_methodLink _ _ _)), mk_160, gw5 (i := 39) rfl (gk_instanceMethod _), List.mem_filter.mpr ⟨List.mem_append_left _ (List.mem_of_getElem? (i := 64) rfl), gk_selects _ _ _⟩⟩
theorem vl_RX6_133 : VLk RX6 133 161 := ⟨Or.inl (gw5 (i := 41) rfl (gk_methodLink _ _ _)), mk_161, gw5 (i := 43) rfl (gk_instanceMethod _), List.mem_filter.mpr ⟨List.mem_append_left _ (List.mem_of_getElem? (i := 65) rfl), gk_selects _ _ _⟩⟩
theorem vl_RX6_136 : VLk RX6 136 163 := ⟨Or.inl (gw5 (i := 45) rfl (gk_methodLink _ _ _)), mk_163, gw5 (i := 47) rfl (gk_instanceMethod _), List.mem_filter.mpr ⟨List.mem_append_left _ (List.mem_of_getElem? (i := 66) rfl), gk_selects _ _ _⟩⟩
theorem tl_RX6_164 : TLk RX6 164 162 := ⟨Or.inl (gw5 (i := 49) rfl (gk_methodLink _ _ _)), mk_162, gw5 (i := 50) rfl (gk_static _)⟩
theorem vl_RX6_139 : VLk RX6 139 164 := ⟨Or.inl (gw5 (i := 52) rfl (gk_methodLink _ _ _)), mk_164, gw5 (i := 54) rfl (gk_instanceMethod _), List.mem_filter.mpr ⟨List.mem_append_left _ (List.mem_of_getElem? (i := 67) rfl), gk_selects _ _ _⟩⟩
theorem vl_RX6_142 : VLk RX6 142 165 := ⟨Or.inl (gw5 (i := 56) rfl (gk_methodLink _ _ _)), mk_165, gw5 (i := 58) rfl (gk_instanceMethod _), List.mem_filter.mpr ⟨List.mem_append_left _ (List.mem_of_getElem? (i := 68) rfl), gk_selects _ _ _⟩⟩
theorem tl_RX6_167 : TLk RX6 167 166 := ⟨Or.inl (gw5 (i := 60) rfl (gk_methodLink _ _ _)), mk_166, gw5 (i := 61) rfl (gk_static _)⟩
theorem vl_RX6_145 : VLk RX6 145 167 := ⟨Or.inl (gw5 (i := 63) rfl (gk_methodLink _ _ _)), mk_167, gw5 (i := 65) rfl (gk_instanceMethod _), List.mem_filter.mpr ⟨List.mem_append_left _ (List.mem_of_getElem? (i := 69) rfl), gk_selects _ _ _⟩⟩
theorem vl_RX6_148 : VLk RX6 148 169 := ⟨Or.inl (gw5 (i := 67) rfl (gk_methodLink _ _ _)), mk_169, gw5 (i := 69) rfl (gk_instanceMethod _), List.mem_filter.mpr ⟨List.mem_append_left _ (List.mem_of_getElem? (i := 70) rfl), gk_selects _ _ _⟩⟩
theorem vl_RX6_170 : VLk RX6 170 168 := ⟨Or.inl (gw5 (i := 71) rfl (gk_methodLink _ _ _)), mk_168, gw5 (i := 73) rfl (gk_instanceMethod _), List.mem_filter.mpr ⟨List.mem_append_left _ (List.mem_of_getElem? (i := 71) rfl), gk_selects _ _ _⟩⟩
theorem vl_RX6_151 : VLk RX6 151 170 := ⟨Or.inl (gw5 (i := 75) rfl (gk_methodLink _ _ _)), mk_170, gw5 (i := 77) rfl (gk_instanceMethod _), List.mem_filter.mpr ⟨List.mem_append_left _ (List.mem_of_getElem? (i := 72) rfl), gk_selects _ _ _⟩⟩
theorem vl_RX6_154 : VLk RX6 154 171 := ⟨Or.inl (gw5 (i := 79) rfl (gk_methodLink _ _ _)), mk_171, gw5 (i := 81) rfl (gk_instanceMethod _), List.mem_filter.mpr ⟨List.mem_append_left _ (List.mem_of_getElem? (i := 73) rfl), gk_selects _ _ _⟩⟩
theorem vl_RX6_157 : VLk RX6 157 172 := ⟨Or.inl (gw5 (i := 83) rfl (gk_methodLink _ _ _)), mk_172, gw5 (i := 85) rfl (gk_instanceMethod _), List.mem_filter.mpr ⟨List.mem_append_left _ (List.mem_of_getElem? (i := 74) rfl), gk_selects _ _ _⟩⟩
theorem tl_RX6_200 : TLk RX6 200 173 := ⟨Or.inl (gw5 (i := 87) rfl (gk_methodLink _ _ _)), mk_173, gw5 (i := 88) rfl (gk_static _)⟩
theorem vl_RL_176 : VLk RL 176 187 := ⟨Or.inl (gw5 (i := 90) rfl (gk_methodLink _ _ _)), mk_187, gw5 (i := 91) rfl (gk_instanceMethod _), gw5 (i := 92) rfl (gk_selects _ _ _)⟩
theorem vl_RX6_210 : VLk RX6 210 183 := ⟨Or.inl (gw5 (i := 94) rfl (gk_methodLink _ _ _)), mk_183, gw5 (i := 96) rfl (gk_instanceMethod _), List.mem_filter.mpr ⟨List.mem_append_left _ (List.mem_of_getElem? (i := 75) rfl), gk_selects _ _ _⟩⟩
theorem vl_RL_180 : VLk RL 180 188 := ⟨Or.inl (gw5 (i := 98) rfl (gk_methodLink _ _ _)), mk_188, gw5 (i := 99) rfl (gk_instanceMethod _), gw5 (i := 100) rfl (gk_selects _ _ _)⟩
theorem vl_RL_185 : VLk RL 185 199 := ⟨Or.inl (gw5 (i := 102) rfl (gk_methodLink _ _ _)), mk_199, gw5 (i := 103) rfl (gk_instanceMethod _), gw5 (i := 104) rfl (gk_selects _ _ _)⟩
theorem co_RX6_239 : Cond.constant RX6 239 (i3 (100000)) ∈ gT := gw5 (i := 106) rfl (gk_constant _ _ _)
theorem vl_RX6_240 : VLk RX6 240 197 := ⟨Or.inl (gw5 (i := 107) rfl (gk_methodLink _ _ _)), mk_197, gw5 (i := 109) rfl (gk_instanceMethod _), List.mem_filter.mpr ⟨List.mem_append_left _ (List.mem_of_getElem? (i := 76) rfl), gk_selects _ _ _⟩⟩
theorem vl_RL_189 : VLk RL 189 200 := ⟨Or.inl (gw5 (i := 111) rfl (gk_methodLink _ _ _)), mk_200, gw5 (i := 112) rfl (gk_instanceMethod _), gw5 (i := 113) rfl (gk_selects _ _ _)⟩
theorem vl_RL_193 : VLk RL 193 201 := ⟨Or.inl (gw5 (i := 115) rfl (gk_methodLink _ _ _)), mk_201, gw5 (i := 116) rfl (gk_instanceMethod _), gw5 (i := 117) rfl (gk_selects _ _ _)⟩
theorem vl_RL_45 : VLk RL 45 205 := ⟨Or.inl (gw5 (i := 119) rfl (gk_methodLink _ _ _)), mk_205, gw5 (i := 120) rfl (gk_instanceMethod _), gw5 (i := 121) rfl (gk_selects _ _ _)⟩
theorem vl_RX6_247 : VLk RX6 247 202 := ⟨Or.inl (gw5 (i := 123) rfl (gk_methodLink _ _ _)), mk_202, gw5 (i := 125) rfl (gk_instanceMethod _), List.mem_filter.mpr ⟨List.mem_append_left _ (List.mem_of_getElem? (i := 77) rfl), gk_selects _ _ _⟩⟩
theorem vl_RX6_188 : VLk RX6 188 140 := ⟨Or.inl (gw5 (i := 127) rfl (gk_methodLink _ _ _)), mk_140, gw5 (i := 129) rfl (gk_instanceMethod _), List.mem_filter.mpr ⟨List.mem_append_left _ (List.mem_of_getElem? (i := 78) rfl), gk_selects _ _ _⟩⟩
theorem vl_RX6_250 : VLk RX6 250 203 := ⟨Or.inl (gw5 (i := 131) rfl (gk_methodLink _ _ _)), mk_203, gw5 (i := 133) rfl (gk_instanceMethod _), List.mem_filter.mpr ⟨List.mem_append_left _ (List.mem_of_getElem? (i := 79) rfl), gk_selects _ _ _⟩⟩
theorem vl_RX6_256 : VLk RX6 256 204 := ⟨Or.inl (gw5 (i := 135) rfl (gk_methodLink _ _ _)), mk_204, gw5 (i := 137) rfl (gk_instanceMethod _), List.mem_filter.mpr ⟨List.mem_append_left _ (List.mem_of_getElem? (i := 80) rfl), gk_selects _ _ _⟩⟩
theorem vl_RX6_243 : VLk RX6 243 213 := ⟨Or.inl (gw5 (i := 139) rfl (gk_methodLink _ _ _)), mk_213, gw5 (i := 141) rfl (gk_instanceMethod _), List.mem_filter.mpr ⟨List.mem_append_left _ (List.mem_of_getElem? (i := 81) rfl), gk_selects _ _ _⟩⟩
theorem vl_RX6_253 : VLk RX6 253 194 := ⟨Or.inl (gw5 (i := 143) rfl (gk_methodLink _ _ _)), mk_194, gw5 (i := 145) rfl (gk_instanceMethod _), List.mem_filter.mpr ⟨List.mem_append_left _ (List.mem_of_getElem? (i := 82) rfl), gk_selects _ _ _⟩⟩
theorem vl_RX6_224 : VLk RX6 224 191 := ⟨Or.inl (gw5 (i := 147) rfl (gk_methodLink _ _ _)), mk_191, gw5 (i := 149) rfl (gk_instanceMethod _), List.mem_filter.mpr ⟨List.mem_append_left _ (List.mem_of_getElem? (i := 83) rfl), gk_selects _ _ _⟩⟩
theorem vl_RX6_217 : VLk RX6 217 189 := ⟨Or.inl (gw5 (i := 151) rfl (gk_methodLink _ _ _)), mk_189, gw5 (i := 153) rfl (gk_instanceMethod _), List.mem_filter.mpr ⟨List.mem_append_left _ (List.mem_of_getElem? (i := 84) rfl), gk_selects _ _ _⟩⟩
theorem vl_RX6_213 : VLk RX6 213 190 := ⟨Or.inl (gw5 (i := 155) rfl (gk_methodLink _ _ _)), mk_190, gw5 (i := 157) rfl (gk_instanceMethod _), List.mem_filter.mpr ⟨List.mem_append_left _ (List.mem_of_getElem? (i := 85) rfl), gk_selects _ _ _⟩⟩
theorem vl_RX6_221 : VLk RX6 221 177 := ⟨Or.inl (gw5 (i := 159) rfl (gk_methodLink _ _ _)), mk_177, gw5 (i := 161) rfl (gk_instanceMethod _), List.mem_filter.mpr ⟨List.mem_append_left _ (List.mem_of_getElem? (i := 86) rfl), gk_selects _ _ _⟩⟩
theorem vl_RX6_185 : VLk RX6 185 178 := ⟨Or.inl (gw5 (i := 163) rfl (gk_methodLink _ _ _)), mk_178, gw5 (i := 165) rfl (gk_instanceMethod _), List.mem_filter.mpr ⟨List.mem_append_left _ (List.mem_of_getElem? (i := 87) rfl), gk_selects _ _ _⟩⟩
theorem vl_RX6_191 : VLk RX6 191 185 := ⟨Or.inl (gw5 (i := 167) rfl (gk_methodLink _ _ _)), mk_185, gw5 (i := 169) rfl (gk_instanceMethod _), List.mem_filter.mpr ⟨List.mem_append_left _ (List.mem_of_getElem? (i := 88) rfl), gk_selects _ _ _⟩⟩
theorem vl_RX6_227 : VLk RX6 227 179 := ⟨Or.inl (gw5 (i := 171) rfl (gk_methodLink _ _ _)), mk_179, gw5 (i := 173) rfl (gk_instanceMethod _), List.mem_filter.mpr ⟨List.mem_append_left _ (List.mem_of_getElem? (i := 89) rfl), gk_selects _ _ _⟩⟩
theorem vl_RX6_230 : VLk RX6 230 193 := ⟨Or.inl (gw5 (i := 175) rfl (gk_methodLink _ _ _)), mk_193, gw5 (i := 177) rfl (gk_instanceMethod _), List.mem_filter.mpr ⟨List.mem_append_left _ (List.mem_of_getElem? (i := 90) rfl), gk_selects _ _ _⟩⟩
theorem vl_RX6_233 : VLk RX6 233 192 := ⟨Or.inl (gw5 (i := 179) rfl (gk_methodLink _ _ _)), mk_192, gw5 (i := 181) rfl (gk_instanceMethod _), List.mem_filter.mpr ⟨List.mem_append_left _ (List.mem_of_getElem? (i := 91) rfl), gk_selects _ _ _⟩⟩
theorem vl_RX6_259 : VLk RX6 259 196 := ⟨Or.inl (gw5 (i := 183) rfl (gk_methodLink _ _ _)), mk_196, gw5 (i := 185) rfl (gk_instanceMethod _), List.mem_filter.mpr ⟨List.mem_append_left _ (List.mem_of_getElem? (i := 92) rfl), gk_selects _ _ _⟩⟩
theorem vl_RX6_236 : VLk RX6 236 195 := ⟨Or.inl (gw5 (i := 187) rfl (gk_methodLink _ _ _)), mk_195, gw5 (i := 189) rfl (gk_instanceMethod _), List.mem_filter.mpr ⟨List.mem_append_left _ (List.mem_of_getElem? (i := 93) rfl), gk_selects _ _ _⟩⟩
theorem vl_RL_50 : VLk RL 50 206 := ⟨Or.inl (gw5 (i := 191) rfl (gk_methodLink _ _ _)), mk_206, gw5 (i := 192) rfl (gk_instanceMethod _), gw5 (i := 193) rfl (gk_selects _ _ _)⟩
theorem vl_RL_55 : VLk RL 55 207 := ⟨Or.inl (gw5 (i := 195) rfl (gk_methodLink _ _ _)), mk_207, gw5 (i := 196) rfl (gk_instanceMethod _), gw5 (i := 197) rfl (gk_selects _ _ _)⟩
theorem vl_RL_59 : VLk RL 59 208 := ⟨Or.inl (gw5 (i := 199) rfl (gk_methodLink _ _ _)), mk_208, gw5 (i := 200) rfl (gk_instanceMethod _), gw5 (i := 201) rfl (gk_selects _ _ _)⟩
theorem vl_RL_63 : VLk RL 63 210 := ⟨Or.inl (gw5 (i := 203) rfl (gk_methodLink _ _ _)), mk_210, gw5 (i := 204) rfl (gk_instanceMethod _), gw5 (i := 205) rfl (gk_selects _ _ _)⟩
theorem vl_RX6_262 : VLk RX6 262 209 := ⟨Or.inl (gw5 (i := 207) rfl (gk_methodLink _ _ _)), mk_209, gw5 (i := 209) rfl (gk_instanceMethod _), List.mem_filter.mpr ⟨List.mem_append_left _ (List.mem_of_getElem? (i := 94) rfl), gk_selects _ _ _⟩⟩
theorem vl_RL_68 : VLk RL 68 211 := ⟨Or.inl (gw5 (i := 211) rfl (gk_methodLink _ _ _)), mk_211, gw5 (i := 212) rfl (gk_instanceMethod _), gw5 (i := 213) rfl (gk_selects _ _ _)⟩
theorem vl_RL_72 : VLk RL 72 212 := ⟨Or.inl (gw5 (i := 215) rfl (gk_methodLink _ _ _)), mk_212, gw5 (i := 216) rfl (gk_instanceMethod _), gw5 (i := 217) rfl (gk_selects _ _ _)⟩
theorem vl_RL_76 : VLk RL 76 214 := ⟨Or.inl (gw5 (i := 219) rfl (gk_methodLink _ _ _)), mk_214, gw5 (i := 220) rfl (gk_instanceMethod _), gw5 (i := 221) rfl (gk_selects _ _ _)⟩
theorem vl_RL_80 : VLk RL 80 215 := ⟨Or.inl (gw5 (i := 223) rfl (gk_methodLink _ _ _)), mk_215, gw5 (i := 224) rfl (gk_instanceMethod _), gw5 (i := 225) rfl (gk_selects _ _ _)⟩
theorem vl_RL_84 : VLk RL 84 217 := ⟨Or.inl (gw5 (i := 227) rfl (gk_methodLink _ _ _)), mk_217, gw5 (i := 228) rfl (gk_instanceMethod _), gw5 (i := 229) rfl (gk_selects _ _ _)⟩
theorem vl_RX6_265 : VLk RX6 265 216 := ⟨Or.inl (gw5 (i := 231) rfl (gk_methodLink _ _ _)), mk_216, gw5 (i := 233) rfl (gk_instanceMethod _), List.mem_filter.mpr ⟨List.mem_append_left _ (List.mem_of_getElem? (i := 95) rfl), gk_selects _ _ _⟩⟩
theorem vl_RL_88 : VLk RL 88 218 := ⟨Or.inl (gw5 (i := 235) rfl (gk_methodLink _ _ _)), mk_218, gw5 (i := 236) rfl (gk_instanceMethod _), gw5 (i := 237) rfl (gk_selects _ _ _)⟩
theorem vl_RL_92 : VLk RL 92 219 := ⟨Or.inl (gw5 (i := 239) rfl (gk_methodLink _ _ _)), mk_219, gw6 (i := 0) rfl (gk_instanceMethod _), gw6 (i := 1) rfl (gk_selects _ _ _)⟩
theorem vl_RL_96 : VLk RL 96 220 := ⟨Or.inl (gw6 (i := 3) rfl (gk_methodLink _ _ _)), mk_220, gw6 (i := 4) rfl (gk_instanceMethod _), gw6 (i := 5) rfl (gk_selects _ _ _)⟩
theorem vl_RL_104 : VLk RL 104 222 := ⟨Or.inl (gw6 (i := 7) rfl (gk_methodLink _ _ _)), mk_222, gw6 (i := 8) rfl (gk_instanceMethod _), gw6 (i := 9) rfl (gk_selects _ _ _)⟩
theorem vl_RX6_268 : VLk RX6 268 221 := ⟨Or.inl (gw6 (i := 11) rfl (gk_methodLink _ _ _)), mk_221, gw6 (i := 13) rfl (gk_instanceMethod _), List.mem_filter.mpr ⟨List.mem_append_left _ (List.mem_of_getElem? (i := 96) rfl), gk_selects _ _ _⟩⟩
theorem vl_RL_100 : VLk RL 100 223 := ⟨Or.inl (gw6 (i := 15) rfl (gk_methodLink _ _ _)), mk_223, gw6 (i := 16) rfl (gk_instanceMethod _), gw6 (i := 17) rfl (gk_selects _ _ _)⟩
theorem vl_RL_108 : VLk RL 108 225 := ⟨Or.inl (gw6 (i := 19) rfl (gk_methodLink _ _ _)), mk_225, gw6 (i := 20) rfl (gk_instanceMethod _), gw6 (i := 21) rfl (gk_selects _ _ _)⟩
theorem vl_RX6_271 : VLk RX6 271 224 := ⟨Or.inl (gw6 (i := 23) rfl (gk_methodLink _ _ _)), mk_224, gw6 (i := 25) rfl (gk_instanceMethod _), List.mem_filter.mpr ⟨List.mem_append_left _ (List.mem_of_getElem? (i := 97) rfl), gk_selects _ _ _⟩⟩
theorem vl_RL_112 : VLk RL 112 226 := ⟨Or.inl (gw6 (i := 27) rfl (gk_methodLink _ _ _)), mk_226, gw6 (i := 28) rfl (gk_instanceMethod _), gw6 (i := 29) rfl (gk_selects _ _ _)⟩
theorem vl_RL_116 : VLk RL 116 227 := ⟨Or.inl (gw6 (i := 31) rfl (gk_methodLink _ _ _)), mk_227, gw6 (i := 32) rfl (gk_instanceMethod _), gw6 (i := 33) rfl (gk_selects _ _ _)⟩
theorem vl_RL_120 : VLk RL 120 230 := ⟨Or.inl (gw6 (i := 35) rfl (gk_methodLink _ _ _)), mk_230, gw6 (i := 36) rfl (gk_instanceMethod _), gw6 (i := 37) rfl (gk_selects _ _ _)⟩
theorem vl_RX6_274 : VLk RX6 274 228 := ⟨Or.inl (gw6 (i := 39) rfl (gk_methodLink _ _ _)), mk_228, gw6 (i := 41) rfl (gk_instanceMethod _), List.mem_filter.mpr ⟨List.mem_append_left _ (List.mem_of_getElem? (i := 98) rfl), gk_selects _ _ _⟩⟩
theorem vl_RX6_277 : VLk RX6 277 229 := ⟨Or.inl (gw6 (i := 43) rfl (gk_methodLink _ _ _)), mk_229, gw6 (i := 45) rfl (gk_instanceMethod _), List.mem_filter.mpr ⟨List.mem_append_left _ (List.mem_of_getElem? (i := 99) rfl), gk_selects _ _ _⟩⟩
theorem vl_RL_124 : VLk RL 124 232 := ⟨Or.inl (gw6 (i := 47) rfl (gk_methodLink _ _ _)), mk_232, gw6 (i := 48) rfl (gk_instanceMethod _), gw6 (i := 49) rfl (gk_selects _ _ _)⟩
theorem vl_RX6_280 : VLk RX6 280 231 := ⟨Or.inl (gw6 (i := 51) rfl (gk_methodLink _ _ _)), mk_231, gw6 (i := 53) rfl (gk_instanceMethod _), List.mem_filter.mpr ⟨List.mem_append_left _ (List.mem_of_getElem? (i := 100) rfl), gk_selects _ _ _⟩⟩
theorem vl_RL_128 : VLk RL 128 233 := ⟨Or.inl (gw6 (i := 55) rfl (gk_methodLink _ _ _)), mk_233, gw6 (i := 56) rfl (gk_instanceMethod _), gw6 (i := 57) rfl (gk_selects _ _ _)⟩
theorem vl_RL_132 : VLk RL 132 234 := ⟨Or.inl (gw6 (i := 59) rfl (gk_methodLink _ _ _)), mk_234, gw6 (i := 60) rfl (gk_instanceMethod _), gw6 (i := 61) rfl (gk_selects _ _ _)⟩
theorem vl_RL_156 : VLk RL 156 235 := ⟨Or.inl (gw6 (i := 63) rfl (gk_methodLink _ _ _)), mk_235, gw6 (i := 64) rfl (gk_instanceMethod _), gw6 (i := 65) rfl (gk_selects _ _ _)⟩
theorem vl_RX6_283 : VLk RX6 283 214 := ⟨Or.inl (gw6 (i := 67) rfl (gk_methodLink _ _ _)), mk_214, gw5 (i := 220) rfl (gk_instanceMethod _), gw5 (i := 221) rfl (gk_selects _ _ _)⟩
theorem vl_RL_197 : VLk RL 197 237 := ⟨Or.inl (gw6 (i := 68) rfl (gk_methodLink _ _ _)), mk_237, gw6 (i := 69) rfl (gk_instanceMethod _), gw6 (i := 70) rfl (gk_selects _ _ _)⟩
theorem vl_RX6_286 : VLk RX6 286 236 := ⟨Or.inl (gw6 (i := 72) rfl (gk_methodLink _ _ _)), mk_236, gw6 (i := 74) rfl (gk_instanceMethod _), List.mem_filter.mpr ⟨List.mem_append_left _ (List.mem_of_getElem? (i := 101) rfl), gk_selects _ _ _⟩⟩
theorem vl_RL_201 : VLk RL 201 238 := ⟨Or.inl (gw6 (i := 76) rfl (gk_methodLink _ _ _)), mk_238, gw6 (i := 77) rfl (gk_instanceMethod _), gw6 (i := 78) rfl (gk_selects _ _ _)⟩
theorem vl_RL_213 : VLk RL 213 240 := ⟨Or.inl (gw6 (i := 80) rfl (gk_methodLink _ _ _)), mk_240, gw6 (i := 81) rfl (gk_instanceMethod _), gw6 (i := 82) rfl (gk_selects _ _ _)⟩
theorem vl_RX6_289 : VLk RX6 289 239 := ⟨Or.inl (gw6 (i := 84) rfl (gk_methodLink _ _ _)), mk_239, gw6 (i := 86) rfl (gk_instanceMethod _), List.mem_filter.mpr ⟨List.mem_append_left _ (List.mem_of_getElem? (i := 102) rfl), gk_selects _ _ _⟩⟩
theorem vl_RL_205 : VLk RL 205 241 := ⟨Or.inl (gw6 (i := 88) rfl (gk_methodLink _ _ _)), mk_241, gw6 (i := 89) rfl (gk_instanceMethod _), gw6 (i := 90) rfl (gk_selects _ _ _)⟩
theorem vl_RX6_292 : VLk RX6 292 253 := ⟨Or.inl (gw6 (i := 92) rfl (gk_methodLink _ _ _)), mk_253, gw6 (i := 94) rfl (gk_instanceMethod _), List.mem_filter.mpr ⟨List.mem_append_left _ (List.mem_of_getElem? (i := 103) rfl), gk_selects _ _ _⟩⟩
theorem vl_RL_209 : VLk RL 209 242 := ⟨Or.inl (gw6 (i := 96) rfl (gk_methodLink _ _ _)), mk_242, gw6 (i := 97) rfl (gk_instanceMethod _), gw6 (i := 98) rfl (gk_selects _ _ _)⟩
theorem vl_RL_136 : VLk RL 136 245 := ⟨Or.inl (gw6 (i := 100) rfl (gk_methodLink _ _ _)), mk_245, gw6 (i := 101) rfl (gk_instanceMethod _), gw6 (i := 102) rfl (gk_selects _ _ _)⟩
theorem vl_RX6_295 : VLk RX6 295 243 := ⟨Or.inl (gw6 (i := 104) rfl (gk_methodLink _ _ _)), mk_243, gw6 (i := 106) rfl (gk_instanceMethod _), List.mem_filter.mpr ⟨List.mem_append_left _ (List.mem_of_getElem? (i := 104) rfl), gk_selects _ _ _⟩⟩
theorem vl_RX6_298 : VLk RX6 298 244 := ⟨Or.inl (gw6 (i := 108) rfl (gk_methodLink _ _ _)), mk_244, gw6 (i := 110) rfl (gk_instanceMethod _), List.mem_filter.mpr ⟨List.mem_append_left _ (List.mem_of_getElem? (i := 105) rfl), gk_selects _ _ _⟩⟩
theorem vl_RL_140 : VLk RL 140 246 := ⟨Or.inl (gw6 (i := 112) rfl (gk_methodLink _ _ _)), mk_246, gw6 (i := 113) rfl (gk_instanceMethod _), gw6 (i := 114) rfl (gk_selects _ _ _)⟩
theorem vl_RL_144 : VLk RL 144 249 := ⟨Or.inl (gw6 (i := 116) rfl (gk_methodLink _ _ _)), mk_249, gw6 (i := 117) rfl (gk_instanceMethod _), gw6 (i := 118) rfl (gk_selects _ _ _)⟩
theorem vl_RX6_301 : VLk RX6 301 247 := ⟨Or.inl (gw6 (i := 120) rfl (gk_methodLink _ _ _)), mk_247, gw6 (i := 122) rfl (gk_instanceMethod _), List.mem_filter.mpr ⟨List.mem_append_left _ (List.mem_of_getElem? (i := 106) rfl), gk_selects _ _ _⟩⟩
theorem vl_RX6_304 : VLk RX6 304 248 := ⟨Or.inl (gw6 (i := 124) rfl (gk_methodLink _ _ _)), mk_248, gw6 (i := 126) rfl (gk_instanceMethod _), List.mem_filter.mpr ⟨List.mem_append_left _ (List.mem_of_getElem? (i := 107) rfl), gk_selects _ _ _⟩⟩
theorem vl_RL_148 : VLk RL 148 250 := ⟨Or.inl (gw6 (i := 128) rfl (gk_methodLink _ _ _)), mk_250, gw6 (i := 129) rfl (gk_instanceMethod _), gw6 (i := 130) rfl (gk_selects _ _ _)⟩
theorem vl_RL_152 : VLk RL 152 251 := ⟨Or.inl (gw6 (i := 132) rfl (gk_methodLink _ _ _)), mk_251, gw6 (i := 133) rfl (gk_instanceMethod _), gw6 (i := 134) rfl (gk_selects _ _ _)⟩
theorem vl_RL_168 : VLk RL 168 252 := ⟨Or.inl (gw6 (i := 136) rfl (gk_methodLink _ _ _)), mk_252, gw6 (i := 137) rfl (gk_instanceMethod _), gw6 (i := 138) rfl (gk_selects _ _ _)⟩
theorem vl_RL_217 : VLk RL 217 254 := ⟨Or.inl (gw6 (i := 140) rfl (gk_methodLink _ _ _)), mk_254, gw6 (i := 141) rfl (gk_instanceMethod _), gw6 (i := 142) rfl (gk_selects _ _ _)⟩
theorem vl_RL_221 : VLk RL 221 255 := ⟨Or.inl (gw6 (i := 144) rfl (gk_methodLink _ _ _)), mk_255, gw6 (i := 145) rfl (gk_instanceMethod _), gw6 (i := 146) rfl (gk_selects _ _ _)⟩
theorem vl_RL_225 : VLk RL 225 260 := ⟨Or.inl (gw6 (i := 148) rfl (gk_methodLink _ _ _)), mk_260, gw6 (i := 149) rfl (gk_instanceMethod _), gw6 (i := 150) rfl (gk_selects _ _ _)⟩
theorem vl_RX6_307 : VLk RX6 307 256 := ⟨Or.inl (gw6 (i := 152) rfl (gk_methodLink _ _ _)), mk_256, gw6 (i := 154) rfl (gk_instanceMethod _), List.mem_filter.mpr ⟨List.mem_append_left _ (List.mem_of_getElem? (i := 108) rfl), gk_selects _ _ _⟩⟩
theorem vl_RX6_310 : VLk RX6 310 258 := ⟨Or.inl (gw6 (i := 156) rfl (gk_methodLink _ _ _)), mk_258, gw6 (i := 158) rfl (gk_instanceMethod _), List.mem_filter.mpr ⟨List.mem_append_left _ (List.mem_of_getElem? (i := 109) rfl), gk_selects _ _ _⟩⟩
theorem vl_RX6_314 : VLk RX6 314 257 := ⟨Or.inl (gw6 (i := 160) rfl (gk_methodLink _ _ _)), mk_257, gw6 (i := 162) rfl (gk_instanceMethod _), List.mem_filter.mpr ⟨List.mem_append_left _ (List.mem_of_getElem? (i := 110) rfl), gk_selects _ _ _⟩⟩
theorem vl_RX6_317 : VLk RX6 317 259 := ⟨Or.inl (gw6 (i := 164) rfl (gk_methodLink _ _ _)), mk_259, gw6 (i := 166) rfl (gk_instanceMethod _), List.mem_filter.mpr ⟨List.mem_append_left _ (List.mem_of_getElem? (i := 111) rfl), gk_selects _ _ _⟩⟩
