-- the values, the memory of whole numbers, ranges
abbrev Vl : Type := Int ⊕ (Option (Nat × Int)) ⊕ Int
abbrev Mm : Type := Nat → Int → Int → Int
abbrev vI (a : Int) : Vl := Sum.inl a
abbrev vR (c : Nat) (i : Int) : Vl := Sum.inr (Sum.inl (some (c, i)))
abbrev vN : Vl := Sum.inr (Sum.inl none)
abbrev vL (a : Int) : Vl := Sum.inr (Sum.inr a)
def inR (a : Int) : Prop := -2147483648 ≤ a ∧ a < 2147483648
def inL (a : Int) : Prop := -9223372036854775808 ≤ a ∧ a < 9223372036854775808
def i3 (a : Int) : Int32 := Int32.ofInt a
def wr (a : Int) : Int := (Int32.ofInt a).toInt
def wl (a : Int) : Int := (Int64.ofInt a).toInt
def iand (a b : Int) : Int := (i3 a &&& i3 b).toInt
def ior (a b : Int) : Int := (i3 a ||| i3 b).toInt
def ixor (a b : Int) : Int := (i3 a ^^^ i3 b).toInt
def ishl (a b : Int) : Int := (i3 a <<< (i3 b &&& 31)).toInt
def ishr (a b : Int) : Int := (i3 a >>> (i3 b &&& 31)).toInt
def iushr (a b : Int) : Int := ((i3 a).toUInt32 >>> ((i3 b).toUInt32 &&& Int32.toUInt32 31)).toInt32.toInt
def lcmp (a b : Int) : Int := if a < b then -1 else if a = b then 0 else 1
theorem i3_toInt {a : Int} (h : inR a) : (i3 a).toInt = a := Int32.toInt_ofInt_of_le h.1 h.2
theorem i3_of (x : Int32) : i3 x.toInt = x := Int32.ofInt_toInt x
theorem inR_of (x : Int32) : inR x.toInt := ⟨Int32.le_toInt x, Int32.toInt_lt x⟩
theorem inR_wr (a : Int) : inR (wr a) := inR_of _
theorem i3_wr (a : Int) : i3 (wr a) = i3 a := Int32.ofInt_toInt _
theorem wr_id {a : Int} (h : inR a) : wr a = a := i3_toInt h
theorem i3_add (a b : Int) : i3 (a + b) = i3 a + i3 b := Int32.ofInt_add a b
theorem i3_sub (a b : Int) : i3 (a - b) = i3 a - i3 b := Int32.ofInt_sub a b
theorem i3_mul (a b : Int) : i3 (a * b) = i3 a * i3 b := Int32.ofInt_mul a b
theorem i3_neg (a : Int) : i3 (-a) = -i3 a := Int32.ofInt_neg a
theorem i3_inj {a b : Int} (ha : inR a) (hb : inR b) : i3 a = i3 b ↔ a = b := by
  constructor
  · intro h
    have h1 := congrArg Int32.toInt h
    rwa [i3_toInt ha, i3_toInt hb] at h1
  · intro h
    rw [h]
theorem i3_lt {a b : Int} (ha : inR a) (hb : inR b) : i3 a < i3 b ↔ a < b := by rw [Int32.lt_iff_toInt_lt, i3_toInt ha, i3_toInt hb]
theorem i3_le {a b : Int} (ha : inR a) (hb : inR b) : i3 a ≤ i3 b ↔ a ≤ b := by rw [Int32.le_iff_toInt_le, i3_toInt ha, i3_toInt hb]
theorem i3_nat {a : Int} (ha : inR a) : (i3 a).toNatClampNeg = a.toNat := by
  show (i3 a).toInt.toNat = _
  rw [i3_toInt ha]
theorem i3_div {a b : Int} (ha : inR a) (hb : inR b) : i3 (a.tdiv b) = i3 a / i3 b :=
  Int32.ofInt_tdiv (by have := ha.1; exact this) (by have := ha.2; exact Int.le_of_lt_add_one this) (by have := hb.1; exact this) (by have := hb.2; exact Int.le_of_lt_add_one this)
theorem tdiv_inR {a b : Int} (ha : inR a) (hb : 0 < b) : inR (a.tdiv b) := by
  have h1 : (a.tdiv b).natAbs ≤ a.natAbs := by
    rw [Int.natAbs_tdiv]
    exact Nat.div_le_self _ _
  obtain ⟨h2, h3⟩ := ha
  rcases Int.le_total 0 a with h0 | h0
  · have h4 : 0 ≤ a.tdiv b := Int.tdiv_nonneg h0 (by omega)
    constructor <;> omega
  · by_cases h5 : a = -2147483648
    · by_cases h6 : 0 < a.tdiv b
      · exfalso
        have h7 : a.tdiv b ≤ 0 := by
          have h8 : (-a).tdiv b = -(a.tdiv b) := Int.neg_tdiv a b
          have h9 : 0 ≤ (-a).tdiv b := Int.tdiv_nonneg (by omega) (by omega)
          omega
        omega
      · constructor <;> omega
    · constructor <;> omega
theorem tmod_eq (a b : Int) : a - a.tdiv b * b = a.tmod b := by
  have h := Int.tmod_add_tdiv_mul a b
  omega
theorem tmod_inR {a b : Int} (ha : inR a) (hb : 0 < b) (hb2 : inR b) : inR (a.tmod b) := by
  have h1 := Int.tmod_lt_of_pos a hb
  have h2 : -b < a.tmod b := by
    have h3 : (-a).tmod b = -(a.tmod b) := Int.neg_tmod a b
    have h4 := Int.tmod_lt_of_pos (-a) hb
    omega
  obtain ⟨h5, h6⟩ := hb2
  constructor <;> omega
theorem inR_lit {a : Int} (h : (decide (-2147483648 ≤ a) && decide (a < 2147483648)) = true) : inR a := by
  simp only [Bool.and_eq_true, decide_eq_true_eq] at h
  exact h
-- a value of ours as one of the machine's
def mv (ad : Nat → Int → Nat) : Vl → Value
  | .inl a => .int (i3 a)
  | .inr (.inl none) => .null
  | .inr (.inl (some q)) => .ref (ad q.1 q.2)
  | .inr (.inr a) => .long (Int64.ofInt a)
def rV (vd : Nat × Int → Prop) : Vl → Prop
  | .inl a => inR a
  | .inr (.inl none) => True
  | .inr (.inl (some q)) => vd q
  | .inr (.inr a) => inL a
def rS (vd : Nat × Int → Prop) (st : List Vl) : Prop := ∀ v ∈ st, rV vd v
theorem rS_nil {vd : Nat × Int → Prop} : rS vd [] := fun v h => by cases h
theorem rS_cons {vd : Nat × Int → Prop} {v : Vl} {st : List Vl} : rS vd (v :: st) ↔ rV vd v ∧ rS vd st :=
  ⟨fun h => ⟨h v List.mem_cons_self, fun w hw => h w (List.mem_cons_of_mem _ hw)⟩, fun h w hw => by
    rcases List.mem_cons.mp hw with rfl | hw
    · exact h.1
    · exact h.2 w hw⟩
theorem rS_app {vd : Nat × Int → Prop} {a b : List Vl} : rS vd (a ++ b) ↔ rS vd a ∧ rS vd b :=
  ⟨fun h => ⟨fun w hw => h w (List.mem_append_left _ hw), fun w hw => h w (List.mem_append_right _ hw)⟩, fun h w hw => by
    rcases List.mem_append.mp hw with hw | hw
    · exact h.1 w hw
    · exact h.2 w hw⟩
theorem rS_rev {vd : Nat × Int → Prop} {a : List Vl} : rS vd a.reverse ↔ rS vd a :=
  ⟨fun h w hw => h w (List.mem_reverse.mpr hw), fun h w hw => h w (List.mem_reverse.mp hw)⟩
-- how many words a value takes
def csz : Vl → Nat
  | .inr (.inr _) => 2
  | _ => 1
def csum (l : List Vl) : Nat := (l.map csz).sum
theorem mv_cat (ad : Nat → Int → Nat) (v : Vl) : (mv ad v).category = csz v := by
  rcases v with a | (_ | q) | a <;> rfl
theorem mv_sum (ad : Nat → Int → Nat) (l : List Vl) : ((l.map (mv ad)).map fun v => v.category).sum = csum l := by
  unfold csum
  rw [List.map_map]
  congr 1
  exact List.map_congr_left fun v _ => mv_cat ad v
-- locals: by their places; what isn't known is none
abbrev Lc : Type := List (Option Vl)
def lpairs (ad : Nat → Int → Nat) : Nat → Lc → List (Nat × Value)
  | _, [] => []
  | k, none :: t => lpairs ad (k + 1) t
  | k, some v :: t => (k, mv ad v) :: lpairs ad (k + 1) t
theorem lpairs_mem {ad : Nat → Int → Nat} {q : Nat × Value} : ∀ {ls : Lc} {k : Nat}, q ∈ lpairs ad k ls ↔ ∃ (i : Nat) (v : Vl), ls[i]? = some (some v) ∧ q = (k + i, mv ad v)
  | [], k => by simp [lpairs]
  | none :: t, k => by
    rw [lpairs, lpairs_mem (ls := t)]
    constructor
    · rintro ⟨i, v, h, rfl⟩
      exact ⟨i + 1, v, by simpa using h, by rw [Nat.add_assoc, Nat.add_comm 1 i]⟩
    · rintro ⟨i, v, h, rfl⟩
      cases i with
      | zero => simp at h
      | succ i => exact ⟨i, v, by simpa using h, by rw [Nat.add_assoc, Nat.add_comm 1 i]⟩
  | some w :: t, k => by
    rw [lpairs, List.mem_cons, lpairs_mem (ls := t)]
    constructor
    · rintro (rfl | ⟨i, v, h, rfl⟩)
      · exact ⟨0, w, by simp, by simp⟩
      · exact ⟨i + 1, v, by simpa using h, by rw [Nat.add_assoc, Nat.add_comm 1 i]⟩
    · rintro ⟨i, v, h, rfl⟩
      cases i with
      | zero =>
        simp at h
        subst h
        exact Or.inl (by simp)
      | succ i => exact Or.inr ⟨i, v, by simpa using h, by rw [Nat.add_assoc, Nat.add_comm 1 i]⟩
def lOK (ad : Nat → Int → Nat) (nL : Nat) (ls : Lc) (lsA : Array Slot) : Prop := ls.length = nL ∧ lv_has lsA nL (lpairs ad 0 ls)
theorem lOK.at {ad : Nat → Int → Nat} {nL : Nat} {ls : Lc} {lsA : Array Slot} (h : lOK ad nL ls lsA) {i : Nat} {v : Vl} (hi : ls[i]? = some (some v)) : lsA[i]? = some (.val (mv ad v)) :=
  h.2.2.2 (i, mv ad v) (lpairs_mem.mpr ⟨i, v, hi, by simp⟩)
/-- no long lies just ahead of the place -/
def lfree (ls : Lc) (i : Nat) : Bool := match i with
  | 0 => true
  | j + 1 => match ls[j]? with
    | some (some (.inr (.inr _))) => false
    | _ => true
theorem lOK.set {ad : Nat → Int → Nat} {nL : Nat} {ls : Lc} {lsA lsB : Array Slot} {i : Nat} {v : Vl} (h : lOK ad nL ls lsA) (hi : lfree ls i = true)
    (h2 : lv_has lsB nL ((i, mv ad v) :: (lpairs ad 0 ls).filter (fun q => !(q.1 == i) && !(q.1 + 1 == i && q.2.category == 2)))) : lOK ad nL (ls.set i (some v)) lsB := by
  refine ⟨by rw [List.length_set]; exact h.1, h2.1, h2.2.1, fun q hq => ?_⟩
  obtain ⟨j, w, hj, rfl⟩ := lpairs_mem.mp hq
  rw [Nat.zero_add]
  by_cases hij : i = j
  · subst hij
    have hlt : i < ls.length := by
      have := (List.getElem?_eq_some_iff.mp hj).1
      simpa using this
    rw [List.getElem?_set_self hlt] at hj
    cases hj
    exact h2.2.2 (i, mv ad v) List.mem_cons_self
  · rw [List.getElem?_set_ne hij] at hj
    refine h2.2.2 (j, mv ad w) (List.mem_cons_of_mem _ (List.mem_filter.mpr ⟨lpairs_mem.mpr ⟨j, w, hj, by simp⟩, ?_⟩))
    have h3 : (j == i) = false := by simp; omega
    rw [h3]
    by_cases h4 : j + 1 = i
    · subst h4
      have h5 : csz w = 1 := by
        unfold lfree at hi
        rcases w with a | (_ | q) | a
        · rfl
        · rfl
        · rfl
        · simp [hj] at hi
      simp [mv_cat, h5]
    · simp [h4]
/-- less is known -/
def lle : Lc → Lc → Bool
  | [], [] => true
  | none :: s, _ :: t => lle s t
  | some _ :: s, some _ :: t => lle s t
  | _, _ => false
def lsub (a b : Lc) : Prop := a.length = b.length ∧ ∀ (i : Nat) (v : Vl), a[i]? = some (some v) → b[i]? = some (some v)
theorem lOK.sub {ad : Nat → Int → Nat} {nL : Nat} {ls ls' : Lc} {lsA : Array Slot} (h : lOK ad nL ls lsA) (hs : lsub ls' ls) : lOK ad nL ls' lsA := by
  refine ⟨hs.1.trans h.1, h.2.1, h.2.2.1, fun q hq => ?_⟩
  obtain ⟨i, v, hi, rfl⟩ := lpairs_mem.mp hq
  exact h.2.2.2 _ (lpairs_mem.mpr ⟨i, v, hs.2 i v hi, rfl⟩)
theorem lsub_nil : lsub [] [] := ⟨rfl, fun i v h => by simp at h⟩
theorem lsub_none {s t : Lc} {x : Option Vl} (h : lsub s t) : lsub (none :: s) (x :: t) := ⟨by simp [h.1], fun i v hi => by
  cases i with
  | zero => simp at hi
  | succ i => simpa using h.2 i v (by simpa using hi)⟩
theorem lsub_some {s t : Lc} {x : Option Vl} (h : lsub s t) : lsub (x :: s) (x :: t) := ⟨by simp [h.1], fun i v hi => by
  cases i with
  | zero => simpa using hi
  | succ i => simpa using h.2 i v (by simpa using hi)⟩
-- the locals with which a method begins
def entL : List Vl → Lc
  | [] => []
  | .inr (.inr a) :: t => some (vL a) :: none :: entL t
  | v :: t => some v :: entL t
def ent (n : Nat) (as : List Vl) : Lc := entL as ++ List.replicate (n - (entL as).length) none
theorem entL_len : ∀ as : List Vl, (entL as).length = csum as
  | [] => rfl
  | .inr (.inr a) :: t => by
    show (entL t).length + 1 + 1 = 2 + csum t
    rw [entL_len t]
    omega
  | .inl a :: t => by
    show (entL t).length + 1 = 1 + csum t
    rw [entL_len t]
    omega
  | .inr (.inl r) :: t => by
    show (entL t).length + 1 = 1 + csum t
    rw [entL_len t]
    omega
theorem lpairs_app {ad : Nat → Int → Nat} : ∀ (a b : Lc) (k : Nat), lpairs ad k (a ++ b) = lpairs ad k a ++ lpairs ad (k + a.length) b
  | [], b, k => by simp [lpairs]
  | none :: t, b, k => by
    show lpairs ad (k + 1) (t ++ b) = _
    rw [lpairs_app t b (k + 1)]
    simp [lpairs, Nat.add_assoc, Nat.add_comm 1]
  | some v :: t, b, k => by
    show (k, mv ad v) :: lpairs ad (k + 1) (t ++ b) = _
    rw [lpairs_app t b (k + 1)]
    simp [lpairs, Nat.add_assoc, Nat.add_comm 1]
theorem lpairs_nones {ad : Nat → Int → Nat} : ∀ (n k : Nat), lpairs ad k (List.replicate n none) = []
  | 0, k => rfl
  | n + 1, k => by
    rw [List.replicate_succ]
    exact lpairs_nones n (k + 1)
theorem lpairs_ent {ad : Nat → Int → Nat} : ∀ (as : List Vl) (k : Nat), lpairs ad k (entL as) = lv_args k (as.map (mv ad))
  | [], k => rfl
  | .inr (.inr a) :: t, k => by
    show (k, Value.long _) :: lpairs ad (k + 1 + 1) (entL t) = _
    rw [lpairs_ent t (k + 1 + 1)]
    rfl
  | .inl a :: t, k => by
    show (k, Value.int _) :: lpairs ad (k + 1) (entL t) = _
    rw [lpairs_ent t (k + 1)]
    rfl
  | .inr (.inl none) :: t, k => by
    show (k, Value.null) :: lpairs ad (k + 1) (entL t) = _
    rw [lpairs_ent t (k + 1)]
    rfl
  | .inr (.inl (some q)) :: t, k => by
    show (k, Value.ref _) :: lpairs ad (k + 1) (entL t) = _
    rw [lpairs_ent t (k + 1)]
    rfl
theorem lg_sl_len (ad : Nat → Int → Nat) : ∀ as : List Vl, (lg_sl (as.map (mv ad))).length = csum as
  | [] => rfl
  | .inr (.inr a) :: t => by
    have h := lg_sl_len ad t
    simp only [lg_sl, List.map_cons, List.flatMap_cons, List.length_append] at h ⊢
    rw [h]
    simp [mv, Value.category, csum, csz]
  | .inl a :: t => by
    have h := lg_sl_len ad t
    simp only [lg_sl, List.map_cons, List.flatMap_cons, List.length_append] at h ⊢
    rw [h]
    simp [mv, Value.category, csum, csz]
  | .inr (.inl none) :: t => by
    have h := lg_sl_len ad t
    simp only [lg_sl, List.map_cons, List.flatMap_cons, List.length_append] at h ⊢
    rw [h]
    simp [mv, Value.category, csum, csz]
  | .inr (.inl (some q)) :: t => by
    have h := lg_sl_len ad t
    simp only [lg_sl, List.map_cons, List.flatMap_cons, List.length_append] at h ⊢
    rw [h]
    simp [mv, Value.category, csum, csz]
theorem ent_ok (ad : Nat → Int → Nat) (as : List Vl) {n : Nat} (h : csum as ≤ n) : lOK ad n (ent n as) ((lg_sl (as.map (mv ad)) ++ List.replicate (n - (lg_sl (as.map (mv ad))).length) Slot.unset).toArray) := by
  refine ⟨?_, ?_⟩
  · unfold ent
    rw [List.length_append, List.length_replicate, entL_len]
    omega
  · unfold ent
    rw [lpairs_app, lpairs_nones, List.append_nil, lpairs_ent]
    exact lv_entry (as.map (mv ad)) (by rw [lg_sl_len]; exact h)
theorem ent_rng {vd : Nat × Int → Prop} {n : Nat} {as : List Vl} (h : rS vd as) : ∀ v : Vl, some v ∈ ent n as → rV vd v := by
  intro v hv0
  unfold ent at hv0
  rcases List.mem_append.mp hv0 with hv | hv
  · clear hv0
    induction as with
    | nil => simp [entL] at hv
    | cons a t ih =>
      obtain ⟨h1, h2⟩ := rS_cons.mp h
      rcases a with a | r | a
      · rcases List.mem_cons.mp (show some v ∈ some (Sum.inl a) :: entL t from hv) with e | e
        · cases e; exact h1
        · exact ih h2 e
      · rcases List.mem_cons.mp (show some v ∈ some (Sum.inr (Sum.inl r)) :: entL t from hv) with e | e
        · cases e; exact h1
        · exact ih h2 e
      · rcases List.mem_cons.mp (show some v ∈ some (vL a) :: none :: entL t from hv) with e | e
        · cases e; exact h1
        · rcases List.mem_cons.mp e with e | e
          · cases e
          · exact ih h2 e
  · have := List.eq_of_mem_replicate hv
    cases this
