-- the rules of control and numbers: 'K' is closed under them; the machine's own predicate is
def gT : List Cond := lw_tbl.filter goodWord
def isNest : Cond → Bool
  | .fieldLinkNest .. => true
  | .methodLinkNest .. => true
  | _ => false
def nT : List Cond := tables_1.filter isNest
section GMAC
variable {α : Type} (ad : Nat → Int → Nat) (vd : α → Nat × Int → Prop) (Wd : α → Heap → Prop) (cf sf : α → Nat) (rg : α → Prop)
variable (p : Program) (l : Launch) (e : Env) (R : Room) (s : State) (m : MethodId) (args : Array Value) (below : List Frame) (meth : Method) (c : Code) (A : Nat → Prop) (Q : State → Prop) (nL : Nat)
def Gm (pc : Nat) (ls : Lc) (st : List Vl) (μ : α) : Prop :=
  rg μ → (∀ v : Vl, some v ∈ ls → rV (vd μ) v) → rS (vd μ) st → ∀ (H : Heap) (locs : List Loc) (lsA : Array Slot), Wd μ H → va_S A s.heap H locs → lOK ad nL ls lsA → W p l e R s m args below meth c H locs (cf μ) (sf μ) Q (F0 m pc lsA (st.map (mv ad)))
end GMAC
abbrev Cx (p : Program) (s : State) (m : MethodId) (args : Array Value) (meth : Method) (c : Code) (cc : ByteArray) (own : String) (nL : Nat) : Prop :=
  p.tables.exec = Jvm.exec ∧ c.code = cc ∧ c.maxLocals = nL ∧ s.vm.findClass own = some m.cls ∧ (∀ w ∈ gT, w.before args s = true) ∧ (∀ w ∈ nT, va_Nw w s) ∧ meth.locks = false
section LVX
variable {p : Program} {l : Launch} {e : Env} {R : Room} {s : State} {m : MethodId} {args : Array Value} {below : List Frame} {meth : Method} {c : Code} {H : Heap} {locs : List Loc} {cells slots : Nat} {Q : State → Prop}
variable {cc : ByteArray} {pc : Nat} {ls : Array Slot} {rest : List Value}
theorem gm_aloadN_n (hexec : p.tables.exec = Jvm.exec) (hb : c.code = cc) {k : Fin 4} {i : Nat} (hdg : decode cc pc = .ok (.aload_n k, 1)) (hi : (k : Nat) = i) (hl : ls[i]? = some (.val (.null)))
    (k : W p l e R s m args below meth c H locs cells slots Q (F0 m (pc + 1) ls (.null :: rest))) : W p l e R s m args below meth c H locs cells slots Q (F0 m pc ls (rest)) := by
  subst hi
  intro T hT X
  obtain ⟨t, a, b⟩ := k T hT X
  refine ⟨t, ?_, b⟩
  jvm_step X.here [X.here.top, hexec, hb, hdg, hl, Value.isRef]
  exact a
theorem gm_astoreN_n (hexec : p.tables.exec = Jvm.exec) (hb : c.code = cc) {k : Fin 4} {i nL : Nat} {lv lv' : List (Nat × Value)} (hdg : decode cc pc = .ok (.astore_n k, 1)) (hi : (k : Nat) = i) (h : lv_has ls nL lv) (hn : i < nL) (hl : (i, Value.null) :: lv.filter (fun q => !(q.1 == i) && !(q.1 + 1 == i && q.2.category == 2)) = lv')
    (kk : ∀ ls' : Array Slot, lv_has ls' nL lv' → W p l e R s m args below meth c H locs cells slots Q (F0 m (pc + 1) ls' rest)) : W p l e R s m args below meth c H locs cells slots Q (F0 m pc ls (.null :: rest)) := by
  subst hi
  obtain ⟨ls', e', h'⟩ := lv_store1 (v := .null) h hn rfl
  intro T hT X
  obtain ⟨t, a, b⟩ := kk ls' (hl ▸ h') T hT X
  refine ⟨t, ?_, b⟩
  jvm_step X.here [X.here.top, ↓top_set X.here.top, hexec, hb, hdg, e', Value.isRef]
  exact a
end LVX

def Q_iconst {α : Type} (vd : α → Nat × Int → Prop) (rg : α → Prop) (cc : ByteArray) (own : String) (K : Nat → Lc → List Vl → α → Prop) : Prop := ∀ {pc : Nat} {ls : Lc} {st : List Vl} {μ : α} {n : Int}, (decode cc pc = .ok (.iconst n, 1)) → ((decide (-2147483648 ≤ n) && decide (n < 2147483648)) = true) → (K (pc + 1) ls (vI n :: st) μ) → K pc ls st μ
def Q_bipush {α : Type} (vd : α → Nat × Int → Prop) (rg : α → Prop) (cc : ByteArray) (own : String) (K : Nat → Lc → List Vl → α → Prop) : Prop := ∀ {pc : Nat} {ls : Lc} {st : List Vl} {μ : α} {n : Int}, (decode cc pc = .ok (.bipush n, 2)) → ((decide (-128 ≤ n) && decide (n < 128)) = true) → (K (pc + 2) ls (vI n :: st) μ) → K pc ls st μ
def Q_sipush {α : Type} (vd : α → Nat × Int → Prop) (rg : α → Prop) (cc : ByteArray) (own : String) (K : Nat → Lc → List Vl → α → Prop) : Prop := ∀ {pc : Nat} {ls : Lc} {st : List Vl} {μ : α} {n : Int}, (decode cc pc = .ok (.sipush n, 3)) → ((decide (-32768 ≤ n) && decide (n < 32768)) = true) → (K (pc + 3) ls (vI n :: st) μ) → K pc ls st μ
def Q_ldc {α : Type} (vd : α → Nat × Int → Prop) (rg : α → Prop) (cc : ByteArray) (own : String) (K : Nat → Lc → List Vl → α → Prop) : Prop := ∀ {pc : Nat} {ls : Lc} {st : List Vl} {μ : α} {x : Nat} {n : Int}, (decode cc pc = .ok (.ldc x, 2)) → (Cond.constant own x (i3 n) ∈ gT) → ((decide (-2147483648 ≤ n) && decide (n < 2147483648)) = true) → (K (pc + 2) ls (vI n :: st) μ) → K pc ls st μ
def Q_ldcw {α : Type} (vd : α → Nat × Int → Prop) (rg : α → Prop) (cc : ByteArray) (own : String) (K : Nat → Lc → List Vl → α → Prop) : Prop := ∀ {pc : Nat} {ls : Lc} {st : List Vl} {μ : α} {x : Nat} {n : Int}, (decode cc pc = .ok (.ldc_w x, 3)) → (Cond.constant own x (i3 n) ∈ gT) → ((decide (-2147483648 ≤ n) && decide (n < 2147483648)) = true) → (K (pc + 3) ls (vI n :: st) μ) → K pc ls st μ
def Q_iload_n {α : Type} (vd : α → Nat × Int → Prop) (rg : α → Prop) (cc : ByteArray) (own : String) (K : Nat → Lc → List Vl → α → Prop) : Prop := ∀ {pc : Nat} {ls : Lc} {st : List Vl} {μ : α} {x : Fin 4} {a : Int}, (decode cc pc = .ok (.iload_n x, 1)) → (ls[(x : Nat)]? = some (some (vI a))) → (K (pc + 1) ls (vI a :: st) μ) → K pc ls st μ
def Q_iload {α : Type} (vd : α → Nat × Int → Prop) (rg : α → Prop) (cc : ByteArray) (own : String) (K : Nat → Lc → List Vl → α → Prop) : Prop := ∀ {pc : Nat} {ls : Lc} {st : List Vl} {μ : α} {x : Nat} {a : Int}, (decode cc pc = .ok (.iload x, 2)) → (ls[x]? = some (some (vI a))) → (K (pc + 2) ls (vI a :: st) μ) → K pc ls st μ
def Q_lload_n {α : Type} (vd : α → Nat × Int → Prop) (rg : α → Prop) (cc : ByteArray) (own : String) (K : Nat → Lc → List Vl → α → Prop) : Prop := ∀ {pc : Nat} {ls : Lc} {st : List Vl} {μ : α} {x : Fin 4} {a : Int}, (decode cc pc = .ok (.lload_n x, 1)) → (ls[(x : Nat)]? = some (some (vL a))) → (K (pc + 1) ls (vL a :: st) μ) → K pc ls st μ
def Q_aload_n {α : Type} (vd : α → Nat × Int → Prop) (rg : α → Prop) (cc : ByteArray) (own : String) (K : Nat → Lc → List Vl → α → Prop) : Prop := ∀ {pc : Nat} {ls : Lc} {st : List Vl} {μ : α} {x : Fin 4} {q : Nat × Int}, (decode cc pc = .ok (.aload_n x, 1)) → (ls[(x : Nat)]? = some (some (Sum.inr (Sum.inl (some q))))) → (K (pc + 1) ls (Sum.inr (Sum.inl (some q)) :: st) μ) → K pc ls st μ
def Q_aload {α : Type} (vd : α → Nat × Int → Prop) (rg : α → Prop) (cc : ByteArray) (own : String) (K : Nat → Lc → List Vl → α → Prop) : Prop := ∀ {pc : Nat} {ls : Lc} {st : List Vl} {μ : α} {x : Nat} {q : Nat × Int}, (decode cc pc = .ok (.aload x, 2)) → (ls[x]? = some (some (Sum.inr (Sum.inl (some q))))) → (K (pc + 2) ls (Sum.inr (Sum.inl (some q)) :: st) μ) → K pc ls st μ
def Q_aloadN_n {α : Type} (vd : α → Nat × Int → Prop) (rg : α → Prop) (cc : ByteArray) (own : String) (K : Nat → Lc → List Vl → α → Prop) : Prop := ∀ {pc : Nat} {ls : Lc} {st : List Vl} {μ : α} {x : Fin 4}, (decode cc pc = .ok (.aload_n x, 1)) → (ls[(x : Nat)]? = some (some (vN))) → (K (pc + 1) ls (vN :: st) μ) → K pc ls st μ
def Q_aloadN {α : Type} (vd : α → Nat × Int → Prop) (rg : α → Prop) (cc : ByteArray) (own : String) (K : Nat → Lc → List Vl → α → Prop) : Prop := ∀ {pc : Nat} {ls : Lc} {st : List Vl} {μ : α} {x : Nat}, (decode cc pc = .ok (.aload x, 2)) → (ls[x]? = some (some (vN))) → (K (pc + 2) ls (vN :: st) μ) → K pc ls st μ
def Q_istore_n {α : Type} (vd : α → Nat × Int → Prop) (rg : α → Prop) (cc : ByteArray) (own : String) (K : Nat → Lc → List Vl → α → Prop) : Prop := ∀ {pc : Nat} {ls : Lc} {st : List Vl} {μ : α} {x : Fin 4} {a : Int}, (decode cc pc = .ok (.istore_n x, 1)) → ((Nat.blt (x : Nat) ls.length && lfree ls (x : Nat)) = true) → (K (pc + 1) (ls.set (x : Nat) (some (vI a))) st μ) → K pc ls (vI a :: st) μ
def Q_istore {α : Type} (vd : α → Nat × Int → Prop) (rg : α → Prop) (cc : ByteArray) (own : String) (K : Nat → Lc → List Vl → α → Prop) : Prop := ∀ {pc : Nat} {ls : Lc} {st : List Vl} {μ : α} {x : Nat} {a : Int}, (decode cc pc = .ok (.istore x, 2)) → ((Nat.blt x ls.length && lfree ls x) = true) → (K (pc + 2) (ls.set x (some (vI a))) st μ) → K pc ls (vI a :: st) μ
def Q_astore_n {α : Type} (vd : α → Nat × Int → Prop) (rg : α → Prop) (cc : ByteArray) (own : String) (K : Nat → Lc → List Vl → α → Prop) : Prop := ∀ {pc : Nat} {ls : Lc} {st : List Vl} {μ : α} {x : Fin 4} {q : Nat × Int}, (decode cc pc = .ok (.astore_n x, 1)) → ((Nat.blt (x : Nat) ls.length && lfree ls (x : Nat)) = true) → (K (pc + 1) (ls.set (x : Nat) (some (Sum.inr (Sum.inl (some q))))) st μ) → K pc ls (Sum.inr (Sum.inl (some q)) :: st) μ
def Q_astore {α : Type} (vd : α → Nat × Int → Prop) (rg : α → Prop) (cc : ByteArray) (own : String) (K : Nat → Lc → List Vl → α → Prop) : Prop := ∀ {pc : Nat} {ls : Lc} {st : List Vl} {μ : α} {x : Nat} {q : Nat × Int}, (decode cc pc = .ok (.astore x, 2)) → ((Nat.blt x ls.length && lfree ls x) = true) → (K (pc + 2) (ls.set x (some (Sum.inr (Sum.inl (some q))))) st μ) → K pc ls (Sum.inr (Sum.inl (some q)) :: st) μ
def Q_astoreN_n {α : Type} (vd : α → Nat × Int → Prop) (rg : α → Prop) (cc : ByteArray) (own : String) (K : Nat → Lc → List Vl → α → Prop) : Prop := ∀ {pc : Nat} {ls : Lc} {st : List Vl} {μ : α} {x : Fin 4}, (decode cc pc = .ok (.astore_n x, 1)) → ((Nat.blt (x : Nat) ls.length && lfree ls (x : Nat)) = true) → (K (pc + 1) (ls.set (x : Nat) (some (vN))) st μ) → K pc ls (vN :: st) μ
def Q_astoreN {α : Type} (vd : α → Nat × Int → Prop) (rg : α → Prop) (cc : ByteArray) (own : String) (K : Nat → Lc → List Vl → α → Prop) : Prop := ∀ {pc : Nat} {ls : Lc} {st : List Vl} {μ : α} {x : Nat}, (decode cc pc = .ok (.astore x, 2)) → ((Nat.blt x ls.length && lfree ls x) = true) → (K (pc + 2) (ls.set x (some (vN))) st μ) → K pc ls (vN :: st) μ
def Q_iinc {α : Type} (vd : α → Nat × Int → Prop) (rg : α → Prop) (cc : ByteArray) (own : String) (K : Nat → Lc → List Vl → α → Prop) : Prop := ∀ {pc : Nat} {ls : Lc} {st : List Vl} {μ : α} {x : Nat} {n a : Int}, (decode cc pc = .ok (.iinc x n, 3)) → (ls[x]? = some (some (vI a))) → (lfree ls x = true) → (K (pc + 3) (ls.set x (some (vI (wr (a + n))))) st μ) → K pc ls st μ
def Q_iadd {α : Type} (vd : α → Nat × Int → Prop) (rg : α → Prop) (cc : ByteArray) (own : String) (K : Nat → Lc → List Vl → α → Prop) : Prop := ∀ {pc : Nat} {ls : Lc} {st : List Vl} {μ : α} {a b : Int}, (decode cc pc = .ok (.iadd, 1)) → (K (pc + 1) ls (vI (wr (a + b)) :: st) μ) → K pc ls (vI b :: vI a :: st) μ
def Q_isub {α : Type} (vd : α → Nat × Int → Prop) (rg : α → Prop) (cc : ByteArray) (own : String) (K : Nat → Lc → List Vl → α → Prop) : Prop := ∀ {pc : Nat} {ls : Lc} {st : List Vl} {μ : α} {a b : Int}, (decode cc pc = .ok (.isub, 1)) → (K (pc + 1) ls (vI (wr (a - b)) :: st) μ) → K pc ls (vI b :: vI a :: st) μ
def Q_imul {α : Type} (vd : α → Nat × Int → Prop) (rg : α → Prop) (cc : ByteArray) (own : String) (K : Nat → Lc → List Vl → α → Prop) : Prop := ∀ {pc : Nat} {ls : Lc} {st : List Vl} {μ : α} {a b : Int}, (decode cc pc = .ok (.imul, 1)) → (K (pc + 1) ls (vI (wr (a * b)) :: st) μ) → K pc ls (vI b :: vI a :: st) μ
def Q_iand {α : Type} (vd : α → Nat × Int → Prop) (rg : α → Prop) (cc : ByteArray) (own : String) (K : Nat → Lc → List Vl → α → Prop) : Prop := ∀ {pc : Nat} {ls : Lc} {st : List Vl} {μ : α} {a b : Int}, (decode cc pc = .ok (.iand, 1)) → (K (pc + 1) ls (vI (iand a b) :: st) μ) → K pc ls (vI b :: vI a :: st) μ
def Q_ior {α : Type} (vd : α → Nat × Int → Prop) (rg : α → Prop) (cc : ByteArray) (own : String) (K : Nat → Lc → List Vl → α → Prop) : Prop := ∀ {pc : Nat} {ls : Lc} {st : List Vl} {μ : α} {a b : Int}, (decode cc pc = .ok (.ior, 1)) → (K (pc + 1) ls (vI (ior a b) :: st) μ) → K pc ls (vI b :: vI a :: st) μ
def Q_ixor {α : Type} (vd : α → Nat × Int → Prop) (rg : α → Prop) (cc : ByteArray) (own : String) (K : Nat → Lc → List Vl → α → Prop) : Prop := ∀ {pc : Nat} {ls : Lc} {st : List Vl} {μ : α} {a b : Int}, (decode cc pc = .ok (.ixor, 1)) → (K (pc + 1) ls (vI (ixor a b) :: st) μ) → K pc ls (vI b :: vI a :: st) μ
def Q_ishl {α : Type} (vd : α → Nat × Int → Prop) (rg : α → Prop) (cc : ByteArray) (own : String) (K : Nat → Lc → List Vl → α → Prop) : Prop := ∀ {pc : Nat} {ls : Lc} {st : List Vl} {μ : α} {a b : Int}, (decode cc pc = .ok (.ishl, 1)) → (K (pc + 1) ls (vI (ishl a b) :: st) μ) → K pc ls (vI b :: vI a :: st) μ
def Q_ishr {α : Type} (vd : α → Nat × Int → Prop) (rg : α → Prop) (cc : ByteArray) (own : String) (K : Nat → Lc → List Vl → α → Prop) : Prop := ∀ {pc : Nat} {ls : Lc} {st : List Vl} {μ : α} {a b : Int}, (decode cc pc = .ok (.ishr, 1)) → (K (pc + 1) ls (vI (ishr a b) :: st) μ) → K pc ls (vI b :: vI a :: st) μ
def Q_iushr {α : Type} (vd : α → Nat × Int → Prop) (rg : α → Prop) (cc : ByteArray) (own : String) (K : Nat → Lc → List Vl → α → Prop) : Prop := ∀ {pc : Nat} {ls : Lc} {st : List Vl} {μ : α} {a b : Int}, (decode cc pc = .ok (.iushr, 1)) → (K (pc + 1) ls (vI (iushr a b) :: st) μ) → K pc ls (vI b :: vI a :: st) μ
def Q_idiv {α : Type} (vd : α → Nat × Int → Prop) (rg : α → Prop) (cc : ByteArray) (own : String) (K : Nat → Lc → List Vl → α → Prop) : Prop := ∀ {pc : Nat} {ls : Lc} {st : List Vl} {μ : α} {a b : Int}, (decode cc pc = .ok (.idiv, 1)) → (0 < b) → (K (pc + 1) ls (vI (a.tdiv b) :: st) μ) → K pc ls (vI b :: vI a :: st) μ
def Q_irem {α : Type} (vd : α → Nat × Int → Prop) (rg : α → Prop) (cc : ByteArray) (own : String) (K : Nat → Lc → List Vl → α → Prop) : Prop := ∀ {pc : Nat} {ls : Lc} {st : List Vl} {μ : α} {a b : Int}, (decode cc pc = .ok (.irem, 1)) → (0 < b) → (K (pc + 1) ls (vI (a.tmod b) :: st) μ) → K pc ls (vI b :: vI a :: st) μ
def Q_ineg {α : Type} (vd : α → Nat × Int → Prop) (rg : α → Prop) (cc : ByteArray) (own : String) (K : Nat → Lc → List Vl → α → Prop) : Prop := ∀ {pc : Nat} {ls : Lc} {st : List Vl} {μ : α} {a : Int}, (decode cc pc = .ok (.ineg, 1)) → (K (pc + 1) ls (vI (wr (-a)) :: st) μ) → K pc ls (vI a :: st) μ
def Q_i2l {α : Type} (vd : α → Nat × Int → Prop) (rg : α → Prop) (cc : ByteArray) (own : String) (K : Nat → Lc → List Vl → α → Prop) : Prop := ∀ {pc : Nat} {ls : Lc} {st : List Vl} {μ : α} {a : Int}, (decode cc pc = .ok (.i2l, 1)) → (K (pc + 1) ls (vL a :: st) μ) → K pc ls (vI a :: st) μ
def Q_lconst {α : Type} (vd : α → Nat × Int → Prop) (rg : α → Prop) (cc : ByteArray) (own : String) (K : Nat → Lc → List Vl → α → Prop) : Prop := ∀ {pc : Nat} {ls : Lc} {st : List Vl} {μ : α} {n : Fin 2} {a : Int}, (decode cc pc = .ok (.lconst n, 1)) → (((n : Nat) : Int) = a) → (K (pc + 1) ls (vL a :: st) μ) → K pc ls st μ
def Q_lsub {α : Type} (vd : α → Nat × Int → Prop) (rg : α → Prop) (cc : ByteArray) (own : String) (K : Nat → Lc → List Vl → α → Prop) : Prop := ∀ {pc : Nat} {ls : Lc} {st : List Vl} {μ : α} {a b : Int}, (decode cc pc = .ok (.lsub, 1)) → (K (pc + 1) ls (vL (wl (a - b)) :: st) μ) → K pc ls (vL b :: vL a :: st) μ
def Q_lcmp {α : Type} (vd : α → Nat × Int → Prop) (rg : α → Prop) (cc : ByteArray) (own : String) (K : Nat → Lc → List Vl → α → Prop) : Prop := ∀ {pc : Nat} {ls : Lc} {st : List Vl} {μ : α} {a b : Int}, (decode cc pc = .ok (.lcmp, 1)) → (K (pc + 1) ls (vI (lcmp a b) :: st) μ) → K pc ls (vL b :: vL a :: st) μ
def Q_dup {α : Type} (vd : α → Nat × Int → Prop) (rg : α → Prop) (cc : ByteArray) (own : String) (K : Nat → Lc → List Vl → α → Prop) : Prop := ∀ {pc : Nat} {ls : Lc} {st : List Vl} {μ : α} {v : Vl}, (decode cc pc = .ok (.dup, 1)) → (csz v = 1) → (K (pc + 1) ls (v :: v :: st) μ) → K pc ls (v :: st) μ
def Q_dup2 {α : Type} (vd : α → Nat × Int → Prop) (rg : α → Prop) (cc : ByteArray) (own : String) (K : Nat → Lc → List Vl → α → Prop) : Prop := ∀ {pc : Nat} {ls : Lc} {st : List Vl} {μ : α} {v u : Vl}, (decode cc pc = .ok (.dup2, 1)) → (csz v = 1) → (csz u = 1) → (K (pc + 1) ls (v :: u :: v :: u :: st) μ) → K pc ls (v :: u :: st) μ
def Q_pop {α : Type} (vd : α → Nat × Int → Prop) (rg : α → Prop) (cc : ByteArray) (own : String) (K : Nat → Lc → List Vl → α → Prop) : Prop := ∀ {pc : Nat} {ls : Lc} {st : List Vl} {μ : α} {v : Vl}, (decode cc pc = .ok (.pop, 1)) → (csz v = 1) → (K (pc + 1) ls st μ) → K pc ls (v :: st) μ
def Q_goto {α : Type} (vd : α → Nat × Int → Prop) (rg : α → Prop) (cc : ByteArray) (own : String) (K : Nat → Lc → List Vl → α → Prop) : Prop := ∀ {pc : Nat} {ls : Lc} {st : List Vl} {μ : α} {off : Int} {tgt : Nat}, (decode cc pc = .ok (.goto off, 3)) → ((pc : Int) + off = (tgt : Int)) → (K tgt ls st μ) → K pc ls st μ
def Q_null {α : Type} (vd : α → Nat × Int → Prop) (rg : α → Prop) (cc : ByteArray) (own : String) (K : Nat → Lc → List Vl → α → Prop) : Prop := ∀ {pc : Nat} {ls : Lc} {st : List Vl} {μ : α}, (decode cc pc = .ok (.aconst_null, 1)) → (K (pc + 1) ls (vN :: st) μ) → K pc ls st μ
def Q_if_eq {α : Type} (vd : α → Nat × Int → Prop) (rg : α → Prop) (cc : ByteArray) (own : String) (K : Nat → Lc → List Vl → α → Prop) : Prop := ∀ {pc : Nat} {ls : Lc} {st : List Vl} {μ : α} {a : Int} {off : Int} {tgt : Nat}, (decode cc pc = .ok (.ifCond .eq off, 3)) → ((pc : Int) + off = (tgt : Int)) → ((a = 0) → K tgt ls st μ) → ((¬ a = 0) → K (pc + 3) ls st μ) → K pc ls (vI a :: st) μ
def Q_icmp_eq {α : Type} (vd : α → Nat × Int → Prop) (rg : α → Prop) (cc : ByteArray) (own : String) (K : Nat → Lc → List Vl → α → Prop) : Prop := ∀ {pc : Nat} {ls : Lc} {st : List Vl} {μ : α} {a b : Int} {off : Int} {tgt : Nat}, (decode cc pc = .ok (.if_icmp .eq off, 3)) → ((pc : Int) + off = (tgt : Int)) → ((a = b) → K tgt ls st μ) → ((¬ a = b) → K (pc + 3) ls st μ) → K pc ls (vI b :: vI a :: st) μ
def Q_if_ne {α : Type} (vd : α → Nat × Int → Prop) (rg : α → Prop) (cc : ByteArray) (own : String) (K : Nat → Lc → List Vl → α → Prop) : Prop := ∀ {pc : Nat} {ls : Lc} {st : List Vl} {μ : α} {a : Int} {off : Int} {tgt : Nat}, (decode cc pc = .ok (.ifCond .ne off, 3)) → ((pc : Int) + off = (tgt : Int)) → ((¬ a = 0) → K tgt ls st μ) → ((a = 0) → K (pc + 3) ls st μ) → K pc ls (vI a :: st) μ
def Q_icmp_ne {α : Type} (vd : α → Nat × Int → Prop) (rg : α → Prop) (cc : ByteArray) (own : String) (K : Nat → Lc → List Vl → α → Prop) : Prop := ∀ {pc : Nat} {ls : Lc} {st : List Vl} {μ : α} {a b : Int} {off : Int} {tgt : Nat}, (decode cc pc = .ok (.if_icmp .ne off, 3)) → ((pc : Int) + off = (tgt : Int)) → ((¬ a = b) → K tgt ls st μ) → ((a = b) → K (pc + 3) ls st μ) → K pc ls (vI b :: vI a :: st) μ
def Q_if_lt {α : Type} (vd : α → Nat × Int → Prop) (rg : α → Prop) (cc : ByteArray) (own : String) (K : Nat → Lc → List Vl → α → Prop) : Prop := ∀ {pc : Nat} {ls : Lc} {st : List Vl} {μ : α} {a : Int} {off : Int} {tgt : Nat}, (decode cc pc = .ok (.ifCond .lt off, 3)) → ((pc : Int) + off = (tgt : Int)) → ((a < 0) → K tgt ls st μ) → ((0 ≤ a) → K (pc + 3) ls st μ) → K pc ls (vI a :: st) μ
def Q_icmp_lt {α : Type} (vd : α → Nat × Int → Prop) (rg : α → Prop) (cc : ByteArray) (own : String) (K : Nat → Lc → List Vl → α → Prop) : Prop := ∀ {pc : Nat} {ls : Lc} {st : List Vl} {μ : α} {a b : Int} {off : Int} {tgt : Nat}, (decode cc pc = .ok (.if_icmp .lt off, 3)) → ((pc : Int) + off = (tgt : Int)) → ((a < b) → K tgt ls st μ) → ((b ≤ a) → K (pc + 3) ls st μ) → K pc ls (vI b :: vI a :: st) μ
def Q_if_ge {α : Type} (vd : α → Nat × Int → Prop) (rg : α → Prop) (cc : ByteArray) (own : String) (K : Nat → Lc → List Vl → α → Prop) : Prop := ∀ {pc : Nat} {ls : Lc} {st : List Vl} {μ : α} {a : Int} {off : Int} {tgt : Nat}, (decode cc pc = .ok (.ifCond .ge off, 3)) → ((pc : Int) + off = (tgt : Int)) → ((0 ≤ a) → K tgt ls st μ) → ((a < 0) → K (pc + 3) ls st μ) → K pc ls (vI a :: st) μ
def Q_icmp_ge {α : Type} (vd : α → Nat × Int → Prop) (rg : α → Prop) (cc : ByteArray) (own : String) (K : Nat → Lc → List Vl → α → Prop) : Prop := ∀ {pc : Nat} {ls : Lc} {st : List Vl} {μ : α} {a b : Int} {off : Int} {tgt : Nat}, (decode cc pc = .ok (.if_icmp .ge off, 3)) → ((pc : Int) + off = (tgt : Int)) → ((b ≤ a) → K tgt ls st μ) → ((a < b) → K (pc + 3) ls st μ) → K pc ls (vI b :: vI a :: st) μ
def Q_if_gt {α : Type} (vd : α → Nat × Int → Prop) (rg : α → Prop) (cc : ByteArray) (own : String) (K : Nat → Lc → List Vl → α → Prop) : Prop := ∀ {pc : Nat} {ls : Lc} {st : List Vl} {μ : α} {a : Int} {off : Int} {tgt : Nat}, (decode cc pc = .ok (.ifCond .gt off, 3)) → ((pc : Int) + off = (tgt : Int)) → ((0 < a) → K tgt ls st μ) → ((a ≤ 0) → K (pc + 3) ls st μ) → K pc ls (vI a :: st) μ
def Q_icmp_gt {α : Type} (vd : α → Nat × Int → Prop) (rg : α → Prop) (cc : ByteArray) (own : String) (K : Nat → Lc → List Vl → α → Prop) : Prop := ∀ {pc : Nat} {ls : Lc} {st : List Vl} {μ : α} {a b : Int} {off : Int} {tgt : Nat}, (decode cc pc = .ok (.if_icmp .gt off, 3)) → ((pc : Int) + off = (tgt : Int)) → ((b < a) → K tgt ls st μ) → ((a ≤ b) → K (pc + 3) ls st μ) → K pc ls (vI b :: vI a :: st) μ
def Q_if_le {α : Type} (vd : α → Nat × Int → Prop) (rg : α → Prop) (cc : ByteArray) (own : String) (K : Nat → Lc → List Vl → α → Prop) : Prop := ∀ {pc : Nat} {ls : Lc} {st : List Vl} {μ : α} {a : Int} {off : Int} {tgt : Nat}, (decode cc pc = .ok (.ifCond .le off, 3)) → ((pc : Int) + off = (tgt : Int)) → ((a ≤ 0) → K tgt ls st μ) → ((0 < a) → K (pc + 3) ls st μ) → K pc ls (vI a :: st) μ
def Q_icmp_le {α : Type} (vd : α → Nat × Int → Prop) (rg : α → Prop) (cc : ByteArray) (own : String) (K : Nat → Lc → List Vl → α → Prop) : Prop := ∀ {pc : Nat} {ls : Lc} {st : List Vl} {μ : α} {a b : Int} {off : Int} {tgt : Nat}, (decode cc pc = .ok (.if_icmp .le off, 3)) → ((pc : Int) + off = (tgt : Int)) → ((a ≤ b) → K tgt ls st μ) → ((b < a) → K (pc + 3) ls st μ) → K pc ls (vI b :: vI a :: st) μ
def Q_ifnullN {α : Type} (vd : α → Nat × Int → Prop) (rg : α → Prop) (cc : ByteArray) (own : String) (K : Nat → Lc → List Vl → α → Prop) : Prop := ∀ {pc : Nat} {ls : Lc} {st : List Vl} {μ : α} {off : Int} {tgt : Nat}, (decode cc pc = .ok (.ifnull off, 3)) → ((pc : Int) + off = (tgt : Int)) → (K tgt ls st μ) → K pc ls (vN :: st) μ
def Q_ifnullR {α : Type} (vd : α → Nat × Int → Prop) (rg : α → Prop) (cc : ByteArray) (own : String) (K : Nat → Lc → List Vl → α → Prop) : Prop := ∀ {pc : Nat} {ls : Lc} {st : List Vl} {μ : α} {off : Int} {q : Nat × Int}, (decode cc pc = .ok (.ifnull off, 3)) → (K (pc + 3) ls st μ) → K pc ls (Sum.inr (Sum.inl (some q)) :: st) μ
def Q_ifnonnullN {α : Type} (vd : α → Nat × Int → Prop) (rg : α → Prop) (cc : ByteArray) (own : String) (K : Nat → Lc → List Vl → α → Prop) : Prop := ∀ {pc : Nat} {ls : Lc} {st : List Vl} {μ : α} {off : Int}, (decode cc pc = .ok (.ifnonnull off, 3)) → (K (pc + 3) ls st μ) → K pc ls (vN :: st) μ
def Q_ifnonnullR {α : Type} (vd : α → Nat × Int → Prop) (rg : α → Prop) (cc : ByteArray) (own : String) (K : Nat → Lc → List Vl → α → Prop) : Prop := ∀ {pc : Nat} {ls : Lc} {st : List Vl} {μ : α} {off : Int} {tgt : Nat} {q : Nat × Int}, (decode cc pc = .ok (.ifnonnull off, 3)) → ((pc : Int) + off = (tgt : Int)) → (K tgt ls st μ) → K pc ls (Sum.inr (Sum.inl (some q)) :: st) μ
def Q_tableOut {α : Type} (vd : α → Nat × Int → Prop) (rg : α → Prop) (cc : ByteArray) (own : String) (K : Nat → Lc → List Vl → α → Prop) : Prop := ∀ {pc : Nat} {ls : Lc} {st : List Vl} {μ : α} {a dflt lo hi : Int} {offs : Array Int} {len tgt : Nat}, (decode cc pc = .ok (.tableswitch dflt lo hi offs, len)) → (a < lo ∨ hi < a) → ((pc : Int) + dflt = (tgt : Int)) → (K tgt ls st μ) → K pc ls (vI a :: st) μ
def Q_tableIn {α : Type} (vd : α → Nat × Int → Prop) (rg : α → Prop) (cc : ByteArray) (own : String) (K : Nat → Lc → List Vl → α → Prop) : Prop := ∀ {pc : Nat} {ls : Lc} {st : List Vl} {μ : α} {a dflt lo hi off : Int} {offs : Array Int} {len tgt : Nat}, (decode cc pc = .ok (.tableswitch dflt lo hi offs, len)) → (lo ≤ a) → (a ≤ hi) → (offs[(a - lo).toNat]? = some off) → ((pc : Int) + off = (tgt : Int)) → (K tgt ls st μ) → K pc ls (vI a :: st) μ
def Q_forget {α : Type} (vd : α → Nat × Int → Prop) (rg : α → Prop) (cc : ByteArray) (own : String) (K : Nat → Lc → List Vl → α → Prop) : Prop := ∀ {pc : Nat} {ls : Lc} {st : List Vl} {μ : α} {ls2 : Lc}, (lsub ls2 ls) → (K pc ls2 st μ) → K pc ls st μ
def Q_rng {α : Type} (vd : α → Nat × Int → Prop) (rg : α → Prop) (cc : ByteArray) (own : String) (K : Nat → Lc → List Vl → α → Prop) : Prop := ∀ {pc : Nat} {ls : Lc} {st : List Vl} {μ : α}, ((rg μ → (∀ v : Vl, some v ∈ ls → rV (vd μ) v) → K pc ls st μ)) → K pc ls st μ
def StpC {α : Type} (vd : α → Nat × Int → Prop) (rg : α → Prop) (cc : ByteArray) (own : String) (K : Nat → Lc → List Vl → α → Prop) : Prop := Q_iconst vd rg cc own K ∧ Q_bipush vd rg cc own K ∧ Q_sipush vd rg cc own K ∧ Q_ldc vd rg cc own K ∧ Q_ldcw vd rg cc own K ∧ Q_iload_n vd rg cc own K ∧ Q_iload vd rg cc own K ∧ Q_lload_n vd rg cc own K ∧ Q_aload_n vd rg cc own K ∧ Q_aload vd rg cc own K ∧ Q_aloadN_n vd rg cc own K ∧ Q_aloadN vd rg cc own K ∧ Q_istore_n vd rg cc own K ∧ Q_istore vd rg cc own K ∧ Q_astore_n vd rg cc own K ∧ Q_astore vd rg cc own K ∧ Q_astoreN_n vd rg cc own K ∧ Q_astoreN vd rg cc own K ∧ Q_iinc vd rg cc own K ∧ Q_iadd vd rg cc own K ∧ Q_isub vd rg cc own K ∧ Q_imul vd rg cc own K ∧ Q_iand vd rg cc own K ∧ Q_ior vd rg cc own K ∧ Q_ixor vd rg cc own K ∧ Q_ishl vd rg cc own K ∧ Q_ishr vd rg cc own K ∧ Q_iushr vd rg cc own K ∧ Q_idiv vd rg cc own K ∧ Q_irem vd rg cc own K ∧ Q_ineg vd rg cc own K ∧ Q_i2l vd rg cc own K ∧ Q_lconst vd rg cc own K ∧ Q_lsub vd rg cc own K ∧ Q_lcmp vd rg cc own K ∧ Q_dup vd rg cc own K ∧ Q_dup2 vd rg cc own K ∧ Q_pop vd rg cc own K ∧ Q_goto vd rg cc own K ∧ Q_null vd rg cc own K ∧ Q_if_eq vd rg cc own K ∧ Q_icmp_eq vd rg cc own K ∧ Q_if_ne vd rg cc own K ∧ Q_icmp_ne vd rg cc own K ∧ Q_if_lt vd rg cc own K ∧ Q_icmp_lt vd rg cc own K ∧ Q_if_ge vd rg cc own K ∧ Q_icmp_ge vd rg cc own K ∧ Q_if_gt vd rg cc own K ∧ Q_icmp_gt vd rg cc own K ∧ Q_if_le vd rg cc own K ∧ Q_icmp_le vd rg cc own K ∧ Q_ifnullN vd rg cc own K ∧ Q_ifnullR vd rg cc own K ∧ Q_ifnonnullN vd rg cc own K ∧ Q_ifnonnullR vd rg cc own K ∧ Q_tableOut vd rg cc own K ∧ Q_tableIn vd rg cc own K ∧ Q_forget vd rg cc own K ∧ Q_rng vd rg cc own K
section ROWS
variable {α : Type} {vd : α → Nat × Int → Prop} {rg : α → Prop} {cc : ByteArray} {own : String} {K : Nat → Lc → List Vl → α → Prop}
theorem r_iconst (hK : StpC vd rg cc own K) {pc : Nat} {ls : Lc} {st : List Vl} {μ : α} {n : Int} (hd : decode cc pc = .ok (.iconst n, 1)) (hn : (decide (-2147483648 ≤ n) && decide (n < 2147483648)) = true) (k : K (pc + 1) ls (vI n :: st) μ) : K pc ls st μ := hK.1 hd hn k
theorem r_bipush (hK : StpC vd rg cc own K) {pc : Nat} {ls : Lc} {st : List Vl} {μ : α} {n : Int} (hd : decode cc pc = .ok (.bipush n, 2)) (hn : (decide (-128 ≤ n) && decide (n < 128)) = true) (k : K (pc + 2) ls (vI n :: st) μ) : K pc ls st μ := hK.2.1 hd hn k
theorem r_sipush (hK : StpC vd rg cc own K) {pc : Nat} {ls : Lc} {st : List Vl} {μ : α} {n : Int} (hd : decode cc pc = .ok (.sipush n, 3)) (hn : (decide (-32768 ≤ n) && decide (n < 32768)) = true) (k : K (pc + 3) ls (vI n :: st) μ) : K pc ls st μ := hK.2.2.1 hd hn k
theorem r_ldc (hK : StpC vd rg cc own K) {pc : Nat} {ls : Lc} {st : List Vl} {μ : α} {x : Nat} {n : Int} (hd : decode cc pc = .ok (.ldc x, 2)) (hc : Cond.constant own x (i3 n) ∈ gT) (hn : (decide (-2147483648 ≤ n) && decide (n < 2147483648)) = true) (k : K (pc + 2) ls (vI n :: st) μ) : K pc ls st μ := hK.2.2.2.1 hd hc hn k
theorem r_ldcw (hK : StpC vd rg cc own K) {pc : Nat} {ls : Lc} {st : List Vl} {μ : α} {x : Nat} {n : Int} (hd : decode cc pc = .ok (.ldc_w x, 3)) (hc : Cond.constant own x (i3 n) ∈ gT) (hn : (decide (-2147483648 ≤ n) && decide (n < 2147483648)) = true) (k : K (pc + 3) ls (vI n :: st) μ) : K pc ls st μ := hK.2.2.2.2.1 hd hc hn k
theorem r_iload_n (hK : StpC vd rg cc own K) {pc : Nat} {ls : Lc} {st : List Vl} {μ : α} {x : Fin 4} {a : Int} (hd : decode cc pc = .ok (.iload_n x, 1)) (hl : ls[(x : Nat)]? = some (some (vI a))) (k : K (pc + 1) ls (vI a :: st) μ) : K pc ls st μ := hK.2.2.2.2.2.1 hd hl k
theorem r_iload (hK : StpC vd rg cc own K) {pc : Nat} {ls : Lc} {st : List Vl} {μ : α} {x : Nat} {a : Int} (hd : decode cc pc = .ok (.iload x, 2)) (hl : ls[x]? = some (some (vI a))) (k : K (pc + 2) ls (vI a :: st) μ) : K pc ls st μ := hK.2.2.2.2.2.2.1 hd hl k
theorem r_lload_n (hK : StpC vd rg cc own K) {pc : Nat} {ls : Lc} {st : List Vl} {μ : α} {x : Fin 4} {a : Int} (hd : decode cc pc = .ok (.lload_n x, 1)) (hl : ls[(x : Nat)]? = some (some (vL a))) (k : K (pc + 1) ls (vL a :: st) μ) : K pc ls st μ := hK.2.2.2.2.2.2.2.1 hd hl k
theorem r_aload_n (hK : StpC vd rg cc own K) {pc : Nat} {ls : Lc} {st : List Vl} {μ : α} {x : Fin 4} {q : Nat × Int} (hd : decode cc pc = .ok (.aload_n x, 1)) (hl : ls[(x : Nat)]? = some (some (Sum.inr (Sum.inl (some q))))) (k : K (pc + 1) ls (Sum.inr (Sum.inl (some q)) :: st) μ) : K pc ls st μ := hK.2.2.2.2.2.2.2.2.1 hd hl k
theorem r_aload (hK : StpC vd rg cc own K) {pc : Nat} {ls : Lc} {st : List Vl} {μ : α} {x : Nat} {q : Nat × Int} (hd : decode cc pc = .ok (.aload x, 2)) (hl : ls[x]? = some (some (Sum.inr (Sum.inl (some q))))) (k : K (pc + 2) ls (Sum.inr (Sum.inl (some q)) :: st) μ) : K pc ls st μ := hK.2.2.2.2.2.2.2.2.2.1 hd hl k
theorem r_aloadN_n (hK : StpC vd rg cc own K) {pc : Nat} {ls : Lc} {st : List Vl} {μ : α} {x : Fin 4} (hd : decode cc pc = .ok (.aload_n x, 1)) (hl : ls[(x : Nat)]? = some (some (vN))) (k : K (pc + 1) ls (vN :: st) μ) : K pc ls st μ := hK.2.2.2.2.2.2.2.2.2.2.1 hd hl k
theorem r_aloadN (hK : StpC vd rg cc own K) {pc : Nat} {ls : Lc} {st : List Vl} {μ : α} {x : Nat} (hd : decode cc pc = .ok (.aload x, 2)) (hl : ls[x]? = some (some (vN))) (k : K (pc + 2) ls (vN :: st) μ) : K pc ls st μ := hK.2.2.2.2.2.2.2.2.2.2.2.1 hd hl k
theorem r_istore_n (hK : StpC vd rg cc own K) {pc : Nat} {ls : Lc} {st : List Vl} {μ : α} {x : Fin 4} {a : Int} (hd : decode cc pc = .ok (.istore_n x, 1)) (hi : (Nat.blt (x : Nat) ls.length && lfree ls (x : Nat)) = true) (k : K (pc + 1) (ls.set (x : Nat) (some (vI a))) st μ) : K pc ls (vI a :: st) μ := hK.2.2.2.2.2.2.2.2.2.2.2.2.1 hd hi k
theorem r_istore (hK : StpC vd rg cc own K) {pc : Nat} {ls : Lc} {st : List Vl} {μ : α} {x : Nat} {a : Int} (hd : decode cc pc = .ok (.istore x, 2)) (hi : (Nat.blt x ls.length && lfree ls x) = true) (k : K (pc + 2) (ls.set x (some (vI a))) st μ) : K pc ls (vI a :: st) μ := hK.2.2.2.2.2.2.2.2.2.2.2.2.2.1 hd hi k
theorem r_astore_n (hK : StpC vd rg cc own K) {pc : Nat} {ls : Lc} {st : List Vl} {μ : α} {x : Fin 4} {q : Nat × Int} (hd : decode cc pc = .ok (.astore_n x, 1)) (hi : (Nat.blt (x : Nat) ls.length && lfree ls (x : Nat)) = true) (k : K (pc + 1) (ls.set (x : Nat) (some (Sum.inr (Sum.inl (some q))))) st μ) : K pc ls (Sum.inr (Sum.inl (some q)) :: st) μ := hK.2.2.2.2.2.2.2.2.2.2.2.2.2.2.1 hd hi k
theorem r_astore (hK : StpC vd rg cc own K) {pc : Nat} {ls : Lc} {st : List Vl} {μ : α} {x : Nat} {q : Nat × Int} (hd : decode cc pc = .ok (.astore x, 2)) (hi : (Nat.blt x ls.length && lfree ls x) = true) (k : K (pc + 2) (ls.set x (some (Sum.inr (Sum.inl (some q))))) st μ) : K pc ls (Sum.inr (Sum.inl (some q)) :: st) μ := hK.2.2.2.2.2.2.2.2.2.2.2.2.2.2.2.1 hd hi k
theorem r_astoreN_n (hK : StpC vd rg cc own K) {pc : Nat} {ls : Lc} {st : List Vl} {μ : α} {x : Fin 4} (hd : decode cc pc = .ok (.astore_n x, 1)) (hi : (Nat.blt (x : Nat) ls.length && lfree ls (x : Nat)) = true) (k : K (pc + 1) (ls.set (x : Nat) (some (vN))) st μ) : K pc ls (vN :: st) μ := hK.2.2.2.2.2.2.2.2.2.2.2.2.2.2.2.2.1 hd hi k
theorem r_astoreN (hK : StpC vd rg cc own K) {pc : Nat} {ls : Lc} {st : List Vl} {μ : α} {x : Nat} (hd : decode cc pc = .ok (.astore x, 2)) (hi : (Nat.blt x ls.length && lfree ls x) = true) (k : K (pc + 2) (ls.set x (some (vN))) st μ) : K pc ls (vN :: st) μ := hK.2.2.2.2.2.2.2.2.2.2.2.2.2.2.2.2.2.1 hd hi k
theorem r_iinc (hK : StpC vd rg cc own K) {pc : Nat} {ls : Lc} {st : List Vl} {μ : α} {x : Nat} {n a : Int} (hd : decode cc pc = .ok (.iinc x n, 3)) (hl : ls[x]? = some (some (vI a))) (hi : lfree ls x = true) (k : K (pc + 3) (ls.set x (some (vI (wr (a + n))))) st μ) : K pc ls st μ := hK.2.2.2.2.2.2.2.2.2.2.2.2.2.2.2.2.2.2.1 hd hl hi k
theorem r_iadd (hK : StpC vd rg cc own K) {pc : Nat} {ls : Lc} {st : List Vl} {μ : α} {a b : Int} (hd : decode cc pc = .ok (.iadd, 1)) (k : K (pc + 1) ls (vI (wr (a + b)) :: st) μ) : K pc ls (vI b :: vI a :: st) μ := hK.2.2.2.2.2.2.2.2.2.2.2.2.2.2.2.2.2.2.2.1 hd k
theorem r_isub (hK : StpC vd rg cc own K) {pc : Nat} {ls : Lc} {st : List Vl} {μ : α} {a b : Int} (hd : decode cc pc = .ok (.isub, 1)) (k : K (pc + 1) ls (vI (wr (a - b)) :: st) μ) : K pc ls (vI b :: vI a :: st) μ := hK.2.2.2.2.2.2.2.2.2.2.2.2.2.2.2.2.2.2.2.2.1 hd k
theorem r_imul (hK : StpC vd rg cc own K) {pc : Nat} {ls : Lc} {st : List Vl} {μ : α} {a b : Int} (hd : decode cc pc = .ok (.imul, 1)) (k : K (pc + 1) ls (vI (wr (a * b)) :: st) μ) : K pc ls (vI b :: vI a :: st) μ := hK.2.2.2.2.2.2.2.2.2.2.2.2.2.2.2.2.2.2.2.2.2.1 hd k
theorem r_iand (hK : StpC vd rg cc own K) {pc : Nat} {ls : Lc} {st : List Vl} {μ : α} {a b : Int} (hd : decode cc pc = .ok (.iand, 1)) (k : K (pc + 1) ls (vI (iand a b) :: st) μ) : K pc ls (vI b :: vI a :: st) μ := hK.2.2.2.2.2.2.2.2.2.2.2.2.2.2.2.2.2.2.2.2.2.2.1 hd k
theorem r_ior (hK : StpC vd rg cc own K) {pc : Nat} {ls : Lc} {st : List Vl} {μ : α} {a b : Int} (hd : decode cc pc = .ok (.ior, 1)) (k : K (pc + 1) ls (vI (ior a b) :: st) μ) : K pc ls (vI b :: vI a :: st) μ := hK.2.2.2.2.2.2.2.2.2.2.2.2.2.2.2.2.2.2.2.2.2.2.2.1 hd k
theorem r_ixor (hK : StpC vd rg cc own K) {pc : Nat} {ls : Lc} {st : List Vl} {μ : α} {a b : Int} (hd : decode cc pc = .ok (.ixor, 1)) (k : K (pc + 1) ls (vI (ixor a b) :: st) μ) : K pc ls (vI b :: vI a :: st) μ := hK.2.2.2.2.2.2.2.2.2.2.2.2.2.2.2.2.2.2.2.2.2.2.2.2.1 hd k
theorem r_ishl (hK : StpC vd rg cc own K) {pc : Nat} {ls : Lc} {st : List Vl} {μ : α} {a b : Int} (hd : decode cc pc = .ok (.ishl, 1)) (k : K (pc + 1) ls (vI (ishl a b) :: st) μ) : K pc ls (vI b :: vI a :: st) μ := hK.2.2.2.2.2.2.2.2.2.2.2.2.2.2.2.2.2.2.2.2.2.2.2.2.2.1 hd k
theorem r_ishr (hK : StpC vd rg cc own K) {pc : Nat} {ls : Lc} {st : List Vl} {μ : α} {a b : Int} (hd : decode cc pc = .ok (.ishr, 1)) (k : K (pc + 1) ls (vI (ishr a b) :: st) μ) : K pc ls (vI b :: vI a :: st) μ := hK.2.2.2.2.2.2.2.2.2.2.2.2.2.2.2.2.2.2.2.2.2.2.2.2.2.2.1 hd k
theorem r_iushr (hK : StpC vd rg cc own K) {pc : Nat} {ls : Lc} {st : List Vl} {μ : α} {a b : Int} (hd : decode cc pc = .ok (.iushr, 1)) (k : K (pc + 1) ls (vI (iushr a b) :: st) μ) : K pc ls (vI b :: vI a :: st) μ := hK.2.2.2.2.2.2.2.2.2.2.2.2.2.2.2.2.2.2.2.2.2.2.2.2.2.2.2.1 hd k
theorem r_idiv (hK : StpC vd rg cc own K) {pc : Nat} {ls : Lc} {st : List Vl} {μ : α} {a b : Int} (hd : decode cc pc = .ok (.idiv, 1)) (hp : 0 < b) (k : K (pc + 1) ls (vI (a.tdiv b) :: st) μ) : K pc ls (vI b :: vI a :: st) μ := hK.2.2.2.2.2.2.2.2.2.2.2.2.2.2.2.2.2.2.2.2.2.2.2.2.2.2.2.2.1 hd hp k
theorem r_irem (hK : StpC vd rg cc own K) {pc : Nat} {ls : Lc} {st : List Vl} {μ : α} {a b : Int} (hd : decode cc pc = .ok (.irem, 1)) (hp : 0 < b) (k : K (pc + 1) ls (vI (a.tmod b) :: st) μ) : K pc ls (vI b :: vI a :: st) μ := hK.2.2.2.2.2.2.2.2.2.2.2.2.2.2.2.2.2.2.2.2.2.2.2.2.2.2.2.2.2.1 hd hp k
theorem r_ineg (hK : StpC vd rg cc own K) {pc : Nat} {ls : Lc} {st : List Vl} {μ : α} {a : Int} (hd : decode cc pc = .ok (.ineg, 1)) (k : K (pc + 1) ls (vI (wr (-a)) :: st) μ) : K pc ls (vI a :: st) μ := hK.2.2.2.2.2.2.2.2.2.2.2.2.2.2.2.2.2.2.2.2.2.2.2.2.2.2.2.2.2.2.1 hd k
theorem r_i2l (hK : StpC vd rg cc own K) {pc : Nat} {ls : Lc} {st : List Vl} {μ : α} {a : Int} (hd : decode cc pc = .ok (.i2l, 1)) (k : K (pc + 1) ls (vL a :: st) μ) : K pc ls (vI a :: st) μ := hK.2.2.2.2.2.2.2.2.2.2.2.2.2.2.2.2.2.2.2.2.2.2.2.2.2.2.2.2.2.2.2.1 hd k
theorem r_lconst (hK : StpC vd rg cc own K) {pc : Nat} {ls : Lc} {st : List Vl} {μ : α} {n : Fin 2} {a : Int} (hd : decode cc pc = .ok (.lconst n, 1)) (ha : ((n : Nat) : Int) = a) (k : K (pc + 1) ls (vL a :: st) μ) : K pc ls st μ := hK.2.2.2.2.2.2.2.2.2.2.2.2.2.2.2.2.2.2.2.2.2.2.2.2.2.2.2.2.2.2.2.2.1 hd ha k
theorem r_lsub (hK : StpC vd rg cc own K) {pc : Nat} {ls : Lc} {st : List Vl} {μ : α} {a b : Int} (hd : decode cc pc = .ok (.lsub, 1)) (k : K (pc + 1) ls (vL (wl (a - b)) :: st) μ) : K pc ls (vL b :: vL a :: st) μ := hK.2.2.2.2.2.2.2.2.2.2.2.2.2.2.2.2.2.2.2.2.2.2.2.2.2.2.2.2.2.2.2.2.2.1 hd k
theorem r_lcmp (hK : StpC vd rg cc own K) {pc : Nat} {ls : Lc} {st : List Vl} {μ : α} {a b : Int} (hd : decode cc pc = .ok (.lcmp, 1)) (k : K (pc + 1) ls (vI (lcmp a b) :: st) μ) : K pc ls (vL b :: vL a :: st) μ := hK.2.2.2.2.2.2.2.2.2.2.2.2.2.2.2.2.2.2.2.2.2.2.2.2.2.2.2.2.2.2.2.2.2.2.1 hd k
theorem r_dup (hK : StpC vd rg cc own K) {pc : Nat} {ls : Lc} {st : List Vl} {μ : α} {v : Vl} (hd : decode cc pc = .ok (.dup, 1)) (hv : csz v = 1) (k : K (pc + 1) ls (v :: v :: st) μ) : K pc ls (v :: st) μ := hK.2.2.2.2.2.2.2.2.2.2.2.2.2.2.2.2.2.2.2.2.2.2.2.2.2.2.2.2.2.2.2.2.2.2.2.1 hd hv k
theorem r_dup2 (hK : StpC vd rg cc own K) {pc : Nat} {ls : Lc} {st : List Vl} {μ : α} {v u : Vl} (hd : decode cc pc = .ok (.dup2, 1)) (hv : csz v = 1) (hu : csz u = 1) (k : K (pc + 1) ls (v :: u :: v :: u :: st) μ) : K pc ls (v :: u :: st) μ := hK.2.2.2.2.2.2.2.2.2.2.2.2.2.2.2.2.2.2.2.2.2.2.2.2.2.2.2.2.2.2.2.2.2.2.2.2.1 hd hv hu k
theorem r_pop (hK : StpC vd rg cc own K) {pc : Nat} {ls : Lc} {st : List Vl} {μ : α} {v : Vl} (hd : decode cc pc = .ok (.pop, 1)) (hv : csz v = 1) (k : K (pc + 1) ls st μ) : K pc ls (v :: st) μ := hK.2.2.2.2.2.2.2.2.2.2.2.2.2.2.2.2.2.2.2.2.2.2.2.2.2.2.2.2.2.2.2.2.2.2.2.2.2.1 hd hv k
theorem r_goto (hK : StpC vd rg cc own K) {pc : Nat} {ls : Lc} {st : List Vl} {μ : α} {off : Int} {tgt : Nat} (hd : decode cc pc = .ok (.goto off, 3)) (ht : (pc : Int) + off = (tgt : Int)) (k : K tgt ls st μ) : K pc ls st μ := hK.2.2.2.2.2.2.2.2.2.2.2.2.2.2.2.2.2.2.2.2.2.2.2.2.2.2.2.2.2.2.2.2.2.2.2.2.2.2.1 hd ht k
theorem r_null (hK : StpC vd rg cc own K) {pc : Nat} {ls : Lc} {st : List Vl} {μ : α} (hd : decode cc pc = .ok (.aconst_null, 1)) (k : K (pc + 1) ls (vN :: st) μ) : K pc ls st μ := hK.2.2.2.2.2.2.2.2.2.2.2.2.2.2.2.2.2.2.2.2.2.2.2.2.2.2.2.2.2.2.2.2.2.2.2.2.2.2.2.1 hd k
theorem r_if_eq (hK : StpC vd rg cc own K) {pc : Nat} {ls : Lc} {st : List Vl} {μ : α} {a : Int} {off : Int} {tgt : Nat} (hd : decode cc pc = .ok (.ifCond .eq off, 3)) (ht : (pc : Int) + off = (tgt : Int)) (kt : (a = 0) → K tgt ls st μ) (kf : (¬ a = 0) → K (pc + 3) ls st μ) : K pc ls (vI a :: st) μ := hK.2.2.2.2.2.2.2.2.2.2.2.2.2.2.2.2.2.2.2.2.2.2.2.2.2.2.2.2.2.2.2.2.2.2.2.2.2.2.2.2.1 hd ht kt kf
theorem r_icmp_eq (hK : StpC vd rg cc own K) {pc : Nat} {ls : Lc} {st : List Vl} {μ : α} {a b : Int} {off : Int} {tgt : Nat} (hd : decode cc pc = .ok (.if_icmp .eq off, 3)) (ht : (pc : Int) + off = (tgt : Int)) (kt : (a = b) → K tgt ls st μ) (kf : (¬ a = b) → K (pc + 3) ls st μ) : K pc ls (vI b :: vI a :: st) μ := hK.2.2.2.2.2.2.2.2.2.2.2.2.2.2.2.2.2.2.2.2.2.2.2.2.2.2.2.2.2.2.2.2.2.2.2.2.2.2.2.2.2.1 hd ht kt kf
theorem r_if_ne (hK : StpC vd rg cc own K) {pc : Nat} {ls : Lc} {st : List Vl} {μ : α} {a : Int} {off : Int} {tgt : Nat} (hd : decode cc pc = .ok (.ifCond .ne off, 3)) (ht : (pc : Int) + off = (tgt : Int)) (kt : (¬ a = 0) → K tgt ls st μ) (kf : (a = 0) → K (pc + 3) ls st μ) : K pc ls (vI a :: st) μ := hK.2.2.2.2.2.2.2.2.2.2.2.2.2.2.2.2.2.2.2.2.2.2.2.2.2.2.2.2.2.2.2.2.2.2.2.2.2.2.2.2.2.2.1 hd ht kt kf
theorem r_icmp_ne (hK : StpC vd rg cc own K) {pc : Nat} {ls : Lc} {st : List Vl} {μ : α} {a b : Int} {off : Int} {tgt : Nat} (hd : decode cc pc = .ok (.if_icmp .ne off, 3)) (ht : (pc : Int) + off = (tgt : Int)) (kt : (¬ a = b) → K tgt ls st μ) (kf : (a = b) → K (pc + 3) ls st μ) : K pc ls (vI b :: vI a :: st) μ := hK.2.2.2.2.2.2.2.2.2.2.2.2.2.2.2.2.2.2.2.2.2.2.2.2.2.2.2.2.2.2.2.2.2.2.2.2.2.2.2.2.2.2.2.1 hd ht kt kf
theorem r_if_lt (hK : StpC vd rg cc own K) {pc : Nat} {ls : Lc} {st : List Vl} {μ : α} {a : Int} {off : Int} {tgt : Nat} (hd : decode cc pc = .ok (.ifCond .lt off, 3)) (ht : (pc : Int) + off = (tgt : Int)) (kt : (a < 0) → K tgt ls st μ) (kf : (0 ≤ a) → K (pc + 3) ls st μ) : K pc ls (vI a :: st) μ := hK.2.2.2.2.2.2.2.2.2.2.2.2.2.2.2.2.2.2.2.2.2.2.2.2.2.2.2.2.2.2.2.2.2.2.2.2.2.2.2.2.2.2.2.2.1 hd ht kt kf
theorem r_icmp_lt (hK : StpC vd rg cc own K) {pc : Nat} {ls : Lc} {st : List Vl} {μ : α} {a b : Int} {off : Int} {tgt : Nat} (hd : decode cc pc = .ok (.if_icmp .lt off, 3)) (ht : (pc : Int) + off = (tgt : Int)) (kt : (a < b) → K tgt ls st μ) (kf : (b ≤ a) → K (pc + 3) ls st μ) : K pc ls (vI b :: vI a :: st) μ := hK.2.2.2.2.2.2.2.2.2.2.2.2.2.2.2.2.2.2.2.2.2.2.2.2.2.2.2.2.2.2.2.2.2.2.2.2.2.2.2.2.2.2.2.2.2.1 hd ht kt kf
theorem r_if_ge (hK : StpC vd rg cc own K) {pc : Nat} {ls : Lc} {st : List Vl} {μ : α} {a : Int} {off : Int} {tgt : Nat} (hd : decode cc pc = .ok (.ifCond .ge off, 3)) (ht : (pc : Int) + off = (tgt : Int)) (kt : (0 ≤ a) → K tgt ls st μ) (kf : (a < 0) → K (pc + 3) ls st μ) : K pc ls (vI a :: st) μ := hK.2.2.2.2.2.2.2.2.2.2.2.2.2.2.2.2.2.2.2.2.2.2.2.2.2.2.2.2.2.2.2.2.2.2.2.2.2.2.2.2.2.2.2.2.2.2.1 hd ht kt kf
theorem r_icmp_ge (hK : StpC vd rg cc own K) {pc : Nat} {ls : Lc} {st : List Vl} {μ : α} {a b : Int} {off : Int} {tgt : Nat} (hd : decode cc pc = .ok (.if_icmp .ge off, 3)) (ht : (pc : Int) + off = (tgt : Int)) (kt : (b ≤ a) → K tgt ls st μ) (kf : (a < b) → K (pc + 3) ls st μ) : K pc ls (vI b :: vI a :: st) μ := hK.2.2.2.2.2.2.2.2.2.2.2.2.2.2.2.2.2.2.2.2.2.2.2.2.2.2.2.2.2.2.2.2.2.2.2.2.2.2.2.2.2.2.2.2.2.2.2.1 hd ht kt kf
theorem r_if_gt (hK : StpC vd rg cc own K) {pc : Nat} {ls : Lc} {st : List Vl} {μ : α} {a : Int} {off : Int} {tgt : Nat} (hd : decode cc pc = .ok (.ifCond .gt off, 3)) (ht : (pc : Int) + off = (tgt : Int)) (kt : (0 < a) → K tgt ls st μ) (kf : (a ≤ 0) → K (pc + 3) ls st μ) : K pc ls (vI a :: st) μ := hK.2.2.2.2.2.2.2.2.2.2.2.2.2.2.2.2.2.2.2.2.2.2.2.2.2.2.2.2.2.2.2.2.2.2.2.2.2.2.2.2.2.2.2.2.2.2.2.2.1 hd ht kt kf
theorem r_icmp_gt (hK : StpC vd rg cc own K) {pc : Nat} {ls : Lc} {st : List Vl} {μ : α} {a b : Int} {off : Int} {tgt : Nat} (hd : decode cc pc = .ok (.if_icmp .gt off, 3)) (ht : (pc : Int) + off = (tgt : Int)) (kt : (b < a) → K tgt ls st μ) (kf : (a ≤ b) → K (pc + 3) ls st μ) : K pc ls (vI b :: vI a :: st) μ := hK.2.2.2.2.2.2.2.2.2.2.2.2.2.2.2.2.2.2.2.2.2.2.2.2.2.2.2.2.2.2.2.2.2.2.2.2.2.2.2.2.2.2.2.2.2.2.2.2.2.1 hd ht kt kf
theorem r_if_le (hK : StpC vd rg cc own K) {pc : Nat} {ls : Lc} {st : List Vl} {μ : α} {a : Int} {off : Int} {tgt : Nat} (hd : decode cc pc = .ok (.ifCond .le off, 3)) (ht : (pc : Int) + off = (tgt : Int)) (kt : (a ≤ 0) → K tgt ls st μ) (kf : (0 < a) → K (pc + 3) ls st μ) : K pc ls (vI a :: st) μ := hK.2.2.2.2.2.2.2.2.2.2.2.2.2.2.2.2.2.2.2.2.2.2.2.2.2.2.2.2.2.2.2.2.2.2.2.2.2.2.2.2.2.2.2.2.2.2.2.2.2.2.1 hd ht kt kf
theorem r_icmp_le (hK : StpC vd rg cc own K) {pc : Nat} {ls : Lc} {st : List Vl} {μ : α} {a b : Int} {off : Int} {tgt : Nat} (hd : decode cc pc = .ok (.if_icmp .le off, 3)) (ht : (pc : Int) + off = (tgt : Int)) (kt : (a ≤ b) → K tgt ls st μ) (kf : (b < a) → K (pc + 3) ls st μ) : K pc ls (vI b :: vI a :: st) μ := hK.2.2.2.2.2.2.2.2.2.2.2.2.2.2.2.2.2.2.2.2.2.2.2.2.2.2.2.2.2.2.2.2.2.2.2.2.2.2.2.2.2.2.2.2.2.2.2.2.2.2.2.1 hd ht kt kf
theorem r_ifnullN (hK : StpC vd rg cc own K) {pc : Nat} {ls : Lc} {st : List Vl} {μ : α} {off : Int} {tgt : Nat} (hd : decode cc pc = .ok (.ifnull off, 3)) (ht : (pc : Int) + off = (tgt : Int)) (k : K tgt ls st μ) : K pc ls (vN :: st) μ := hK.2.2.2.2.2.2.2.2.2.2.2.2.2.2.2.2.2.2.2.2.2.2.2.2.2.2.2.2.2.2.2.2.2.2.2.2.2.2.2.2.2.2.2.2.2.2.2.2.2.2.2.2.1 hd ht k
theorem r_ifnullR (hK : StpC vd rg cc own K) {pc : Nat} {ls : Lc} {st : List Vl} {μ : α} {off : Int} {q : Nat × Int} (hd : decode cc pc = .ok (.ifnull off, 3)) (k : K (pc + 3) ls st μ) : K pc ls (Sum.inr (Sum.inl (some q)) :: st) μ := hK.2.2.2.2.2.2.2.2.2.2.2.2.2.2.2.2.2.2.2.2.2.2.2.2.2.2.2.2.2.2.2.2.2.2.2.2.2.2.2.2.2.2.2.2.2.2.2.2.2.2.2.2.2.1 hd k
theorem r_ifnonnullN (hK : StpC vd rg cc own K) {pc : Nat} {ls : Lc} {st : List Vl} {μ : α} {off : Int} (hd : decode cc pc = .ok (.ifnonnull off, 3)) (k : K (pc + 3) ls st μ) : K pc ls (vN :: st) μ := hK.2.2.2.2.2.2.2.2.2.2.2.2.2.2.2.2.2.2.2.2.2.2.2.2.2.2.2.2.2.2.2.2.2.2.2.2.2.2.2.2.2.2.2.2.2.2.2.2.2.2.2.2.2.2.1 hd k
theorem r_ifnonnullR (hK : StpC vd rg cc own K) {pc : Nat} {ls : Lc} {st : List Vl} {μ : α} {off : Int} {tgt : Nat} {q : Nat × Int} (hd : decode cc pc = .ok (.ifnonnull off, 3)) (ht : (pc : Int) + off = (tgt : Int)) (k : K tgt ls st μ) : K pc ls (Sum.inr (Sum.inl (some q)) :: st) μ := hK.2.2.2.2.2.2.2.2.2.2.2.2.2.2.2.2.2.2.2.2.2.2.2.2.2.2.2.2.2.2.2.2.2.2.2.2.2.2.2.2.2.2.2.2.2.2.2.2.2.2.2.2.2.2.2.1 hd ht k
theorem r_tableOut (hK : StpC vd rg cc own K) {pc : Nat} {ls : Lc} {st : List Vl} {μ : α} {a dflt lo hi : Int} {offs : Array Int} {len tgt : Nat} (hd : decode cc pc = .ok (.tableswitch dflt lo hi offs, len)) (h : a < lo ∨ hi < a) (ht : (pc : Int) + dflt = (tgt : Int)) (k : K tgt ls st μ) : K pc ls (vI a :: st) μ := hK.2.2.2.2.2.2.2.2.2.2.2.2.2.2.2.2.2.2.2.2.2.2.2.2.2.2.2.2.2.2.2.2.2.2.2.2.2.2.2.2.2.2.2.2.2.2.2.2.2.2.2.2.2.2.2.2.1 hd h ht k
theorem r_tableIn (hK : StpC vd rg cc own K) {pc : Nat} {ls : Lc} {st : List Vl} {μ : α} {a dflt lo hi off : Int} {offs : Array Int} {len tgt : Nat} (hd : decode cc pc = .ok (.tableswitch dflt lo hi offs, len)) (h1 : lo ≤ a) (h2 : a ≤ hi) (ho : offs[(a - lo).toNat]? = some off) (ht : (pc : Int) + off = (tgt : Int)) (k : K tgt ls st μ) : K pc ls (vI a :: st) μ := hK.2.2.2.2.2.2.2.2.2.2.2.2.2.2.2.2.2.2.2.2.2.2.2.2.2.2.2.2.2.2.2.2.2.2.2.2.2.2.2.2.2.2.2.2.2.2.2.2.2.2.2.2.2.2.2.2.2.1 hd h1 h2 ho ht k
theorem r_forget (hK : StpC vd rg cc own K) {pc : Nat} {ls : Lc} {st : List Vl} {μ : α} {ls2 : Lc} (hs : lsub ls2 ls) (k : K pc ls2 st μ) : K pc ls st μ := hK.2.2.2.2.2.2.2.2.2.2.2.2.2.2.2.2.2.2.2.2.2.2.2.2.2.2.2.2.2.2.2.2.2.2.2.2.2.2.2.2.2.2.2.2.2.2.2.2.2.2.2.2.2.2.2.2.2.2.1 hs k
theorem r_rng (hK : StpC vd rg cc own K) {pc : Nat} {ls : Lc} {st : List Vl} {μ : α} (k : (rg μ → (∀ v : Vl, some v ∈ ls → rV (vd μ) v) → K pc ls st μ)) : K pc ls st μ := hK.2.2.2.2.2.2.2.2.2.2.2.2.2.2.2.2.2.2.2.2.2.2.2.2.2.2.2.2.2.2.2.2.2.2.2.2.2.2.2.2.2.2.2.2.2.2.2.2.2.2.2.2.2.2.2.2.2.2.2 k
end ROWS
section GMR
variable {α : Type} {ad : Nat → Int → Nat} {vd : α → Nat × Int → Prop} {Wd : α → Heap → Prop} {cf sf : α → Nat} {rg : α → Prop}
variable {p : Program} {l : Launch} {e : Env} {R : Room} {s : State} {m : MethodId} {args : Array Value} {below : List Frame} {meth : Method} {c : Code} {A : Nat → Prop} {Q : State → Prop} {nL : Nat} {cc : ByteArray} {own : String}
theorem g_iconst (CX : Cx p s m args meth c cc own nL) : Q_iconst vd rg cc own (Gm ad vd Wd cf sf rg p l e R s m args below meth c A Q nL) := by
  obtain ⟨hx, hb, hml, hown, hts, hnest, hlk⟩ := CX
  intro pc ls st μ n hd hn k
  intro g1 g2 g3 H locs lsA g4 g5 g6
  have k' := k g1 g2 (rS_cons.mpr ⟨inR_lit hn, g3⟩) H locs lsA g4 g5 g6
  simp only [List.map_cons, mv] at k'
  exact lv_iconst hx hb hd rfl k'
theorem g_bipush (CX : Cx p s m args meth c cc own nL) : Q_bipush vd rg cc own (Gm ad vd Wd cf sf rg p l e R s m args below meth c A Q nL) := by
  obtain ⟨hx, hb, hml, hown, hts, hnest, hlk⟩ := CX
  intro pc ls st μ n hd hn k
  intro g1 g2 g3 H locs lsA g4 g5 g6
  simp only [Bool.and_eq_true, decide_eq_true_eq] at hn
  have k' := k g1 g2 (rS_cons.mpr ⟨⟨by omega, by omega⟩, g3⟩) H locs lsA g4 g5 g6
  simp only [List.map_cons, mv] at k'
  exact lv_bipush hx hb hd (Int8.toInt32_ofInt (by have := hn.1; exact this) (by have := hn.2; exact Int.le_of_lt_add_one this)) k'
theorem g_sipush (CX : Cx p s m args meth c cc own nL) : Q_sipush vd rg cc own (Gm ad vd Wd cf sf rg p l e R s m args below meth c A Q nL) := by
  obtain ⟨hx, hb, hml, hown, hts, hnest, hlk⟩ := CX
  intro pc ls st μ n hd hn k
  intro g1 g2 g3 H locs lsA g4 g5 g6
  simp only [Bool.and_eq_true, decide_eq_true_eq] at hn
  have k' := k g1 g2 (rS_cons.mpr ⟨⟨by omega, by omega⟩, g3⟩) H locs lsA g4 g5 g6
  simp only [List.map_cons, mv] at k'
  exact lv_sipush hx hb hd (Int16.toInt32_ofInt (by have := hn.1; exact this) (by have := hn.2; exact Int.le_of_lt_add_one this)) k'
theorem g_ldc (CX : Cx p s m args meth c cc own nL) : Q_ldc vd rg cc own (Gm ad vd Wd cf sf rg p l e R s m args below meth c A Q nL) := by
  obtain ⟨hx, hb, hml, hown, hts, hnest, hlk⟩ := CX
  intro pc ls st μ x n hd hc hn k
  intro g1 g2 g3 H locs lsA g4 g5 g6
  have k' := k g1 g2 (rS_cons.mpr ⟨inR_lit hn, g3⟩) H locs lsA g4 g5 g6
  simp only [List.map_cons, mv] at k'
  exact lv_ldc hx hb hown (hts _ hc) hd k'
theorem g_ldcw (CX : Cx p s m args meth c cc own nL) : Q_ldcw vd rg cc own (Gm ad vd Wd cf sf rg p l e R s m args below meth c A Q nL) := by
  obtain ⟨hx, hb, hml, hown, hts, hnest, hlk⟩ := CX
  intro pc ls st μ x n hd hc hn k
  intro g1 g2 g3 H locs lsA g4 g5 g6
  have k' := k g1 g2 (rS_cons.mpr ⟨inR_lit hn, g3⟩) H locs lsA g4 g5 g6
  simp only [List.map_cons, mv] at k'
  exact lv_ldcw hx hb hown (hts _ hc) hd k'
theorem g_iload_n (CX : Cx p s m args meth c cc own nL) : Q_iload_n vd rg cc own (Gm ad vd Wd cf sf rg p l e R s m args below meth c A Q nL) := by
  obtain ⟨hx, hb, hml, hown, hts, hnest, hlk⟩ := CX
  intro pc ls st μ x a hd hl k
  intro g1 g2 g3 H locs lsA g4 g5 g6
  have hv := g2 _ (List.mem_of_getElem? hl)
  have hl' := g6.at hl
  have k' := k g1 g2 (rS_cons.mpr ⟨hv, g3⟩) H locs lsA g4 g5 g6
  simp only [List.map_cons, mv] at k' hl'
  exact lv_iload_n hx hb hd rfl hl' k'
theorem g_iload (CX : Cx p s m args meth c cc own nL) : Q_iload vd rg cc own (Gm ad vd Wd cf sf rg p l e R s m args below meth c A Q nL) := by
  obtain ⟨hx, hb, hml, hown, hts, hnest, hlk⟩ := CX
  intro pc ls st μ x a hd hl k
  intro g1 g2 g3 H locs lsA g4 g5 g6
  have hv := g2 _ (List.mem_of_getElem? hl)
  have hl' := g6.at hl
  have k' := k g1 g2 (rS_cons.mpr ⟨hv, g3⟩) H locs lsA g4 g5 g6
  simp only [List.map_cons, mv] at k' hl'
  exact lv_iload hx hb hd hl' k'
theorem g_lload_n (CX : Cx p s m args meth c cc own nL) : Q_lload_n vd rg cc own (Gm ad vd Wd cf sf rg p l e R s m args below meth c A Q nL) := by
  obtain ⟨hx, hb, hml, hown, hts, hnest, hlk⟩ := CX
  intro pc ls st μ x a hd hl k
  intro g1 g2 g3 H locs lsA g4 g5 g6
  have hv := g2 _ (List.mem_of_getElem? hl)
  have hl' := g6.at hl
  have k' := k g1 g2 (rS_cons.mpr ⟨hv, g3⟩) H locs lsA g4 g5 g6
  simp only [List.map_cons, mv] at k' hl'
  exact lv_lload_n hx hb hd rfl hl' k'
theorem g_aload_n (CX : Cx p s m args meth c cc own nL) : Q_aload_n vd rg cc own (Gm ad vd Wd cf sf rg p l e R s m args below meth c A Q nL) := by
  obtain ⟨hx, hb, hml, hown, hts, hnest, hlk⟩ := CX
  intro pc ls st μ x q hd hl k
  intro g1 g2 g3 H locs lsA g4 g5 g6
  have hv := g2 _ (List.mem_of_getElem? hl)
  have hl' := g6.at hl
  have k' := k g1 g2 (rS_cons.mpr ⟨hv, g3⟩) H locs lsA g4 g5 g6
  simp only [List.map_cons, mv] at k' hl'
  exact lv_aload_n hx hb hd rfl hl' k'
theorem g_aload (CX : Cx p s m args meth c cc own nL) : Q_aload vd rg cc own (Gm ad vd Wd cf sf rg p l e R s m args below meth c A Q nL) := by
  obtain ⟨hx, hb, hml, hown, hts, hnest, hlk⟩ := CX
  intro pc ls st μ x q hd hl k
  intro g1 g2 g3 H locs lsA g4 g5 g6
  have hv := g2 _ (List.mem_of_getElem? hl)
  have hl' := g6.at hl
  have k' := k g1 g2 (rS_cons.mpr ⟨hv, g3⟩) H locs lsA g4 g5 g6
  simp only [List.map_cons, mv] at k' hl'
  exact lv_aload hx hb hd hl' k'
theorem g_aloadN_n (CX : Cx p s m args meth c cc own nL) : Q_aloadN_n vd rg cc own (Gm ad vd Wd cf sf rg p l e R s m args below meth c A Q nL) := by
  obtain ⟨hx, hb, hml, hown, hts, hnest, hlk⟩ := CX
  intro pc ls st μ x hd hl k
  intro g1 g2 g3 H locs lsA g4 g5 g6
  have hv := g2 _ (List.mem_of_getElem? hl)
  have hl' := g6.at hl
  have k' := k g1 g2 (rS_cons.mpr ⟨hv, g3⟩) H locs lsA g4 g5 g6
  simp only [List.map_cons, mv] at k' hl'
  exact gm_aloadN_n hx hb hd rfl hl' k'
theorem g_aloadN (CX : Cx p s m args meth c cc own nL) : Q_aloadN vd rg cc own (Gm ad vd Wd cf sf rg p l e R s m args below meth c A Q nL) := by
  obtain ⟨hx, hb, hml, hown, hts, hnest, hlk⟩ := CX
  intro pc ls st μ x hd hl k
  intro g1 g2 g3 H locs lsA g4 g5 g6
  have hv := g2 _ (List.mem_of_getElem? hl)
  have hl' := g6.at hl
  have k' := k g1 g2 (rS_cons.mpr ⟨hv, g3⟩) H locs lsA g4 g5 g6
  simp only [List.map_cons, mv] at k' hl'
  exact lv_aloadN hx hb hd hl' k'
theorem g_istore_n (CX : Cx p s m args meth c cc own nL) : Q_istore_n vd rg cc own (Gm ad vd Wd cf sf rg p l e R s m args below meth c A Q nL) := by
  obtain ⟨hx, hb, hml, hown, hts, hnest, hlk⟩ := CX
  intro pc ls st μ x a hd hi k
  intro g1 g2 g3 H locs lsA g4 g5 g6
  obtain ⟨q1, g3⟩ := rS_cons.mp g3
  simp only [Bool.and_eq_true] at hi
  have hlt : ((x : Nat) : Nat) < nL := by rw [← g6.1]; exact Nat.blt_eq.mp hi.1
  have hv := mv_cat ad (vI a)
  refine lv_istore_n hx hb hd rfl g6.2 hlt rfl (fun lsB h => ?_)
  exact k g1 (fun v hv => by
    rcases List.mem_or_eq_of_mem_set hv with h | h
    · exact g2 v h
    · cases h; exact q1) g3 H locs lsB g4 g5 (g6.set (v := vI a) hi.2 h)
theorem g_istore (CX : Cx p s m args meth c cc own nL) : Q_istore vd rg cc own (Gm ad vd Wd cf sf rg p l e R s m args below meth c A Q nL) := by
  obtain ⟨hx, hb, hml, hown, hts, hnest, hlk⟩ := CX
  intro pc ls st μ x a hd hi k
  intro g1 g2 g3 H locs lsA g4 g5 g6
  obtain ⟨q1, g3⟩ := rS_cons.mp g3
  simp only [Bool.and_eq_true] at hi
  have hlt : (x : Nat) < nL := by rw [← g6.1]; exact Nat.blt_eq.mp hi.1
  have hv := mv_cat ad (vI a)
  refine lv_istore hx hb hd g6.2 hlt rfl (fun lsB h => ?_)
  exact k g1 (fun v hv => by
    rcases List.mem_or_eq_of_mem_set hv with h | h
    · exact g2 v h
    · cases h; exact q1) g3 H locs lsB g4 g5 (g6.set (v := vI a) hi.2 h)
theorem g_astore_n (CX : Cx p s m args meth c cc own nL) : Q_astore_n vd rg cc own (Gm ad vd Wd cf sf rg p l e R s m args below meth c A Q nL) := by
  obtain ⟨hx, hb, hml, hown, hts, hnest, hlk⟩ := CX
  intro pc ls st μ x q hd hi k
  intro g1 g2 g3 H locs lsA g4 g5 g6
  obtain ⟨q1, g3⟩ := rS_cons.mp g3
  simp only [Bool.and_eq_true] at hi
  have hlt : ((x : Nat) : Nat) < nL := by rw [← g6.1]; exact Nat.blt_eq.mp hi.1
  have hv := mv_cat ad (Sum.inr (Sum.inl (some q)))
  refine lv_astore_n hx hb hd rfl g6.2 hlt rfl (fun lsB h => ?_)
  exact k g1 (fun v hv => by
    rcases List.mem_or_eq_of_mem_set hv with h | h
    · exact g2 v h
    · cases h; exact q1) g3 H locs lsB g4 g5 (g6.set (v := Sum.inr (Sum.inl (some q))) hi.2 h)
theorem g_astore (CX : Cx p s m args meth c cc own nL) : Q_astore vd rg cc own (Gm ad vd Wd cf sf rg p l e R s m args below meth c A Q nL) := by
  obtain ⟨hx, hb, hml, hown, hts, hnest, hlk⟩ := CX
  intro pc ls st μ x q hd hi k
  intro g1 g2 g3 H locs lsA g4 g5 g6
  obtain ⟨q1, g3⟩ := rS_cons.mp g3
  simp only [Bool.and_eq_true] at hi
  have hlt : (x : Nat) < nL := by rw [← g6.1]; exact Nat.blt_eq.mp hi.1
  have hv := mv_cat ad (Sum.inr (Sum.inl (some q)))
  refine lv_astore hx hb hd g6.2 hlt rfl (fun lsB h => ?_)
  exact k g1 (fun v hv => by
    rcases List.mem_or_eq_of_mem_set hv with h | h
    · exact g2 v h
    · cases h; exact q1) g3 H locs lsB g4 g5 (g6.set (v := Sum.inr (Sum.inl (some q))) hi.2 h)
theorem g_astoreN_n (CX : Cx p s m args meth c cc own nL) : Q_astoreN_n vd rg cc own (Gm ad vd Wd cf sf rg p l e R s m args below meth c A Q nL) := by
  obtain ⟨hx, hb, hml, hown, hts, hnest, hlk⟩ := CX
  intro pc ls st μ x hd hi k
  intro g1 g2 g3 H locs lsA g4 g5 g6
  obtain ⟨q1, g3⟩ := rS_cons.mp g3
  simp only [Bool.and_eq_true] at hi
  have hlt : ((x : Nat) : Nat) < nL := by rw [← g6.1]; exact Nat.blt_eq.mp hi.1
  have hv := mv_cat ad (vN)
  refine gm_astoreN_n hx hb hd rfl g6.2 hlt rfl (fun lsB h => ?_)
  exact k g1 (fun v hv => by
    rcases List.mem_or_eq_of_mem_set hv with h | h
    · exact g2 v h
    · cases h; exact q1) g3 H locs lsB g4 g5 (g6.set (v := vN) hi.2 h)
theorem g_astoreN (CX : Cx p s m args meth c cc own nL) : Q_astoreN vd rg cc own (Gm ad vd Wd cf sf rg p l e R s m args below meth c A Q nL) := by
  obtain ⟨hx, hb, hml, hown, hts, hnest, hlk⟩ := CX
  intro pc ls st μ x hd hi k
  intro g1 g2 g3 H locs lsA g4 g5 g6
  obtain ⟨q1, g3⟩ := rS_cons.mp g3
  simp only [Bool.and_eq_true] at hi
  have hlt : (x : Nat) < nL := by rw [← g6.1]; exact Nat.blt_eq.mp hi.1
  have hv := mv_cat ad (vN)
  refine lv_astoreN hx hb hd g6.2 hlt rfl (fun lsB h => ?_)
  exact k g1 (fun v hv => by
    rcases List.mem_or_eq_of_mem_set hv with h | h
    · exact g2 v h
    · cases h; exact q1) g3 H locs lsB g4 g5 (g6.set (v := vN) hi.2 h)
theorem g_iinc (CX : Cx p s m args meth c cc own nL) : Q_iinc vd rg cc own (Gm ad vd Wd cf sf rg p l e R s m args below meth c A Q nL) := by
  obtain ⟨hx, hb, hml, hown, hts, hnest, hlk⟩ := CX
  intro pc ls st μ x n a hd hl hi k
  intro g1 g2 g3 H locs lsA g4 g5 g6
  have hlt : x < nL := by rw [← g6.1]; exact (List.getElem?_eq_some_iff.mp hl).1
  obtain ⟨j, hj⟩ := List.getElem?_of_mem (lpairs_mem (ad := ad).mpr ⟨x, vI a, hl, rfl⟩)
  rw [Nat.zero_add] at hj
  refine lv_iinc hx hb hd g6.2 hj (v := i3 (wr (a + n))) (by rw [i3_wr, i3_add]; rfl) hlt rfl (fun lsB h => ?_)
  exact k g1 (fun v hv => by
    rcases List.mem_or_eq_of_mem_set hv with h | h
    · exact g2 v h
    · cases h; exact inR_wr _) g3 H locs lsB g4 g5 (g6.set (v := vI (wr (a + n))) hi h)
theorem g_iadd (CX : Cx p s m args meth c cc own nL) : Q_iadd vd rg cc own (Gm ad vd Wd cf sf rg p l e R s m args below meth c A Q nL) := by
  obtain ⟨hx, hb, hml, hown, hts, hnest, hlk⟩ := CX
  intro pc ls st μ a b hd k
  intro g1 g2 g3 H locs lsA g4 g5 g6
  obtain ⟨q1, g3⟩ := rS_cons.mp g3
  obtain ⟨q2, g3⟩ := rS_cons.mp g3
  have k' := k g1 g2 (rS_cons.mpr ⟨inR_of _, g3⟩) H locs lsA g4 g5 g6
  simp only [List.map_cons, mv, i3_wr, i3_add] at k'
  exact lv_iadd hx hb hd k'
theorem g_isub (CX : Cx p s m args meth c cc own nL) : Q_isub vd rg cc own (Gm ad vd Wd cf sf rg p l e R s m args below meth c A Q nL) := by
  obtain ⟨hx, hb, hml, hown, hts, hnest, hlk⟩ := CX
  intro pc ls st μ a b hd k
  intro g1 g2 g3 H locs lsA g4 g5 g6
  obtain ⟨q1, g3⟩ := rS_cons.mp g3
  obtain ⟨q2, g3⟩ := rS_cons.mp g3
  have k' := k g1 g2 (rS_cons.mpr ⟨inR_of _, g3⟩) H locs lsA g4 g5 g6
  simp only [List.map_cons, mv, i3_wr, i3_sub] at k'
  exact lv_isub hx hb hd k'
theorem g_imul (CX : Cx p s m args meth c cc own nL) : Q_imul vd rg cc own (Gm ad vd Wd cf sf rg p l e R s m args below meth c A Q nL) := by
  obtain ⟨hx, hb, hml, hown, hts, hnest, hlk⟩ := CX
  intro pc ls st μ a b hd k
  intro g1 g2 g3 H locs lsA g4 g5 g6
  obtain ⟨q1, g3⟩ := rS_cons.mp g3
  obtain ⟨q2, g3⟩ := rS_cons.mp g3
  have k' := k g1 g2 (rS_cons.mpr ⟨inR_of _, g3⟩) H locs lsA g4 g5 g6
  simp only [List.map_cons, mv, i3_wr, i3_mul] at k'
  exact lv_imul hx hb hd k'
theorem g_iand (CX : Cx p s m args meth c cc own nL) : Q_iand vd rg cc own (Gm ad vd Wd cf sf rg p l e R s m args below meth c A Q nL) := by
  obtain ⟨hx, hb, hml, hown, hts, hnest, hlk⟩ := CX
  intro pc ls st μ a b hd k
  intro g1 g2 g3 H locs lsA g4 g5 g6
  obtain ⟨q1, g3⟩ := rS_cons.mp g3
  obtain ⟨q2, g3⟩ := rS_cons.mp g3
  have k' := k g1 g2 (rS_cons.mpr ⟨inR_of _, g3⟩) H locs lsA g4 g5 g6
  simp only [List.map_cons, mv, iand, i3_of] at k'
  exact lv_iand hx hb hd k'
theorem g_ior (CX : Cx p s m args meth c cc own nL) : Q_ior vd rg cc own (Gm ad vd Wd cf sf rg p l e R s m args below meth c A Q nL) := by
  obtain ⟨hx, hb, hml, hown, hts, hnest, hlk⟩ := CX
  intro pc ls st μ a b hd k
  intro g1 g2 g3 H locs lsA g4 g5 g6
  obtain ⟨q1, g3⟩ := rS_cons.mp g3
  obtain ⟨q2, g3⟩ := rS_cons.mp g3
  have k' := k g1 g2 (rS_cons.mpr ⟨inR_of _, g3⟩) H locs lsA g4 g5 g6
  simp only [List.map_cons, mv, ior, i3_of] at k'
  exact lv_ior hx hb hd k'
theorem g_ixor (CX : Cx p s m args meth c cc own nL) : Q_ixor vd rg cc own (Gm ad vd Wd cf sf rg p l e R s m args below meth c A Q nL) := by
  obtain ⟨hx, hb, hml, hown, hts, hnest, hlk⟩ := CX
  intro pc ls st μ a b hd k
  intro g1 g2 g3 H locs lsA g4 g5 g6
  obtain ⟨q1, g3⟩ := rS_cons.mp g3
  obtain ⟨q2, g3⟩ := rS_cons.mp g3
  have k' := k g1 g2 (rS_cons.mpr ⟨inR_of _, g3⟩) H locs lsA g4 g5 g6
  simp only [List.map_cons, mv, ixor, i3_of] at k'
  exact lv_ixor hx hb hd k'
theorem g_ishl (CX : Cx p s m args meth c cc own nL) : Q_ishl vd rg cc own (Gm ad vd Wd cf sf rg p l e R s m args below meth c A Q nL) := by
  obtain ⟨hx, hb, hml, hown, hts, hnest, hlk⟩ := CX
  intro pc ls st μ a b hd k
  intro g1 g2 g3 H locs lsA g4 g5 g6
  obtain ⟨q1, g3⟩ := rS_cons.mp g3
  obtain ⟨q2, g3⟩ := rS_cons.mp g3
  have k' := k g1 g2 (rS_cons.mpr ⟨inR_of _, g3⟩) H locs lsA g4 g5 g6
  simp only [List.map_cons, mv, ishl, i3_of] at k'
  exact lv_ishl hx hb hd k'
theorem g_ishr (CX : Cx p s m args meth c cc own nL) : Q_ishr vd rg cc own (Gm ad vd Wd cf sf rg p l e R s m args below meth c A Q nL) := by
  obtain ⟨hx, hb, hml, hown, hts, hnest, hlk⟩ := CX
  intro pc ls st μ a b hd k
  intro g1 g2 g3 H locs lsA g4 g5 g6
  obtain ⟨q1, g3⟩ := rS_cons.mp g3
  obtain ⟨q2, g3⟩ := rS_cons.mp g3
  have k' := k g1 g2 (rS_cons.mpr ⟨inR_of _, g3⟩) H locs lsA g4 g5 g6
  simp only [List.map_cons, mv, ishr, i3_of] at k'
  exact lv_ishr hx hb hd k'
theorem g_iushr (CX : Cx p s m args meth c cc own nL) : Q_iushr vd rg cc own (Gm ad vd Wd cf sf rg p l e R s m args below meth c A Q nL) := by
  obtain ⟨hx, hb, hml, hown, hts, hnest, hlk⟩ := CX
  intro pc ls st μ a b hd k
  intro g1 g2 g3 H locs lsA g4 g5 g6
  obtain ⟨q1, g3⟩ := rS_cons.mp g3
  obtain ⟨q2, g3⟩ := rS_cons.mp g3
  have k' := k g1 g2 (rS_cons.mpr ⟨inR_of _, g3⟩) H locs lsA g4 g5 g6
  simp only [List.map_cons, mv, iushr, i3_of] at k'
  exact lv_iushr hx hb hd rfl k'
theorem g_idiv (CX : Cx p s m args meth c cc own nL) : Q_idiv vd rg cc own (Gm ad vd Wd cf sf rg p l e R s m args below meth c A Q nL) := by
  obtain ⟨hx, hb, hml, hown, hts, hnest, hlk⟩ := CX
  intro pc ls st μ a b hd hp k
  intro g1 g2 g3 H locs lsA g4 g5 g6
  obtain ⟨q1, g3⟩ := rS_cons.mp g3
  obtain ⟨q2, g3⟩ := rS_cons.mp g3
  have k' := k g1 g2 (rS_cons.mpr ⟨tdiv_inR q2 hp, g3⟩) H locs lsA g4 g5 g6
  simp only [List.map_cons, mv] at k'
  exact lv_idiv hx hb hd (fun h => by have h1 := (i3_inj (b := 0) q1 (inR_lit rfl)).mp h; omega) (by rw [i3_div q2 q1] at k'; exact k')
theorem g_irem (CX : Cx p s m args meth c cc own nL) : Q_irem vd rg cc own (Gm ad vd Wd cf sf rg p l e R s m args below meth c A Q nL) := by
  obtain ⟨hx, hb, hml, hown, hts, hnest, hlk⟩ := CX
  intro pc ls st μ a b hd hp k
  intro g1 g2 g3 H locs lsA g4 g5 g6
  obtain ⟨q1, g3⟩ := rS_cons.mp g3
  obtain ⟨q2, g3⟩ := rS_cons.mp g3
  have k' := k g1 g2 (rS_cons.mpr ⟨tmod_inR q2 hp q1, g3⟩) H locs lsA g4 g5 g6
  simp only [List.map_cons, mv] at k'
  exact lv_irem hx hb hd (fun h => by have h1 := (i3_inj (b := 0) q1 (inR_lit rfl)).mp h; omega) (by rw [← tmod_eq, i3_sub, i3_mul, i3_div q2 q1] at k'; exact k')
theorem g_ineg (CX : Cx p s m args meth c cc own nL) : Q_ineg vd rg cc own (Gm ad vd Wd cf sf rg p l e R s m args below meth c A Q nL) := by
  obtain ⟨hx, hb, hml, hown, hts, hnest, hlk⟩ := CX
  intro pc ls st μ a hd k
  intro g1 g2 g3 H locs lsA g4 g5 g6
  obtain ⟨q1, g3⟩ := rS_cons.mp g3
  have k' := k g1 g2 (rS_cons.mpr ⟨inR_wr _, g3⟩) H locs lsA g4 g5 g6
  simp only [List.map_cons, mv, i3_wr, i3_neg] at k'
  exact lv_ineg hx hb hd k'
theorem g_i2l (CX : Cx p s m args meth c cc own nL) : Q_i2l vd rg cc own (Gm ad vd Wd cf sf rg p l e R s m args below meth c A Q nL) := by
  obtain ⟨hx, hb, hml, hown, hts, hnest, hlk⟩ := CX
  intro pc ls st μ a hd k
  intro g1 g2 g3 H locs lsA g4 g5 g6
  obtain ⟨q1, g3⟩ := rS_cons.mp g3
  have k' := k g1 g2 (rS_cons.mpr ⟨(by obtain ⟨h1, h2⟩ := (show inR a from q1); constructor <;> omega), g3⟩) H locs lsA g4 g5 g6
  simp only [List.map_cons, mv] at k'
  exact lv_i2l hx hb hd (Int32.toInt64_ofInt (by have := (show inR a from q1).1; exact this) (by have := (show inR a from q1).2; exact Int.le_of_lt_add_one this)) k'
theorem g_lconst (CX : Cx p s m args meth c cc own nL) : Q_lconst vd rg cc own (Gm ad vd Wd cf sf rg p l e R s m args below meth c A Q nL) := by
  obtain ⟨hx, hb, hml, hown, hts, hnest, hlk⟩ := CX
  intro pc ls st μ n a hd ha k
  intro g1 g2 g3 H locs lsA g4 g5 g6
  subst ha
  have k' := k g1 g2 (rS_cons.mpr ⟨(by have := n.isLt; constructor <;> omega), g3⟩) H locs lsA g4 g5 g6
  simp only [List.map_cons, mv] at k'
  exact lv_lconst hx hb hd (by rfl) k'
theorem g_lsub (CX : Cx p s m args meth c cc own nL) : Q_lsub vd rg cc own (Gm ad vd Wd cf sf rg p l e R s m args below meth c A Q nL) := by
  obtain ⟨hx, hb, hml, hown, hts, hnest, hlk⟩ := CX
  intro pc ls st μ a b hd k
  intro g1 g2 g3 H locs lsA g4 g5 g6
  obtain ⟨q1, g3⟩ := rS_cons.mp g3
  obtain ⟨q2, g3⟩ := rS_cons.mp g3
  have k' := k g1 g2 (rS_cons.mpr ⟨⟨Int64.le_toInt _, Int64.toInt_lt _⟩, g3⟩) H locs lsA g4 g5 g6
  simp only [List.map_cons, mv, wl, Int64.ofInt_toInt, Int64.ofInt_sub] at k'
  exact lv_lsub hx hb hd k'
theorem g_lcmp (CX : Cx p s m args meth c cc own nL) : Q_lcmp vd rg cc own (Gm ad vd Wd cf sf rg p l e R s m args below meth c A Q nL) := by
  obtain ⟨hx, hb, hml, hown, hts, hnest, hlk⟩ := CX
  intro pc ls st μ a b hd k
  intro g1 g2 g3 H locs lsA g4 g5 g6
  obtain ⟨q1, g3⟩ := rS_cons.mp g3
  obtain ⟨q2, g3⟩ := rS_cons.mp g3
  have k' := k g1 g2 (rS_cons.mpr ⟨(by show inR (lcmp a b); unfold lcmp; split <;> (try split) <;> exact inR_lit rfl), g3⟩) H locs lsA g4 g5 g6
  have e : i3 (lcmp a b) = lg_cmp (Int64.ofInt a) (Int64.ofInt b) := by
    have ha : (Int64.ofInt a).toInt = a := Int64.toInt_ofInt_of_le q2.1 q2.2
    have hb' : (Int64.ofInt b).toInt = b := Int64.toInt_ofInt_of_le q1.1 q1.2
    unfold lcmp lg_cmp
    simp only [gt_iff_lt, Int64.lt_iff_toInt_lt, ← Int64.toInt_inj, ha, hb']
    by_cases h1 : a < b
    · rw [if_pos h1, if_neg (by omega), if_neg (by omega)]; rfl
    · by_cases h2 : a = b
      · rw [if_neg h1, if_pos h2, if_neg (by omega), if_pos h2]; rfl
      · rw [if_neg h1, if_neg h2, if_pos (by omega)]; rfl
  simp only [List.map_cons, mv, e] at k'
  exact W.lcmp hx hb hd k'
theorem g_dup (CX : Cx p s m args meth c cc own nL) : Q_dup vd rg cc own (Gm ad vd Wd cf sf rg p l e R s m args below meth c A Q nL) := by
  obtain ⟨hx, hb, hml, hown, hts, hnest, hlk⟩ := CX
  intro pc ls st μ v hd hv k
  intro g1 g2 g3 H locs lsA g4 g5 g6
  obtain ⟨q1, -⟩ := rS_cons.mp g3
  exact lv_dup hx hb hd (by rw [mv_cat]; exact hv) (k g1 g2 (rS_cons.mpr ⟨q1, g3⟩) H locs lsA g4 g5 g6)
theorem g_dup2 (CX : Cx p s m args meth c cc own nL) : Q_dup2 vd rg cc own (Gm ad vd Wd cf sf rg p l e R s m args below meth c A Q nL) := by
  obtain ⟨hx, hb, hml, hown, hts, hnest, hlk⟩ := CX
  intro pc ls st μ v u hd hv hu k
  intro g1 g2 g3 H locs lsA g4 g5 g6
  obtain ⟨q1, q3⟩ := rS_cons.mp g3
  obtain ⟨q2, q4⟩ := rS_cons.mp q3
  exact lv_dup2_11 hx hb hd (by rw [mv_cat]; exact hv) (by rw [mv_cat]; exact hu) (k g1 g2 (rS_cons.mpr ⟨q1, rS_cons.mpr ⟨q2, g3⟩⟩) H locs lsA g4 g5 g6)
theorem g_pop (CX : Cx p s m args meth c cc own nL) : Q_pop vd rg cc own (Gm ad vd Wd cf sf rg p l e R s m args below meth c A Q nL) := by
  obtain ⟨hx, hb, hml, hown, hts, hnest, hlk⟩ := CX
  intro pc ls st μ v hd hv k
  intro g1 g2 g3 H locs lsA g4 g5 g6
  obtain ⟨q1, g3⟩ := rS_cons.mp g3
  exact lv_pop hx hb hd (by rw [mv_cat]; exact hv) (k g1 g2 g3 H locs lsA g4 g5 g6)
theorem g_goto (CX : Cx p s m args meth c cc own nL) : Q_goto vd rg cc own (Gm ad vd Wd cf sf rg p l e R s m args below meth c A Q nL) := by
  obtain ⟨hx, hb, hml, hown, hts, hnest, hlk⟩ := CX
  intro pc ls st μ off tgt hd ht k
  intro g1 g2 g3 H locs lsA g4 g5 g6
  exact lv_goto hx hb hd ht (k g1 g2 g3 H locs lsA g4 g5 g6)
theorem g_null (CX : Cx p s m args meth c cc own nL) : Q_null vd rg cc own (Gm ad vd Wd cf sf rg p l e R s m args below meth c A Q nL) := by
  obtain ⟨hx, hb, hml, hown, hts, hnest, hlk⟩ := CX
  intro pc ls st μ hd k
  intro g1 g2 g3 H locs lsA g4 g5 g6
  exact lv_null hx hb hd (k g1 g2 (rS_cons.mpr ⟨trivial, g3⟩) H locs lsA g4 g5 g6)
theorem g_if_eq (CX : Cx p s m args meth c cc own nL) : Q_if_eq vd rg cc own (Gm ad vd Wd cf sf rg p l e R s m args below meth c A Q nL) := by
  obtain ⟨hx, hb, hml, hown, hts, hnest, hlk⟩ := CX
  intro pc ls st μ a off tgt hd ht kt kf
  intro g1 g2 g3 H locs lsA g4 g5 g6
  obtain ⟨q1, g3⟩ := rS_cons.mp g3
  have i0 : inR 0 := inR_lit rfl
  exact lv_if_eq hx hb hd ht (fun h => kt ((i3_inj q1 i0).mp h) g1 g2 g3 H locs lsA g4 g5 g6) (fun h => kf (fun h2 => h ((i3_inj q1 i0).mpr h2)) g1 g2 g3 H locs lsA g4 g5 g6)
theorem g_icmp_eq (CX : Cx p s m args meth c cc own nL) : Q_icmp_eq vd rg cc own (Gm ad vd Wd cf sf rg p l e R s m args below meth c A Q nL) := by
  obtain ⟨hx, hb, hml, hown, hts, hnest, hlk⟩ := CX
  intro pc ls st μ a b off tgt hd ht kt kf
  intro g1 g2 g3 H locs lsA g4 g5 g6
  obtain ⟨qb, g3⟩ := rS_cons.mp g3
  obtain ⟨qa, g3⟩ := rS_cons.mp g3
  exact lv_icmp_eq hx hb hd ht (fun h => kt ((i3_inj qa qb).mp h) g1 g2 g3 H locs lsA g4 g5 g6) (fun h => kf (fun h2 => h ((i3_inj qa qb).mpr h2)) g1 g2 g3 H locs lsA g4 g5 g6)
theorem g_if_ne (CX : Cx p s m args meth c cc own nL) : Q_if_ne vd rg cc own (Gm ad vd Wd cf sf rg p l e R s m args below meth c A Q nL) := by
  obtain ⟨hx, hb, hml, hown, hts, hnest, hlk⟩ := CX
  intro pc ls st μ a off tgt hd ht kt kf
  intro g1 g2 g3 H locs lsA g4 g5 g6
  obtain ⟨q1, g3⟩ := rS_cons.mp g3
  have i0 : inR 0 := inR_lit rfl
  exact lv_if_ne hx hb hd ht (fun h => kt (fun h2 => h ((i3_inj q1 i0).mpr h2)) g1 g2 g3 H locs lsA g4 g5 g6) (fun h => kf ((i3_inj q1 i0).mp h) g1 g2 g3 H locs lsA g4 g5 g6)
theorem g_icmp_ne (CX : Cx p s m args meth c cc own nL) : Q_icmp_ne vd rg cc own (Gm ad vd Wd cf sf rg p l e R s m args below meth c A Q nL) := by
  obtain ⟨hx, hb, hml, hown, hts, hnest, hlk⟩ := CX
  intro pc ls st μ a b off tgt hd ht kt kf
  intro g1 g2 g3 H locs lsA g4 g5 g6
  obtain ⟨qb, g3⟩ := rS_cons.mp g3
  obtain ⟨qa, g3⟩ := rS_cons.mp g3
  exact lv_icmp_ne hx hb hd ht (fun h => kt (fun h2 => h ((i3_inj qa qb).mpr h2)) g1 g2 g3 H locs lsA g4 g5 g6) (fun h => kf ((i3_inj qa qb).mp h) g1 g2 g3 H locs lsA g4 g5 g6)
theorem g_if_lt (CX : Cx p s m args meth c cc own nL) : Q_if_lt vd rg cc own (Gm ad vd Wd cf sf rg p l e R s m args below meth c A Q nL) := by
  obtain ⟨hx, hb, hml, hown, hts, hnest, hlk⟩ := CX
  intro pc ls st μ a off tgt hd ht kt kf
  intro g1 g2 g3 H locs lsA g4 g5 g6
  obtain ⟨q1, g3⟩ := rS_cons.mp g3
  have i0 : inR 0 := inR_lit rfl
  exact lv_if_lt hx hb hd ht (fun h => kt ((i3_lt q1 i0).mp h) g1 g2 g3 H locs lsA g4 g5 g6) (fun h => kf (Int.not_lt.mp fun h2 => h ((i3_lt q1 i0).mpr h2)) g1 g2 g3 H locs lsA g4 g5 g6)
theorem g_icmp_lt (CX : Cx p s m args meth c cc own nL) : Q_icmp_lt vd rg cc own (Gm ad vd Wd cf sf rg p l e R s m args below meth c A Q nL) := by
  obtain ⟨hx, hb, hml, hown, hts, hnest, hlk⟩ := CX
  intro pc ls st μ a b off tgt hd ht kt kf
  intro g1 g2 g3 H locs lsA g4 g5 g6
  obtain ⟨qb, g3⟩ := rS_cons.mp g3
  obtain ⟨qa, g3⟩ := rS_cons.mp g3
  exact lv_icmp_lt hx hb hd ht (fun h => kt ((i3_lt qa qb).mp h) g1 g2 g3 H locs lsA g4 g5 g6) (fun h => kf (Int.not_lt.mp fun h2 => h ((i3_lt qa qb).mpr h2)) g1 g2 g3 H locs lsA g4 g5 g6)
theorem g_if_ge (CX : Cx p s m args meth c cc own nL) : Q_if_ge vd rg cc own (Gm ad vd Wd cf sf rg p l e R s m args below meth c A Q nL) := by
  obtain ⟨hx, hb, hml, hown, hts, hnest, hlk⟩ := CX
  intro pc ls st μ a off tgt hd ht kt kf
  intro g1 g2 g3 H locs lsA g4 g5 g6
  obtain ⟨q1, g3⟩ := rS_cons.mp g3
  have i0 : inR 0 := inR_lit rfl
  exact lv_if_ge hx hb hd ht (fun h => kt ((i3_le i0 q1).mp h) g1 g2 g3 H locs lsA g4 g5 g6) (fun h => kf (Int.not_le.mp fun h2 => h ((i3_le i0 q1).mpr h2)) g1 g2 g3 H locs lsA g4 g5 g6)
theorem g_icmp_ge (CX : Cx p s m args meth c cc own nL) : Q_icmp_ge vd rg cc own (Gm ad vd Wd cf sf rg p l e R s m args below meth c A Q nL) := by
  obtain ⟨hx, hb, hml, hown, hts, hnest, hlk⟩ := CX
  intro pc ls st μ a b off tgt hd ht kt kf
  intro g1 g2 g3 H locs lsA g4 g5 g6
  obtain ⟨qb, g3⟩ := rS_cons.mp g3
  obtain ⟨qa, g3⟩ := rS_cons.mp g3
  exact lv_icmp_ge hx hb hd ht (fun h => kt ((i3_le qb qa).mp h) g1 g2 g3 H locs lsA g4 g5 g6) (fun h => kf (Int.not_le.mp fun h2 => h ((i3_le qb qa).mpr h2)) g1 g2 g3 H locs lsA g4 g5 g6)
theorem g_if_gt (CX : Cx p s m args meth c cc own nL) : Q_if_gt vd rg cc own (Gm ad vd Wd cf sf rg p l e R s m args below meth c A Q nL) := by
  obtain ⟨hx, hb, hml, hown, hts, hnest, hlk⟩ := CX
  intro pc ls st μ a off tgt hd ht kt kf
  intro g1 g2 g3 H locs lsA g4 g5 g6
  obtain ⟨q1, g3⟩ := rS_cons.mp g3
  have i0 : inR 0 := inR_lit rfl
  exact lv_if_gt hx hb hd ht (fun h => kt ((i3_lt i0 q1).mp h) g1 g2 g3 H locs lsA g4 g5 g6) (fun h => kf (Int.not_lt.mp fun h2 => h ((i3_lt i0 q1).mpr h2)) g1 g2 g3 H locs lsA g4 g5 g6)
theorem g_icmp_gt (CX : Cx p s m args meth c cc own nL) : Q_icmp_gt vd rg cc own (Gm ad vd Wd cf sf rg p l e R s m args below meth c A Q nL) := by
  obtain ⟨hx, hb, hml, hown, hts, hnest, hlk⟩ := CX
  intro pc ls st μ a b off tgt hd ht kt kf
  intro g1 g2 g3 H locs lsA g4 g5 g6
  obtain ⟨qb, g3⟩ := rS_cons.mp g3
  obtain ⟨qa, g3⟩ := rS_cons.mp g3
  exact lv_icmp_gt hx hb hd ht (fun h => kt ((i3_lt qb qa).mp h) g1 g2 g3 H locs lsA g4 g5 g6) (fun h => kf (Int.not_lt.mp fun h2 => h ((i3_lt qb qa).mpr h2)) g1 g2 g3 H locs lsA g4 g5 g6)
theorem g_if_le (CX : Cx p s m args meth c cc own nL) : Q_if_le vd rg cc own (Gm ad vd Wd cf sf rg p l e R s m args below meth c A Q nL) := by
  obtain ⟨hx, hb, hml, hown, hts, hnest, hlk⟩ := CX
  intro pc ls st μ a off tgt hd ht kt kf
  intro g1 g2 g3 H locs lsA g4 g5 g6
  obtain ⟨q1, g3⟩ := rS_cons.mp g3
  have i0 : inR 0 := inR_lit rfl
  exact lv_if_le hx hb hd ht (fun h => kt ((i3_le q1 i0).mp h) g1 g2 g3 H locs lsA g4 g5 g6) (fun h => kf (Int.not_le.mp fun h2 => h ((i3_le q1 i0).mpr h2)) g1 g2 g3 H locs lsA g4 g5 g6)
theorem g_icmp_le (CX : Cx p s m args meth c cc own nL) : Q_icmp_le vd rg cc own (Gm ad vd Wd cf sf rg p l e R s m args below meth c A Q nL) := by
  obtain ⟨hx, hb, hml, hown, hts, hnest, hlk⟩ := CX
  intro pc ls st μ a b off tgt hd ht kt kf
  intro g1 g2 g3 H locs lsA g4 g5 g6
  obtain ⟨qb, g3⟩ := rS_cons.mp g3
  obtain ⟨qa, g3⟩ := rS_cons.mp g3
  exact lv_icmp_le hx hb hd ht (fun h => kt ((i3_le qa qb).mp h) g1 g2 g3 H locs lsA g4 g5 g6) (fun h => kf (Int.not_le.mp fun h2 => h ((i3_le qa qb).mpr h2)) g1 g2 g3 H locs lsA g4 g5 g6)
theorem g_ifnullN (CX : Cx p s m args meth c cc own nL) : Q_ifnullN vd rg cc own (Gm ad vd Wd cf sf rg p l e R s m args below meth c A Q nL) := by
  obtain ⟨hx, hb, hml, hown, hts, hnest, hlk⟩ := CX
  intro pc ls st μ off tgt hd ht k
  intro g1 g2 g3 H locs lsA g4 g5 g6
  obtain ⟨q1, g3⟩ := rS_cons.mp g3
  exact lv_ifnullN hx hb hd ht (k g1 g2 g3 H locs lsA g4 g5 g6)
theorem g_ifnullR (CX : Cx p s m args meth c cc own nL) : Q_ifnullR vd rg cc own (Gm ad vd Wd cf sf rg p l e R s m args below meth c A Q nL) := by
  obtain ⟨hx, hb, hml, hown, hts, hnest, hlk⟩ := CX
  intro pc ls st μ off q hd k
  intro g1 g2 g3 H locs lsA g4 g5 g6
  obtain ⟨q1, g3⟩ := rS_cons.mp g3
  exact lv_ifnull hx hb hd (k g1 g2 g3 H locs lsA g4 g5 g6)
theorem g_ifnonnullN (CX : Cx p s m args meth c cc own nL) : Q_ifnonnullN vd rg cc own (Gm ad vd Wd cf sf rg p l e R s m args below meth c A Q nL) := by
  obtain ⟨hx, hb, hml, hown, hts, hnest, hlk⟩ := CX
  intro pc ls st μ off hd k
  intro g1 g2 g3 H locs lsA g4 g5 g6
  obtain ⟨q1, g3⟩ := rS_cons.mp g3
  exact lv_ifnonnullN hx hb hd (k g1 g2 g3 H locs lsA g4 g5 g6)
theorem g_ifnonnullR (CX : Cx p s m args meth c cc own nL) : Q_ifnonnullR vd rg cc own (Gm ad vd Wd cf sf rg p l e R s m args below meth c A Q nL) := by
  obtain ⟨hx, hb, hml, hown, hts, hnest, hlk⟩ := CX
  intro pc ls st μ off tgt q hd ht k
  intro g1 g2 g3 H locs lsA g4 g5 g6
  obtain ⟨q1, g3⟩ := rS_cons.mp g3
  exact lv_ifnonnull hx hb hd ht (k g1 g2 g3 H locs lsA g4 g5 g6)
theorem g_tableOut (CX : Cx p s m args meth c cc own nL) : Q_tableOut vd rg cc own (Gm ad vd Wd cf sf rg p l e R s m args below meth c A Q nL) := by
  obtain ⟨hx, hb, hml, hown, hts, hnest, hlk⟩ := CX
  intro pc ls st μ a dflt lo hi offs len tgt hd h ht k
  intro g1 g2 g3 H locs lsA g4 g5 g6
  obtain ⟨q1, g3⟩ := rS_cons.mp g3
  exact lv_tableOut hx hb hd (by rw [i3_toInt q1]; exact h) ht (k g1 g2 g3 H locs lsA g4 g5 g6)
theorem g_tableIn (CX : Cx p s m args meth c cc own nL) : Q_tableIn vd rg cc own (Gm ad vd Wd cf sf rg p l e R s m args below meth c A Q nL) := by
  obtain ⟨hx, hb, hml, hown, hts, hnest, hlk⟩ := CX
  intro pc ls st μ a dflt lo hi off offs len tgt hd h1 h2 ho ht k
  intro g1 g2 g3 H locs lsA g4 g5 g6
  obtain ⟨q1, g3⟩ := rS_cons.mp g3
  exact lv_tableIn hx hb hd (by rw [i3_toInt q1]; omega) (by rw [i3_toInt q1]; omega) (by rw [i3_toInt q1]; exact ho) ht (k g1 g2 g3 H locs lsA g4 g5 g6)
theorem g_forget (CX : Cx p s m args meth c cc own nL) : Q_forget vd rg cc own (Gm ad vd Wd cf sf rg p l e R s m args below meth c A Q nL) := by
  obtain ⟨hx, hb, hml, hown, hts, hnest, hlk⟩ := CX
  intro pc ls st μ ls2 hs k
  intro g1 g2 g3 H locs lsA g4 g5 g6
  exact k g1 (fun v hv => by
    obtain ⟨i, hi⟩ := List.getElem?_of_mem hv
    exact g2 v (List.mem_of_getElem? (hs.2 i v hi))) g3 H locs lsA g4 g5 (g6.sub hs)
theorem g_rng (CX : Cx p s m args meth c cc own nL) : Q_rng vd rg cc own (Gm ad vd Wd cf sf rg p l e R s m args below meth c A Q nL) := by
  obtain ⟨hx, hb, hml, hown, hts, hnest, hlk⟩ := CX
  intro pc ls st μ k
  intro g1 g2 g3 H locs lsA g4 g5 g6
  exact k g1 g2 g1 g2 g3 H locs lsA g4 g5 g6
theorem stpC_Gm (CX : Cx p s m args meth c cc own nL) : StpC vd rg cc own (Gm ad vd Wd cf sf rg p l e R s m args below meth c A Q nL) := ⟨g_iconst CX, g_bipush CX, g_sipush CX, g_ldc CX, g_ldcw CX, g_iload_n CX, g_iload CX, g_lload_n CX, g_aload_n CX, g_aload CX, g_aloadN_n CX, g_aloadN CX, g_istore_n CX, g_istore CX, g_astore_n CX, g_astore CX, g_astoreN_n CX, g_astoreN CX, g_iinc CX, g_iadd CX, g_isub CX, g_imul CX, g_iand CX, g_ior CX, g_ixor CX, g_ishl CX, g_ishr CX, g_iushr CX, g_idiv CX, g_irem CX, g_ineg CX, g_i2l CX, g_lconst CX, g_lsub CX, g_lcmp CX, g_dup CX, g_dup2 CX, g_pop CX, g_goto CX, g_null CX, g_if_eq CX, g_icmp_eq CX, g_if_ne CX, g_icmp_ne CX, g_if_lt CX, g_icmp_lt CX, g_if_ge CX, g_icmp_ge CX, g_if_gt CX, g_icmp_gt CX, g_if_le CX, g_icmp_le CX, g_ifnullN CX, g_ifnullR CX, g_ifnonnullN CX, g_ifnonnullR CX, g_tableOut CX, g_tableIn CX, g_forget CX, g_rng CX⟩
end GMR
