-- B: opening, shutting, what is kept and gone back to; WATCHES and LINKS
def etA (V : Mm) (l n : Int) : Mm := fun c x y => if c = 12 ∧ (0 ≤ x ∧ x < n) ∧ y = 0 ∧ V 12 x 0 = l then -1 else V c x y
def etB (V : Mm) (l n : Int) : Mm := fun c x y => if c = 13 ∧ (0 ≤ x ∧ x < n) ∧ y = 0 ∧ (x = l ∨ V 13 x 0 = l) then -1 else V c x y
def etM (V : Mm) (l : Int) : Mm := etB (etA V l 8) l 4
theorem etA_0 {V : Mm} {l : Int} : etA V l 0 = V := by
  funext c x y
  exact if_neg (by omega)
theorem etB_0 {V : Mm} {l : Int} : etB V l 0 = V := by
  funext c x y
  exact if_neg (by omega)
theorem etA_up {V : Mm} {l n x y : Int} (h : n ≤ x) : etA V l n 12 x y = V 12 x y := if_neg (by omega)
theorem etB_up {V : Mm} {l n x y : Int} (h : n ≤ x) : etB V l n 13 x y = V 13 x y := if_neg (by omega)
theorem etA_no {V : Mm} {l n : Int} (h : V 12 n 0 ≠ l) : etA V l (n + 1) = etA V l n := by
  funext c x y
  unfold etA
  by_cases hx : n = x
  · subst hx
    rw [if_neg (fun q => h q.2.2.2), if_neg (fun q => h q.2.2.2)]
  · by_cases hq : c = 12 ∧ (0 ≤ x ∧ x < n) ∧ y = 0 ∧ V 12 x 0 = l
    · rw [if_pos hq, if_pos ⟨hq.1, ⟨hq.2.1.1, by omega⟩, hq.2.2⟩]
    · rw [if_neg hq, if_neg (fun q => hq ⟨q.1, ⟨q.2.1.1, by omega⟩, q.2.2⟩)]
theorem etA_yes {V : Mm} {l n : Int} (h0 : 0 ≤ n) (h : V 12 n 0 = l) : mu (etA V l n) 12 n 0 (-1) = etA V l (n + 1) := by
  funext c x y
  by_cases hx : c = 12 ∧ x = n ∧ y = 0
  · obtain ⟨rfl, rfl, rfl⟩ := hx
    rw [mu_self]
    exact (if_pos ⟨rfl, ⟨h0, by omega⟩, rfl, h⟩).symm
  · rw [mu_ne hx]
    unfold etA
    by_cases hq : c = 12 ∧ (0 ≤ x ∧ x < n) ∧ y = 0 ∧ V 12 x 0 = l
    · rw [if_pos hq, if_pos ⟨hq.1, ⟨hq.2.1.1, by omega⟩, hq.2.2⟩]
    · rw [if_neg hq, if_neg (fun q => hq ⟨q.1, ⟨q.2.1.1, by omega⟩, q.2.2⟩)]
theorem etB_no {V : Mm} {l n : Int} (h : ¬ (n = l ∨ V 13 n 0 = l)) : etB V l (n + 1) = etB V l n := by
  funext c x y
  unfold etB
  by_cases hx : n = x
  · subst hx
    rw [if_neg (fun q => h q.2.2.2), if_neg (fun q => h q.2.2.2)]
  · by_cases hq : c = 13 ∧ (0 ≤ x ∧ x < n) ∧ y = 0 ∧ (x = l ∨ V 13 x 0 = l)
    · rw [if_pos hq, if_pos ⟨hq.1, ⟨hq.2.1.1, by omega⟩, hq.2.2⟩]
    · rw [if_neg hq, if_neg (fun q => hq ⟨q.1, ⟨q.2.1.1, by omega⟩, q.2.2⟩)]
theorem etB_yes {V : Mm} {l n : Int} (h0 : 0 ≤ n) (h : n = l ∨ V 13 n 0 = l) : mu (etB V l n) 13 n 0 (-1) = etB V l (n + 1) := by
  funext c x y
  by_cases hx : c = 13 ∧ x = n ∧ y = 0
  · obtain ⟨rfl, rfl, rfl⟩ := hx
    rw [mu_self]
    exact (if_pos ⟨rfl, ⟨h0, by omega⟩, rfl, h⟩).symm
  · rw [mu_ne hx]
    unfold etB
    by_cases hq : c = 13 ∧ (0 ≤ x ∧ x < n) ∧ y = 0 ∧ (x = l ∨ V 13 x 0 = l)
    · rw [if_pos hq, if_pos ⟨hq.1, ⟨hq.2.1.1, by omega⟩, hq.2.2⟩]
    · rw [if_neg hq, if_neg (fun q => hq ⟨q.1, ⟨q.2.1.1, by omega⟩, q.2.2⟩)]
theorem etM_ne {V : Mm} {l x y : Int} {c : Nat} (h : ¬ ((c = 12 ∨ c = 13) ∧ y = 0)) : etM V l c x y = V c x y := by
  unfold etM
  exact (if_neg (by omega) : etB (etA V l 8) l 4 c x y = _).trans (if_neg (by omega))
def bgR (o b z y : Int) (f : Int → Int) : Int → Int := fun t => if t = 1 then 1 else if t = 2 then o else if t = 3 then b else if t = 4 then z else if t = 5 then y else if t = 10 then -1 else if t = 6 ∨ (12 ≤ t ∧ t ≤ 15) then 0 else f t
def bgM (V : Mm) (l o b z y : Int) : Mm := fun c x t => if x = l then (if c = 7 then bgR o b z y (V 7 l) t else if c = 11 then zrR (V 11 l) t else V c x t) else V c x t
abbrev cpS (y : Int) : Prop := (0 ≤ y ∧ y ≤ 6) ∨ y = 10 ∨ (12 ≤ y ∧ y ≤ 15)
/-- LANE or BOX b becomes as a is -/
def cpM (V : Mm) (a b : Int) : Mm := fun c x y => if x = b then (if c = 7 then (if cpS y then V 7 a y else V 7 b y) else if c = 8 ∨ c = 9 ∨ c = 10 then (if 0 ≤ y ∧ y < V 7 a 6 then V c a y else V c b y) else if c = 11 then (if 0 ≤ y ∧ y ≤ 6 then V 11 a y else V 11 b y) else V c x y) else V c x y
def cntO (V : Mm) : Int := V 7 0 1 + V 7 1 1 + V 7 2 1 + V 7 3 1
abbrev ocC (V : Mm) (l o b z y : Int) : Prop := (0 ≤ l ∧ l ≤ 3) ∧ (0 ≤ o ∧ o ≤ 9) ∧ (0 ≤ y ∧ y ≤ 10000) ∧ (b = 0 ∨ (b = 1 ∧ 1 ≤ z ∧ z ≤ 120) ∨ (b = 2 ∧ 1 ≤ z ∧ z ≤ 10000)) ∧ (o = 9 → trpF 15 V 3 = 64)
def onM (V : Mm) (l o b z y : Int) : Mm := if ocC V l o b z y then etM (bgM V l o b (if b = 0 then 0 else z) y) l else V
def onR (V : Mm) (l o b z y : Int) : Int := if ocC V l o b z y then cntO (onM V l o b z y) else -1
def shM (V : Mm) (l : Int) : Mm := if opV V l then etM (mu V 7 l 1 0) l else V
def shR (V : Mm) (l : Int) : Int := if opV V l then 1 else 0
abbrev lkC (V : Mm) (l o z w : Int) : Prop := (opV V l ∧ 0 ≤ w ∧ w < numF (V 7 l 2)) ∧ opV V o ∧ l ≠ o ∧ (0 ≤ z ∧ z ≤ 100000) ∧ V 13 o 0 = -1 ∧ ∀ j : Int, 0 ≤ j → j < 4 → V 13 j 0 ≠ l
def lkM (V : Mm) (l o z w : Int) : Mm := mu (mu (mu (mu V 13 l 0 o) 13 l 1 z) 13 l 2 w) 13 l 3 0
abbrev ulC (V : Mm) (l : Int) : Prop := (0 ≤ l ∧ l ≤ 3) ∧ V 13 l 0 ≠ -1
def ulM (V : Mm) (l : Int) : Mm := if ulC V l then mu V 13 l 0 (-1) else V
def ulR (V : Mm) (l : Int) : Int := if ulC V l then 1 else 0
abbrev kpC (V : Mm) (l x : Int) : Prop := opV V l ∧ 0 ≤ x ∧ x ≤ 2
def kpM (V : Mm) (l x : Int) : Mm := if kpC V l x then cpM V l (x + 4) else V
def kpR (V : Mm) (l x : Int) : Int := if kpC V l x then V 7 l 6 else -1
abbrev bkC (V : Mm) (x : Int) : Prop := (0 ≤ x ∧ x ≤ 2) ∧ V 7 (x + 4) 1 = 1
def bkM (V : Mm) (x : Int) : Mm := if bkC V x then etM (cpM V (x + 4) (V 7 (x + 4) 0)) (V 7 (x + 4) 0) else V
def bkR (V : Mm) (x : Int) : Int := if bkC V x then V 7 (x + 4) 6 else -1
abbrev usV (V : Mm) (o : Int) : Prop := ∃ j : Int, (0 ≤ j ∧ j < 7) ∧ V 7 j 1 = 1 ∧ V 7 j 2 = o
