-- B: what is asked of a LANE
def evR (V : Mm) (l x w : Int) : Int := if evC V l x then (if w = 0 then V 8 l x else if w = 1 then V 9 l x else if w = 2 then V 10 l x else -2147483648) else -2147483648
def ptV (V : Mm) (l f z w : Int) : Int := cm (V 16 0) (V 15 0) (V 7 l 2) (fun j => V 9 l (f + j)) (z - f).toNat w
def ttR (V : Mm) (l w : Int) : Int := if lwC V l w then ptV V l 0 (V 7 l 6) w else -2147483648
def laR (V : Mm) (l h w : Int) : Int := if 0 ≤ h ∧ h ≤ 2 then ttR V l w else -2147483648
def ptR (V : Mm) (l f z w : Int) : Int := if lwC V l w ∧ 0 ≤ f ∧ f ≤ z ∧ z < V 7 l 6 then ptV V l f (z + 1) w else -2147483648
def duR (V : Mm) (l f z w : Int) : Int := if lwC V l w then ptV V l (hU V l (f - 1)) (hU V l z) w else -2147483648
def mnR (V : Mm) (l f z : Int) : Int := if opV V l then max 0 (hU V l z - hU V l (f - 1)) else -1
def stR (V : Mm) (l w : Int) : Int := if opV V l then (if w = 0 then V 11 l 0 else if w = 1 then V 11 l 1 else if w = 2 then V 11 l 2 else if w = 3 then V 11 l 3 else if w = 4 then V 11 l 4 else if w = 5 then V 11 l 5 else if w = 6 then V 11 l 6 else -1) else -1
def soR (V : Mm) (l w : Int) : Int := if opV V l then (if w = 0 then (if 0 < V 11 l 3 then -1 else V 11 l 0 + 1 - V 11 l 2) else if w = 1 then (if 0 < V 11 l 3 then (V 11 l 3 + 2) / 3 else -1) else -1) else -1
def lkR (V : Mm) (l w : Int) : Int := if ulC V l then (if w = 0 then V 13 l 0 else if w = 1 then V 13 l 1 else if w = 2 then V 13 l 2 else if w = 3 then V 13 l 3 else -1) else -1
abbrev wtd (V : Mm) (v : Int) : Prop := (0 ≤ v ∧ v ≤ 7) ∧ V 12 v 0 ≠ -1
def riR (V : Mm) (v : Int) : Int := if wtd V v then V 12 v 4 else -1
def raR (V : Mm) (v : Int) : Int := if wtd V v then V 12 v 5 else -1
