-- B: what always holds at rest of the class's places, and what keeps it
def CI (V : Mm) : Prop := (∀ l : Int, 0 ≤ l → l ≤ 3 → V 7 l 0 = l) ∧ (∀ l : Int, 0 ≤ l → l ≤ 6 → FI (V 11 l) (V 7 l 6)) ∧ (∀ l : Int, 0 ≤ l → l ≤ 6 → Rst (V 7 l 3) (V 7 l 4) (V 7 l 6)) ∧ (∀ l : Int, 0 ≤ l → l ≤ 3 → V 13 l 0 ≠ l)
theorem CI.h7 {V : Mm} (h : CI V) {l : Int} (h0 : 0 ≤ l) (h1 : l ≤ 6) : 0 ≤ V 7 l 6 ∧ V 7 l 6 ≤ 120 := by
  have := h.2.2.1 l h0 h1
  unfold Rst at this
  omega
/-- the places that a call on LANE i may change -/
abbrev PS (i : Int) (c : Nat) (x y : Int) : Prop := (c = 12 ∧ 3 ≤ y ∧ y ≤ 5) ∨ (x = i ∧ (c = 8 ∨ c = 9 ∨ c = 10 ∨ c = 11 ∨ (c = 7 ∧ (y = 6 ∨ y = 10 ∨ y = 12 ∨ y = 13 ∨ y = 14))))
theorem enM_nx {V : Mm} {i t v x y : Int} {c : Nat} (h : ¬ PS i c x y) : enM V i t v c x y = V c x y := by
  unfold PS at h
  unfold enM
  rw [rgM_ne (by omega)]
  split
  · rw [adM_ne (by omega), insM_ne (by omega)]
  · rw [lyM_ne (by omega), insM_ne (by omega)]
theorem drps_nx {i x y : Int} {c : Nat} (h : ¬ PS i c x y) : ∀ (n : Nat) (V : Mm), drps i n V c x y = V c x y
  | 0, _ => rfl
  | n + 1, V => by
    show (if goV V i then drps i n (dpM V i) else V) c x y = V c x y
    split
    · rw [drps_nx h n, dpM_ne (by unfold PS at h; omega)]
    · rfl
theorem dpN_nx {i x y : Int} {c : Nat} (h : ¬ PS i c x y) : ∀ (n : Nat) (V : Mm), dpN i n V c x y = V c x y
  | 0, _ => rfl
  | n + 1, V => by
    show dpN i n (dpM V i) c x y = V c x y
    rw [dpN_nx h n, dpM_ne (by unfold PS at h; omega)]
theorem plM_nx {V : Mm} {i t v x y : Int} {c : Nat} (h : ¬ PS i c x y) : plM V i t v c x y = V c x y := by
  unfold plM
  rw [drps_nx h, enM_nx h]
theorem gvM_nx {V : Mm} {i t x y : Int} {c : Nat} (h : ¬ PS (V 13 i 0) c x y) (h13 : ¬ (c = 13 ∧ x = i ∧ y = 3)) : gvM V i t c x y = V c x y := by
  unfold gvM
  split
  · rw [plM_nx h, mu_ne h13]
  · rfl
theorem enM_6 {V : Mm} {i t v : Int} : enM V i t v 7 i 6 = V 7 i 6 + 1 := by
  unfold enM
  rw [rgM_ne (by omega)]
  split
  · rw [adM_ne (by omega), insM_6]
  · rw [lyM_ne (by omega), insM_6]
theorem drps_6 {i : Int} : ∀ (n : Nat) (V : Mm), 0 ≤ V 7 i 6 → (V 7 i 3 = 1 → 0 ≤ V 7 i 4) → 0 ≤ drps i n V 7 i 6 ∧ drps i n V 7 i 6 ≤ V 7 i 6
  | 0, _, h, _ => ⟨h, Int.le_refl _⟩
  | n + 1, V, h, hz => by
    show 0 ≤ (if goV V i then drps i n (dpM V i) else V) 7 i 6 ∧ (if goV V i then drps i n (dpM V i) else V) 7 i 6 ≤ V 7 i 6
    split
    · rename_i hg
      have h1 : 1 ≤ V 7 i 6 := by rcases hg with q | q <;> omega
      have ih := drps_6 n (dpM V i) (by rw [dpM_6]; omega) (by rw [dpM_ne (by omega), dpM_ne (by omega)]; exact hz)
      rw [dpM_6] at ih
      omega
    · omega
theorem drps_end {i : Int} : ∀ (n : Nat) (V : Mm), V 7 i 6 ≤ n → (V 7 i 3 = 1 → 0 ≤ V 7 i 4) → ¬ goV (drps i n V) i
  | 0, V, h, hz => by
    show ¬ goV V i
    unfold goV
    omega
  | n + 1, V, h, hz => by
    show ¬ goV (if goV V i then drps i n (dpM V i) else V) i
    split
    · exact drps_end n (dpM V i) (by rw [dpM_6]; omega) (by rw [dpM_ne (by omega), dpM_ne (by omega)]; exact hz)
    · assumption
theorem CI.to {V W : Mm} (h : CI V) (e : ∀ (c : Nat) (x y : Int), c = 11 ∨ (c = 7 ∧ (y = 0 ∨ y = 3 ∨ y = 4 ∨ y = 6)) ∨ (c = 13 ∧ y = 0) → W c x y = V c x y) : CI W := by
  refine ⟨fun l h0 h1 => ?_, fun l h0 h1 => ?_, fun l h0 h1 => ?_, fun l h0 h1 => ?_⟩
  · rw [e 7 l 0 (by omega)]; exact h.1 l h0 h1
  · rw [e 7 l 6 (by omega), show W 11 l = V 11 l from funext fun y => e 11 l y (by omega)]; exact h.2.1 l h0 h1
  · rw [e 7 l 3 (by omega), e 7 l 4 (by omega), e 7 l 6 (by omega)]; exact h.2.2.1 l h0 h1
  · rw [e 13 l 0 (by omega)]; exact h.2.2.2 l h0 h1
theorem CI.li {V : Mm} (h : CI V) {i : Int} (h0 : 0 ≤ i) (h1 : i ≤ 3) : LI V i := ⟨h.1 i h0 h1, h.2.1 i h0 (by omega), (h.h7 h0 (by omega)).1⟩
theorem CI.size {V : Mm} (h : CI V) {i : Int} (h0 : 0 ≤ i) (h1 : i ≤ 6) : V 7 i 3 = 1 → 1 ≤ V 7 i 4 ∧ V 7 i 4 ≤ 120 ∧ V 7 i 6 ≤ V 7 i 4 := fun q => by
  have := h.2.2.1 i h0 h1
  unfold Rst at this
  omega
theorem CI.pl {V : Mm} (h : CI V) {i t v : Int} (h0 : 0 ≤ i) (h1 : i ≤ 3) (hf : ¬ fuV V i) : CI (plM V i t v) := by
  have hz := h.size h0 (show i ≤ 6 by omega)
  have hL : LI (plM V i t v) i := (h.li h0 h1).pl (by omega)
  have e3 : enM V i t v 7 i 3 = V 7 i 3 := enM_nx (by unfold PS; omega)
  have e4 : enM V i t v 7 i 4 = V 7 i 4 := enM_nx (by unfold PS; omega)
  have h6 := h.h7 h0 (show i ≤ 6 by omega)
  have d6 := drps_6 (i := i) (V 7 i 6 + 1).toNat (enM V i t v) (by rw [enM_6]; omega) (by rw [e3, e4]; omega)
  have dE := drps_end (i := i) (V 7 i 6 + 1).toNat (enM V i t v) (by rw [enM_6]; omega) (by rw [e3, e4]; omega)
  have f3 : drps i (V 7 i 6 + 1).toNat (enM V i t v) 7 i 3 = V 7 i 3 := (drps_nx (by unfold PS; omega) _ _).trans e3
  have f4 : drps i (V 7 i 6 + 1).toNat (enM V i t v) 7 i 4 = V 7 i 4 := (drps_nx (by unfold PS; omega) _ _).trans e4
  rw [enM_6] at d6
  refine ⟨fun l a b => ?_, fun l a b => ?_, fun l a b => ?_, fun l a b => ?_⟩
  · rw [plM_nx (by unfold PS; omega)]; exact h.1 l a b
  · by_cases hl : l = i
    · subst hl; exact hL.2.1
    · rw [plM_nx (by unfold PS; omega), show plM V i t v 11 l = V 11 l from funext fun y => plM_nx (by unfold PS; omega)]; exact h.2.1 l a b
  · by_cases hl : l = i
    · subst hl
      unfold plM
      rw [f3, f4]
      unfold goV at dE
      rw [f3, f4] at dE
      unfold Rst
      unfold fuV at hf
      omega
    · rw [plM_nx (by unfold PS; omega), plM_nx (by unfold PS; omega), plM_nx (by unfold PS; omega)]; exact h.2.2.1 l a b
  · rw [plM_nx (by unfold PS; omega)]; exact h.2.2.2 l a b
theorem CI.gv {V : Mm} (h : CI V) {i t : Int} : CI (gvM V i t) := by
  unfold gvM
  split
  · rename_i q
    have hW : CI (mu V 13 i 3 (wr (V 13 i 3 + 1))) := h.to fun c x y e => mu_ne (by omega)
    refine hW.pl q.1.1 q.1.2.1 (fun z => q.2.2.2.1 ?_)
    unfold fuV at z ⊢
    rw [mu_ne (by omega), mu_ne (by omega)] at z
    exact z
  · exact h
theorem CI.dp {V : Mm} (h : CI V) {i : Int} (h0 : 0 ≤ i) (h1 : i ≤ 3) (h6 : 1 ≤ V 7 i 6) : CI (dpM V i) := by
  have hL := (h.li h0 h1).dp h6
  refine ⟨fun l a b => ?_, fun l a b => ?_, fun l a b => ?_, fun l a b => ?_⟩
  · rw [dpM_ne (by omega)]; exact h.1 l a b
  · by_cases hl : l = i
    · subst hl; exact hL.2.1
    · rw [dpM_ne (by omega), show dpM V i 11 l = V 11 l from funext fun y => dpM_ne (by omega)]; exact h.2.1 l a b
  · by_cases hl : l = i
    · subst hl
      rw [dpM_6, dpM_ne (by omega), dpM_ne (by omega)]
      have := h.2.2.1 l a b
      unfold Rst at this ⊢
      omega
    · rw [dpM_ne (by omega), dpM_ne (by omega), dpM_ne (by omega)]; exact h.2.2.1 l a b
  · rw [dpM_ne (by omega)]; exact h.2.2.2 l a b
theorem CI.nt {V : Mm} (h : CI V) : CI (ntM V) := h.to fun c x y e => if_neg (by omega)
theorem CI.rg {V : Mm} (h : CI V) {i : Int} : CI (rgM V i) := h.to fun c x y e => rgM_ne (by omega)
theorem CI.lay {V : Mm} (h : CI V) {i : Int} (h0 : 0 ≤ i) (h1 : i ≤ 3) : CI (lyM V i (V 7 i 6)) := by
  have h6 := h.h7 h0 (show i ≤ 6 by omega)
  refine ⟨fun l a b => ?_, fun l a b => ?_, fun l a b => ?_, fun l a b => ?_⟩
  · rw [lyM_ne (by omega)]; exact h.1 l a b
  · rw [lyM_ne (by omega)]
    by_cases hl : l = i
    · subst hl
      rw [show lyM V l (V 7 l 6) 11 l = lyR (V 7 l 6) (V 11 l) from funext fun y => su_at]
      exact FI_ly h6.1
    · rw [show lyM V i (V 7 i 6) 11 l = V 11 l from funext fun y => lyM_ne (by omega)]; exact h.2.1 l a b
  · rw [lyM_ne (by omega), lyM_ne (by omega), lyM_ne (by omega)]; exact h.2.2.1 l a b
  · rw [lyM_ne (by omega)]; exact h.2.2.2 l a b
-- the calls
abbrev opV (V : Mm) (l : Int) : Prop := (0 ≤ l ∧ l ≤ 3) ∧ V 7 l 1 = 1
abbrev coC (V : Mm) (l t v : Int) : Prop := opV V l ∧ (0 ≤ t ∧ t ≤ 100000) ∧ -1000 ≤ v ∧ v ≤ 1000
def coM (V : Mm) (l t v : Int) : Mm := if coC V l t v ∧ ¬ ltV V l t ∧ ¬ fuV V l then ntM (plM (gvM V l t) l t v) else V
def coR (V : Mm) (l t v : Int) : Int := if ¬ coC V l t v then -1 else if ltV V l t then -2 else if fuV V l then -1 else coM V l t v 7 l 6
def bst (l s : Int) : Nat → Int → Mm → Mm
  | 0, _, V => V
  | n + 1, v, V => bst l s n (v + s) (plM (gvM V l (wr (V 7 l 10 + 1))) l (wr (V 7 l 10 + 1)) v)
abbrev buC (V : Mm) (l m v s : Int) : Prop := opV V l ∧ (1 ≤ m ∧ m ≤ 40) ∧ (-1000 ≤ s ∧ s ≤ 1000) ∧ (-1000 ≤ v ∧ v ≤ 1000) ∧ (-1000 ≤ v + (m - 1) * s ∧ v + (m - 1) * s ≤ 1000) ∧ (0 ≤ wr (V 7 l 10 + m) ∧ wr (V 7 l 10 + m) ≤ 100000) ∧ ¬ (V 7 l 3 ≠ 1 ∧ 120 < V 7 l 6 + m)
def buM (V : Mm) (l m v s : Int) : Mm := if buC V l m v s then ntM (bst l s m.toNat v V) else V
def buR (V : Mm) (l m v s : Int) : Int := if buC V l m v s then buM V l m v s 7 l 6 else -1
abbrev leC (V : Mm) (l m : Int) : Prop := opV V l ∧ 0 ≤ m ∧ m ≤ V 7 l 6
def leM (V : Mm) (l m : Int) : Mm := if leC V l m then dpN l m.toNat V else V
def leR (V : Mm) (l m : Int) : Int := if leC V l m then leM V l m 7 l 6 else -1
def unM (V : Mm) (l t : Int) : Mm := if opV V l then dpN l (hU V l t).toNat V else V
def unR (V : Mm) (l t : Int) : Int := if opV V l then hU V l t else -1
abbrev evC (V : Mm) (l x : Int) : Prop := opV V l ∧ 0 ≤ x ∧ x < V 7 l 6
def taM (V : Mm) (l x : Int) : Mm := if evC V l x then rgM (lyM (remM V l x) l (V 7 l 6 - 1)) l else V
def taR (V : Mm) (l x : Int) : Int := if evC V l x then V 9 l x else -2147483648
abbrev alC (V : Mm) (l x v : Int) : Prop := evC V l x ∧ -1000 ≤ v ∧ v ≤ 1000
def alM (V : Mm) (l x v : Int) : Mm := if alC V l x v then rgM (lyM (mu V 9 l x v) l (V 7 l 6)) l else V
def alR (V : Mm) (l x v : Int) : Int := if alC V l x v then 1 else 0
theorem bst_s {l s v : Int} {n : Nat} {V : Mm} : bst l s (n + 1) v V = bst l s n (v + s) (plM (gvM V l (wr (V 7 l 10 + 1))) l (wr (V 7 l 10 + 1)) v) := rfl
theorem lin_btw {v m s i : Int} (h0 : 0 ≤ i) (h1 : i ≤ m) (ha : -1000 ≤ v ∧ v ≤ 1000) (hb : -1000 ≤ v + m * s ∧ v + m * s ≤ 1000) : -1000 ≤ v + i * s ∧ v + i * s ≤ 1000 := by
  rcases Int.le_total 0 s with hs | hs
  · have q0 := Int.mul_nonneg h0 hs
    have q1 := Int.mul_le_mul_of_nonneg_right h1 hs
    omega
  · have q0 := Int.mul_nonneg h0 (show 0 ≤ -s by omega)
    have q1 := Int.mul_le_mul_of_nonneg_right h1 (show 0 ≤ -s by omega)
    rw [Int.mul_neg] at q0 q1
    rw [Int.mul_neg] at q1
    omega
theorem gv_7 {V : Mm} (h : CI V) {l t : Int} (h0 : 0 ≤ l) (h1 : l ≤ 3) {y : Int} : gvM V l t 7 l y = V 7 l y := gvM_nx (by have := h.2.2.2 l h0 h1; unfold PS; omega) (by omega)
theorem pl_6 {V : Mm} (h : CI V) {i t v : Int} (h0 : 0 ≤ i) (h1 : i ≤ 3) : plM V i t v 7 i 6 ≤ V 7 i 6 + 1 := by
  have hz := h.size h0 (show i ≤ 6 by omega)
  have e3 : enM V i t v 7 i 3 = V 7 i 3 := enM_nx (by unfold PS; omega)
  have e4 : enM V i t v 7 i 4 = V 7 i 4 := enM_nx (by unfold PS; omega)
  have h6 := h.h7 h0 (show i ≤ 6 by omega)
  have d6 := drps_6 (i := i) (V 7 i 6 + 1).toNat (enM V i t v) (by rw [enM_6]; omega) (by rw [e3, e4]; omega)
  rw [enM_6] at d6
  unfold plM
  omega
