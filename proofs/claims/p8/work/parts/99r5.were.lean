-- B: a LANE, were one to come
/-- whether the k-th of H at times T would go -/
abbrev gD (q s nw : Int) (T : Int → Int) (H k : Int) : Prop := (q = 1 ∧ s < H - k) ∨ (q = 2 ∧ 0 < H - k ∧ T k ≤ wr (nw - s))
def drK (q s nw : Int) (T : Int → Int) (H : Int) : Nat → Int → Int
  | 0, k => k
  | n + 1, k => if gD q s nw T H k then drK q s nw T H n (k + 1) else k
theorem drK_spec {q s nw : Int} {T : Int → Int} {H : Int} : ∀ (n : Nat) (k : Int), H - k ≤ n → (q = 1 → 0 ≤ s) → k ≤ H → (k ≤ drK q s nw T H n k ∧ drK q s nw T H n k ≤ H) ∧ (∀ j : Int, k ≤ j → j < drK q s nw T H n k → gD q s nw T H j) ∧ ¬ gD q s nw T H (drK q s nw T H n k)
  | 0, k, h, hs, hk => by
    have e : drK q s nw T H 0 k = k := rfl
    rw [e]
    exact ⟨⟨Int.le_refl _, hk⟩, fun j a b => by omega, by unfold gD; omega⟩
  | n + 1, k, h, hs, hk => by
    by_cases g : gD q s nw T H k
    · have e : drK q s nw T H (n + 1) k = drK q s nw T H n (k + 1) := if_pos g
      have g0 : 0 < H - k := by unfold gD at g; omega
      obtain ⟨i1, i2, i3⟩ := drK_spec (q := q) (s := s) (nw := nw) (T := T) (H := H) n (k + 1) (by omega) hs (by omega)
      rw [e]
      refine ⟨by omega, fun j a c => ?_, i3⟩
      by_cases z : j = k
      · subst z; exact g
      · exact i2 j (by omega) c
    · have e : drK q s nw T H (n + 1) k = k := if_neg g
      rw [e]
      exact ⟨⟨Int.le_refl _, hk⟩, fun j a c => by omega, g⟩
theorem dp_row {V : Mm} {i : Int} {c : Nat} (h : c = 8 ∨ c = 9 ∨ c = 10) : dpM V i c i = remR (V c i) 0 (V 7 i 6) := by
  funext y
  unfold dpM
  rw [rgM_ne (by omega), dfM_ne (by omega), mu_ne (by omega)]
  exact congrFun (rem_row h) y
theorem drps_K {i q s nw H : Int} {T U : Int → Int} : ∀ (n : Nat) (k : Int) (W : Mm), W 7 i 3 = q → W 7 i 4 = s → W 7 i 10 = nw → W 7 i 6 = H - k → (∀ j : Int, 0 ≤ j → j < H - k → W 8 i j = T (k + j)) → (∀ j : Int, 0 ≤ j → j < H - k → W 9 i j = U (k + j)) → (q = 1 → 0 ≤ s) → drps i n W 7 i 6 = H - drK q s nw T H n k ∧ ∀ j : Int, 0 ≤ j → j < H - drK q s nw T H n k → drps i n W 9 i j = U (drK q s nw T H n k + j)
  | 0, k, W, h3, h4, h10, h6, h8, h9, hs => ⟨h6, h9⟩
  | n + 1, k, W, h3, h4, h10, h6, h8, h9, hs => by
    have hg : goV W i ↔ gD q s nw T H k := by
      unfold goV gD
      rw [h3, h4, h10, h6]
      by_cases z : 0 < H - k
      · rw [h8 0 (by omega) (by omega), Int.add_zero]
      · constructor <;> (intro x; omega)
    by_cases g : gD q s nw T H k
    · have e1 : drps i (n + 1) W = drps i n (dpM W i) := drps_yes (hg.mpr g)
      have e2 : drK q s nw T H (n + 1) k = drK q s nw T H n (k + 1) := if_pos g
      have g0 : 0 < H - k := by unfold gD at g; omega
      rw [e1, e2]
      refine drps_K n (k + 1) (dpM W i) ?_ ?_ ?_ ?_ (fun j a c => ?_) (fun j a c => ?_) hs
      · rw [dpM_ne (by omega)]; exact h3
      · rw [dpM_ne (by omega)]; exact h4
      · rw [dpM_ne (by omega)]; exact h10
      · rw [dpM_6, h6]; omega
      · rw [dp_row (Or.inl rfl)]
        unfold remR
        rw [if_pos (by omega), h8 (j + 1) (by omega) (by omega), show k + (j + 1) = k + 1 + j from by omega]
      · rw [dp_row (Or.inr (Or.inl rfl))]
        unfold remR
        rw [if_pos (by omega), h9 (j + 1) (by omega) (by omega), show k + (j + 1) = k + 1 + j from by omega]
    · have e1 : drps i (n + 1) W = W := if_neg (fun z => g (hg.mp z))
      have e2 : drK q s nw T H (n + 1) k = k := if_neg g
      rw [e1, e2]
      exact ⟨h6, h9⟩
theorem en_row {V : Mm} {i t v : Int} (y : Int) : enM V i t v 8 i y = insR (V 8 i) (hU V i t) (V 7 i 6) t y ∧ enM V i t v 9 i y = insR (V 9 i) (hU V i t) (V 7 i 6) v y := by
  unfold enM
  rw [rgM_ne (by omega), rgM_ne (by omega)]
  split
  · rw [adM_ne (by omega), adM_ne (by omega)]; exact ⟨congrFun ins_row8 y, congrFun ins_row9 y⟩
  · rw [lyM_ne (by omega), lyM_ne (by omega)]; exact ⟨congrFun ins_row8 y, congrFun ins_row9 y⟩
theorem en_10 {V : Mm} {i t v : Int} : enM V i t v 7 i 10 = max (V 7 i 10) t := by
  unfold enM
  rw [rgM_ne (by omega)]
  split
  · rw [adM_ne (by omega), insM_10]
  · rw [lyM_ne (by omega), insM_10]
theorem hc_cg {f g : Int → Int} {t : Int} : ∀ n : Nat, (∀ j : Int, 0 ≤ j → j < (n : Int) → f j = g j) → hc f t n = hc g t n
  | 0, _ => rfl
  | n + 1, h => by
    show (if f n ≤ t then (n : Int) + 1 else hc f t n) = (if g n ≤ t then (n : Int) + 1 else hc g t n)
    rw [h n (by omega) (by omega), hc_cg n (fun j a b => h j a (by omega))]
theorem insR_cg {f g : Int → Int} {a h x : Int} (ha : 0 ≤ a) (e : ∀ j : Int, 0 ≤ j → j < h → f j = g j) {y : Int} (y0 : 0 ≤ y) (y1 : y ≤ h) (hah : a ≤ h) : insR f a h x y = insR g a h x y := by
  unfold insR
  by_cases z : y = a
  · rw [if_pos z, if_pos z]
  · rw [if_neg z, if_neg z]
    by_cases z2 : a < y ∧ y ≤ h
    · rw [if_pos z2, if_pos z2, e _ (by omega) (by omega)]
    · rw [if_neg z2, if_neg z2, e _ (by omega) (by omega)]
abbrev weT (V : Mm) (l z : Int) : Int → Int := insR (V 8 l) (hU V l z) (V 7 l 6) z
abbrev weU (V : Mm) (l z v : Int) : Int → Int := insR (V 9 l) (hU V l z) (V 7 l 6) v
abbrev weG (V : Mm) (l z k : Int) : Prop := gD (V 7 l 3) (V 7 l 4) (max (V 7 l 10) z) (weT V l z) (V 7 l 6 + 1) k
def weK (V : Mm) (l z : Int) : Int := drK (V 7 l 3) (V 7 l 4) (max (V 7 l 10) z) (weT V l z) (V 7 l 6 + 1) (V 7 l 6 + 1).toNat 0
def weR (V : Mm) (l z v w : Int) : Int := if wrC V l z v w then cm (V 16 0) (V 15 0) (V 7 l 2) (fun j => weU V l z v (weK V l z + j)) (V 7 l 6 + 1 - weK V l z).toNat w else -2147483648
theorem weK_s {V : Mm} {l z : Int} (hG : GI V) (hl : 0 ≤ l ∧ l ≤ 3) : (0 ≤ weK V l z ∧ weK V l z ≤ V 7 l 6 + 1) ∧ (∀ j : Int, 0 ≤ j → j < weK V l z → weG V l z j) ∧ ¬ weG V l z (weK V l z) := by
  have h6 := hG.1.h7 (l := l) (by omega) (by omega)
  have hs := (hG.2.1.2.1 l (by omega) (by omega)).2.2
  exact drK_spec _ 0 (by omega) (fun _ => by omega) (by omega)
theorem weT_so {V : Mm} {l z : Int} (hG : GI V) (hl : 0 ≤ l ∧ l ≤ 3) : So (weT V l z) (V 7 l 6 + 1) := by
  have h6 := hG.1.h7 (l := l) (by omega) (by omega)
  have hb := hU_b (V := V) (i := l) (t := z) (by omega)
  have so := hG.2.1.1 l (by omega) (by omega)
  exact So_ins so hb (fun j a b => hU_lo so (by omega) a b) (fun j a b => hU_hi a b (by omega))
theorem weK_lt {V : Mm} {l z i : Int} (hG : GI V) (hl : 0 ≤ l ∧ l ≤ 3) (h0 : 0 ≤ i) (h1 : i ≤ V 7 l 6) (g : weG V l z i) : i < weK V l z := by
  have q := weK_s (z := z) hG hl
  by_cases c : i < weK V l z
  · exact c
  · exfalso
    refine q.2.2 ?_
    have s := (weT_so (z := z) hG hl).le2 q.1.1 (show weK V l z ≤ i by omega) (by omega)
    unfold weG gD at g ⊢
    omega
theorem weK_le {V : Mm} {l z i : Int} (hG : GI V) (hl : 0 ≤ l ∧ l ≤ 3) (h0 : 0 ≤ i) (g : ¬ weG V l z i) : weK V l z ≤ i := by
  have q := weK_s (z := z) hG hl
  by_cases c : weK V l z ≤ i
  · exact c
  · exact absurd (q.2.1 i h0 (by omega)) g
theorem weR_of {V : Mm} {l z v w r : Int} (hG : GI V) (h : wrY V l z v w r) : r = weR V l z v w := by
  unfold weR
  by_cases c : wrC V l z v w
  · rw [if_pos c]
    obtain ⟨U, ρ, W, n, hU_, hW, hr⟩ := h.2 c
    have hl : 0 ≤ l ∧ l ≤ 3 := c.1.1.1
    obtain ⟨c1, c2, c3, c4, c5⟩ := cp7 hU_ hW hl
    have h6 := hG.1.h7 (l := l) (by omega) (by omega)
    have hs := (hG.2.1.2.1 l (by omega) (by omega)).2.2
    have hb := hU_b (V := V) (i := l) (t := z) (by omega)
    have e6 : W 7 7 6 = V 7 l 6 := c1 6 (by omega)
    have eh : hU W 7 z = hU V l z := by
      unfold hU
      rw [e6]
      exact hc_cg _ (fun j a b => c2 8 j (by omega) a (by omega))
    have key := drps_K (i := 7) (q := V 7 l 3) (s := V 7 l 4) (nw := max (V 7 l 10) z) (H := V 7 l 6 + 1) (T := weT V l z) (U := weU V l z v) (V 7 l 6 + 1).toNat 0 (enM W 7 z v) (by rw [enM_nx (by unfold PS; omega)]; exact c1 3 (by omega)) (by rw [enM_nx (by unfold PS; omega)]; exact c1 4 (by omega)) (by rw [en_10, c1 10 (by omega)]) (by rw [enM_6, e6]; omega) (fun j a b => by
      rw [(en_row j).1, eh, e6, Int.zero_add]
      exact insR_cg hb.1 (fun y y0 y1 => c2 8 y (by omega) y0 y1) a (by omega) hb.2) (fun j a b => by
      rw [(en_row j).2, eh, e6, Int.zero_add]
      exact insR_cg hb.1 (fun y y0 y1 => c2 9 y (by omega) y0 y1) a (by omega) hb.2) (fun _ => by omega)
    have ep : plM W 7 z v = drps 7 (V 7 l 6 + 1).toNat (enM W 7 z v) := by
      unfold plM
      rw [e6]
    have e2 : plM W 7 z v 7 7 2 = V 7 l 2 := by rw [plM_nx (by unfold PS; omega)]; exact c1 2 (by omega)
    have e16 : plM W 7 z v 16 0 = V 16 0 := funext fun y => by rw [plM_nx (by unfold PS; omega)]; exact c4 16 0 y (by omega)
    have e15 : plM W 7 z v 15 0 = V 15 0 := funext fun y => by rw [plM_nx (by unfold PS; omega)]; exact c4 15 0 y (by omega)
    rw [hr]
    unfold ptV
    rw [e16, e15, e2, show plM W 7 z v 7 7 6 = V 7 l 6 + 1 - weK V l z from by rw [ep]; exact key.1, Int.sub_zero]
    refine cm_c (fun j a b => ?_)
    rw [Int.zero_add, ep]
    exact key.2 j a (by
      have q : (j : Int) < V 7 l 6 + 1 - weK V l z := by omega
      exact q)
  · rw [if_neg c]
    exact h.1 c
