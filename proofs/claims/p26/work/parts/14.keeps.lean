-- B: what always holds at rest, and what keeps it
theorem hc_spec (f : Int → Int) (t : Int) : ∀ n : Nat, (∀ j : Int, hc f t n ≤ j → j < (n : Int) → t < f j) ∧ (hc f t n = 0 ∨ f (hc f t n - 1) ≤ t)
  | 0 => ⟨fun j a b => by have : (0 : Int) ≤ j := a; omega, Or.inl rfl⟩
  | n + 1 => by
    obtain ⟨i1, i2⟩ := hc_spec f t n
    have e : hc f t (n + 1) = (if f n ≤ t then (n : Int) + 1 else hc f t n) := rfl
    rw [e]
    by_cases h : f n ≤ t
    · rw [if_pos h]
      refine ⟨fun j a b => by omega, Or.inr ?_⟩
      rw [show (n : Int) + 1 - 1 = (n : Int) from by omega]
      exact h
    · rw [if_neg h]
      refine ⟨fun j a b => ?_, i2⟩
      by_cases ej : j = (n : Int)
      · subst ej; omega
      · exact i1 j a (by omega)
theorem hU_hi {V : Mm} {i t j : Int} (h : hU V i t ≤ j) (h1 : j < V 7 i 6) (h0 : 0 ≤ V 7 i 6) : t < V 8 i j := (hc_spec (V 8 i) t (V 7 i 6).toNat).1 j h (by omega)
theorem hU_lo {V : Mm} {i t j : Int} (s : So (V 8 i) (V 7 i 6)) (h0 : 0 ≤ V 7 i 6) (hj : 0 ≤ j) (h : j < hU V i t) : V 8 i j ≤ t := by
  have hb := hU_b (V := V) (i := i) (t := t) h0
  rcases (hc_spec (V 8 i) t (V 7 i 6).toNat).2 with q | q
  · have : hU V i t = 0 := q
    omega
  · have q2 : V 8 i (hU V i t - 1) ≤ t := q
    have := s.le2 hj (show j ≤ hU V i t - 1 by omega) (by omega)
    omega
theorem So_ins {f : Int → Int} {h a t : Int} (s : So f h) (ha : 0 ≤ a ∧ a ≤ h) (h1 : ∀ j : Int, 0 ≤ j → j < a → f j ≤ t) (h2 : ∀ j : Int, a ≤ j → j < h → t < f j) : So (insR f a h t) (h + 1) := fun j j0 j1 => by
  unfold insR
  by_cases e1 : j + 1 < a
  · rw [if_neg (by omega), if_neg (by omega), if_neg (by omega), if_neg (by omega)]
    exact s j j0 (by omega)
  by_cases e2 : j + 1 = a
  · rw [if_neg (by omega), if_neg (by omega), if_pos e2]
    exact h1 j j0 (by omega)
  by_cases e3 : j = a
  · rw [if_pos e3, if_neg (by omega), if_pos (by omega), show j + 1 - 1 = j from by omega]
    have := h2 j (by omega) (by omega)
    omega
  · rw [if_neg e3, if_pos (by omega), if_neg (by omega), if_pos (by omega), show j + 1 - 1 = j - 1 + 1 from by omega]
    exact s (j - 1) (by omega) (by omega)
theorem So_rem {f : Int → Int} {h e : Int} (s : So f h) (he : 0 ≤ e) : So (remR f e h) (h - 1) := fun j j0 j1 => by
  unfold remR
  by_cases e1 : j + 1 < e
  · rw [if_neg (by omega), if_neg (by omega)]
    exact s j j0 (by omega)
  by_cases e2 : j + 1 = e
  · rw [if_neg (by omega), if_pos (by omega)]
    have a := s j j0 (by omega)
    have b := s (j + 1) (by omega) (by omega)
    omega
  · rw [if_pos (by omega), if_pos (by omega)]
    exact s (j + 1) (by omega) (by omega)
def GJ (V : Mm) : Prop :=
  (∀ l : Int, 0 ≤ l → l ≤ 6 → So (V 8 l) (V 7 l 6)) ∧
  (∀ l : Int, 0 ≤ l → l ≤ 6 → (-1 ≤ V 7 l 10 ∧ V 7 l 10 ≤ 100000) ∧ (0 ≤ V 7 l 5 ∧ V 7 l 5 ≤ 10000) ∧ 0 ≤ V 7 l 4 ∧ V 7 l 4 ≤ 10000) ∧
  (∀ l y : Int, 0 ≤ l → l ≤ 6 → 0 ≤ y → y ≤ 120 → (0 ≤ V 8 l y ∧ V 8 l y ≤ 100000) ∧ -1000 ≤ V 9 l y ∧ V 9 l y ≤ 1000) ∧
  (∀ l : Int, 0 ≤ l → l ≤ 6 → (V 7 l 1 = 0 ∨ V 7 l 1 = 1) ∧ 0 ≤ V 7 l 2 ∧ V 7 l 2 ≤ 9) ∧
  (∀ b : Int, 4 ≤ b → b ≤ 6 → V 7 b 1 = 1 → 0 ≤ V 7 b 0 ∧ V 7 b 0 ≤ 3) ∧
  (∀ i : Int, 0 ≤ i → i ≤ 3 → V 13 i 0 = -1 ∨ (opV V i ∧ opV V (V 13 i 0) ∧ V 13 i 0 ≠ i ∧ V 13 (V 13 i 0) 0 = -1 ∧ 0 ≤ V 13 i 2 ∧ V 13 i 2 < numF (V 7 i 2))) ∧
  (∀ w : Int, 0 ≤ w → w ≤ 7 → (V 12 w 0 = -1 ∨ (opV V (V 12 w 0) ∧ 0 ≤ V 12 w 1 ∧ V 12 w 1 < numF (V 7 (V 12 w 0) 2))) ∧ (V 12 w 3 = 0 ∨ V 12 w 3 = 1)) ∧
  (∀ j : Int, 0 ≤ j → j < 16 → 0 ≤ V 15 0 j ∧ V 15 0 j ≤ 3)
/-- the places that GJ speaks of, but for a LANE's rows, how many are held and the newest's time -/
abbrev GP (c : Nat) (y : Int) : Prop := (c = 7 ∧ (y = 0 ∨ y = 1 ∨ y = 2 ∨ y = 4 ∨ y = 5)) ∨ (c = 13 ∧ (y = 0 ∨ y = 2)) ∨ (c = 12 ∧ (y = 0 ∨ y = 1 ∨ y = 3)) ∨ c = 15
abbrev GR (c : Nat) (y : Int) : Prop := c = 8 ∨ c = 9 ∨ (c = 7 ∧ (y = 6 ∨ y = 10))
theorem GJ.lane {V W : Mm} (i : Int) (h : GJ V) (e : ∀ (c : Nat) (x y : Int), GP c y → W c x y = V c x y) (e2 : ∀ (c : Nat) (x y : Int), x ≠ i → GR c y → W c x y = V c x y) (hS : 0 ≤ i → i ≤ 6 → So (W 8 i) (W 7 i 6)) (hN : 0 ≤ i → i ≤ 6 → -1 ≤ W 7 i 10 ∧ W 7 i 10 ≤ 100000) (hR : ∀ y : Int, 0 ≤ i → i ≤ 6 → 0 ≤ y → y ≤ 120 → (0 ≤ W 8 i y ∧ W 8 i y ≤ 100000) ∧ -1000 ≤ W 9 i y ∧ W 9 i y ≤ 1000) : GJ W := by
  obtain ⟨q1, q2, q3, q4, q5, q6, q7, q8⟩ := h
  have e7 : ∀ x y : Int, (y = 0 ∨ y = 1 ∨ y = 2 ∨ y = 4 ∨ y = 5) → W 7 x y = V 7 x y := fun x y hy => e 7 x y (Or.inl ⟨rfl, hy⟩)
  have e13 : ∀ x y : Int, (y = 0 ∨ y = 2) → W 13 x y = V 13 x y := fun x y hy => e 13 x y (Or.inr (Or.inl ⟨rfl, hy⟩))
  have e12 : ∀ x y : Int, (y = 0 ∨ y = 1 ∨ y = 3) → W 12 x y = V 12 x y := fun x y hy => e 12 x y (Or.inr (Or.inr (Or.inl ⟨rfl, hy⟩)))
  refine ⟨fun l a b => ?_, fun l a b => ?_, fun l y a b c d => ?_, fun l a b => ?_, fun b a c d => ?_, fun l a b => ?_, fun w a b => ?_, fun j a b => ?_⟩
  · by_cases hl : l = i
    · subst hl; exact hS a b
    · rw [e2 7 l 6 hl (by omega), show W 8 l = V 8 l from funext fun y => e2 8 l y hl (by omega)]; exact q1 l a b
  · have q := q2 l a b
    rw [e7 l 5 (by omega), e7 l 4 (by omega)]
    refine ⟨?_, q.2⟩
    by_cases hl : l = i
    · subst hl; exact hN a b
    · rw [e2 7 l 10 hl (by omega)]; exact q.1
  · by_cases hl : l = i
    · subst hl; exact hR y a b c d
    · rw [e2 8 l y hl (by omega), e2 9 l y hl (by omega)]; exact q3 l y a b c d
  · rw [e7 l 1 (by omega), e7 l 2 (by omega)]; exact q4 l a b
  · rw [e7 b 1 (by omega)] at d
    rw [e7 b 0 (by omega)]; exact q5 b a c d
  · unfold opV
    rw [e13 l 0 (by omega), e13 l 2 (by omega), e13 _ 0 (by omega), e7 l 1 (by omega), e7 l 2 (by omega), e7 _ 1 (by omega)]; exact q6 l a b
  · unfold opV
    rw [e12 w 0 (by omega), e12 w 1 (by omega), e12 w 3 (by omega), e7 _ 1 (by omega), e7 _ 2 (by omega)]; exact q7 w a b
  · rw [e 15 0 j (Or.inr (Or.inr (Or.inr rfl)))]; exact q8 j a b
theorem GJ.to {V W : Mm} (h : GJ V) (e : ∀ (c : Nat) (x y : Int), GP c y ∨ GR c y → W c x y = V c x y) : GJ W := by
  refine h.lane (-1) (fun c x y q => e c x y (Or.inl q)) (fun c x y _ q => e c x y (Or.inr q)) (fun a => by omega) (fun a => by omega) (fun y a => by omega)
theorem GJ.rg {V : Mm} (h : GJ V) {i : Int} : GJ (rgM V i) := by
  obtain ⟨q1, q2, q3, q4, q5, q6, q7, q8⟩ := h
  refine ⟨fun l a b => ?_, fun l a b => ?_, fun l y a b c d => ?_, fun l a b => ?_, fun b a c d => ?_, fun l a b => ?_, fun w a b => ?_, fun j a b => ?_⟩
  · rw [rgM_ne (by omega), show rgM V i 8 l = V 8 l from funext fun y => rgM_ne (by omega)]; exact q1 l a b
  · rw [rgM_ne (by omega), rgM_ne (by omega), rgM_ne (by omega)]; exact q2 l a b
  · rw [rgM_ne (by omega), rgM_ne (by omega)]; exact q3 l y a b c d
  · rw [rgM_ne (by omega), rgM_ne (by omega)]; exact q4 l a b
  · rw [rgM_ne (by omega)] at d
    rw [rgM_ne (by omega)]; exact q5 b a c d
  · unfold opV
    rw [show ∀ x : Int, rgM V i 13 x 0 = V 13 x 0 from fun x => rgM_ne (by omega), show ∀ x : Int, rgM V i 13 x 2 = V 13 x 2 from fun x => rgM_ne (by omega), show ∀ x : Int, rgM V i 7 x 1 = V 7 x 1 from fun x => rgM_ne (by omega), show ∀ x : Int, rgM V i 7 x 2 = V 7 x 2 from fun x => rgM_ne (by omega)]; exact q6 l a b
  · refine ⟨?_, ?_⟩
    · unfold opV
      rw [show ∀ x : Int, rgM V i 12 x 0 = V 12 x 0 from fun x => rgM_ne (by omega), show ∀ x : Int, rgM V i 12 x 1 = V 12 x 1 from fun x => rgM_ne (by omega), show ∀ x : Int, rgM V i 7 x 1 = V 7 x 1 from fun x => rgM_ne (by omega), show ∀ x : Int, rgM V i 7 x 2 = V 7 x 2 from fun x => rgM_ne (by omega)]; exact (q7 w a b).1
    · unfold rgM
      split
      · rw [if_pos rfl]; exact isR_01 V i w
      · exact (q7 w a b).2
  · rw [rgM_ne (by omega)]; exact q8 j a b
theorem ins_row8 {V : Mm} {i a t v : Int} : insM V i a t v 8 i = insR (V 8 i) a (V 7 i 6) t := by
  funext y
  unfold insM
  rw [if_pos rfl, if_pos rfl]
theorem ins_row9 {V : Mm} {i a t v : Int} : insM V i a t v 9 i = insR (V 9 i) a (V 7 i 6) v := by
  funext y
  unfold insM
  rw [if_pos rfl, if_neg (by decide), if_pos rfl]
theorem insM_10 {V : Mm} {i a t v : Int} : insM V i a t v 7 i 10 = max (V 7 i 10) t := by
  unfold insM
  rw [if_pos rfl, if_neg (by decide), if_neg (by decide), if_neg (by decide), if_pos rfl, if_neg (by decide), if_neg (by decide), if_pos rfl]
theorem rem_row {V : Mm} {i a : Int} {c : Nat} (h : c = 8 ∨ c = 9 ∨ c = 10) : remM V i a c i = remR (V c i) a (V 7 i 6) := by
  funext y
  unfold remM
  rw [if_pos rfl, if_pos h]
theorem insR_b {f : Int → Int} {a h x lo hi : Int} (hf : ∀ y : Int, 0 ≤ y → y ≤ 120 → lo ≤ f y ∧ f y ≤ hi) (hx : lo ≤ x ∧ x ≤ hi) (ha : 0 ≤ a) {y : Int} (y0 : 0 ≤ y) (y1 : y ≤ 120) : lo ≤ insR f a h x y ∧ insR f a h x y ≤ hi := by
  unfold insR
  split
  · exact hx
  · split
    · exact hf _ (by omega) (by omega)
    · exact hf y y0 y1
theorem remR_b {f : Int → Int} {a h lo hi : Int} (hf : ∀ y : Int, 0 ≤ y → y ≤ 120 → lo ≤ f y ∧ f y ≤ hi) (hh : h ≤ 121) {y : Int} (y0 : 0 ≤ y) (y1 : y ≤ 120) : lo ≤ remR f a h y ∧ remR f a h y ≤ hi := by
  unfold remR
  split
  · exact hf _ (by omega) (by omega)
  · exact hf y y0 y1
theorem GJ.ins {V : Mm} (h : GJ V) {i t v : Int} (h0 : 0 ≤ i) (h1 : i ≤ 6) (h6 : 0 ≤ V 7 i 6) (ht : 0 ≤ t ∧ t ≤ 100000) (hv : -1000 ≤ v ∧ v ≤ 1000) : GJ (insM V i (hU V i t) t v) := by
  have hb := hU_b (V := V) (i := i) (t := t) h6
  have hs := h.1 i h0 h1
  refine h.lane i (fun c x y q => insM_ne (by omega)) (fun c x y hx q => insM_ne (by omega)) (fun _ _ => ?_) (fun _ _ => ?_) (fun y _ _ a b => ?_)
  · rw [ins_row8, insM_6]
    exact So_ins hs hb (fun j j0 j1 => hU_lo hs h6 j0 j1) (fun j j0 j1 => hU_hi j0 j1 h6)
  · rw [insM_10]
    have := (h.2.1 i h0 h1).1
    omega
  · rw [ins_row8, ins_row9]
    exact ⟨insR_b (fun y a b => (h.2.2.1 i y h0 h1 a b).1) ht hb.1 a b, insR_b (fun y a b => (h.2.2.1 i y h0 h1 a b).2) hv hb.1 a b⟩
theorem GJ.rem {V : Mm} (h : GJ V) {i a : Int} (h0 : 0 ≤ i) (h1 : i ≤ 6) (h6 : V 7 i 6 ≤ 121) (ha : 0 ≤ a) : GJ (remM V i a) := by
  refine h.lane i (fun c x y q => remM_ne (by omega)) (fun c x y hx q => remM_ne (by omega)) (fun _ _ => ?_) (fun _ _ => ?_) (fun y _ _ b c => ?_)
  · rw [rem_row (Or.inl rfl), remM_6]
    exact So_rem (h.1 i h0 h1) ha
  · rw [remM_ne (by omega)]
    exact (h.2.1 i h0 h1).1
  · rw [rem_row (Or.inl rfl), rem_row (Or.inr (Or.inl rfl))]
    exact ⟨remR_b (fun y a b => (h.2.2.1 i y h0 h1 a b).1) h6 b c, remR_b (fun y a b => (h.2.2.1 i y h0 h1 a b).2) h6 b c⟩
theorem GJ.su {V : Mm} (h : GJ V) {i : Int} {f : Int → Int} : GJ (su V 11 i f) := h.to fun c x y q => su_ne (by omega)
theorem GJ.dp {V : Mm} (h : GJ V) {i : Int} (h0 : 0 ≤ i) (h1 : i ≤ 6) (h6 : V 7 i 6 ≤ 121) : GJ (dpM V i) := by
  unfold dpM
  refine GJ.rg ?_
  unfold dfM
  refine GJ.su ?_
  exact (h.rem h0 h1 h6 (Int.le_refl 0)).to fun c x y q => mu_ne (by omega)
theorem GJ.en {V : Mm} (h : GJ V) {i t v : Int} (h0 : 0 ≤ i) (h1 : i ≤ 6) (h6 : 0 ≤ V 7 i 6) (ht : 0 ≤ t ∧ t ≤ 100000) (hv : -1000 ≤ v ∧ v ≤ 1000) : GJ (enM V i t v) := by
  unfold enM
  refine GJ.rg ?_
  split
  · exact (h.ins h0 h1 h6 ht hv).su
  · exact (h.ins h0 h1 h6 ht hv).su
theorem GJ_drps {i : Int} (h0 : 0 ≤ i) (h1 : i ≤ 6) : ∀ (n : Nat) {V : Mm}, GJ V → V 7 i 6 ≤ 121 → GJ (drps i n V)
  | 0, _, h, _ => h
  | n + 1, V, h, h6 => by
    show GJ (if goV V i then drps i n (dpM V i) else V)
    split
    · exact GJ_drps h0 h1 n (h.dp h0 h1 h6) (by rw [dpM_6]; omega)
    · exact h
theorem GJ_dpN {i : Int} (h0 : 0 ≤ i) (h1 : i ≤ 6) : ∀ (n : Nat) {V : Mm}, GJ V → V 7 i 6 ≤ 121 → GJ (dpN i n V)
  | 0, _, h, _ => h
  | n + 1, V, h, h6 => GJ_dpN h0 h1 n (h.dp h0 h1 h6) (by rw [dpM_6]; omega)
theorem GJ.pl {V : Mm} (h : GJ V) {i t v : Int} (h0 : 0 ≤ i) (h1 : i ≤ 6) (h6 : 0 ≤ V 7 i 6 ∧ V 7 i 6 ≤ 120) (ht : 0 ≤ t ∧ t ≤ 100000) (hv : -1000 ≤ v ∧ v ≤ 1000) : GJ (plM V i t v) :=
  GJ_drps h0 h1 _ (h.en h0 h1 h6.1 ht hv) (by rw [enM_6]; omega)
theorem GJ.gv {V : Mm} (h : GJ V) (hc : CI V) {i t : Int} (h0 : 0 ≤ i) (h1 : i ≤ 3) : GJ (gvM V i t) := by
  unfold gvM
  split
  · rename_i q
    have hW : GJ (mu V 13 i 3 (wr (V 13 i 3 + 1))) := h.to fun c x y q => mu_ne (by omega)
    have h6 := hc.h7 (l := V 13 i 0) q.1.1 (by omega)
    have h6i := hc.h7 (l := i) h0 (by omega)
    refine hW.pl q.1.1 (by omega) (by rw [mu_ne (by omega)]; exact h6) (h.2.2.1 i _ h0 (by omega) (by omega) (by omega)).1 (by omega)
  · exact h
theorem GJ.nt {V : Mm} (h : GJ V) : GJ (ntM V) := h.to fun c x y q => if_neg (by omega)
theorem GJ.lk {V : Mm} (h : GJ V) (hc : CI V) {l : Int} (h0 : 0 ≤ l) (h1 : l ≤ 6) : LK V l := by
  have h6 := hc.h7 h0 h1
  refine ⟨(h.2.2.2.1 l h0 h1).2, by omega, fun j a b => (h.2.2.1 l j h0 h1 a b).2, h.2.2.2.2.2.2.2, fun w a b c => ?_, fun w a b => (h.2.2.2.2.2.2.1 w a b).2⟩
  rcases (h.2.2.2.2.2.2.1 w a b).1 with q | q
  · omega
  · rw [c] at q; exact q.2
def GM (V : Mm) : Prop := ∀ l : Int, 0 ≤ l → l ≤ 6 → V 7 l 6 ≤ V 7 l 15
def GI (V : Mm) : Prop := CI V ∧ GJ V ∧ GM V
theorem pl_10 {V : Mm} {i t v : Int} : plM V i t v 7 i 10 = max (V 7 i 10) t := by
  have hd : ∀ (n : Nat) (W : Mm), drps i n W 7 i 10 = W 7 i 10 := fun n => by
    induction n with
    | zero => intro W; rfl
    | succ n ih =>
      intro W
      show (if goV W i then drps i n (dpM W i) else W) 7 i 10 = W 7 i 10
      split
      · rw [ih, dpM_ne (by omega)]
      · rfl
  unfold plM
  rw [hd]
  unfold enM
  rw [rgM_ne (by omega)]
  split
  · rw [adM_ne (by omega), insM_10]
  · rw [lyM_ne (by omega), insM_10]
theorem GM.nt {V : Mm} (h : ∀ l : Int, 4 ≤ l → l ≤ 6 → V 7 l 6 ≤ V 7 l 15) : GM (ntM V) := fun l a b => by
  rw [show ntM V 7 l 6 = V 7 l 6 from if_neg (by omega)]
  by_cases hl : l ≤ 3
  · rw [show ntM V 7 l 15 = max (V 7 l 15) (V 7 l 6) from if_pos ⟨rfl, ⟨a, hl⟩, rfl⟩]
    omega
  · rw [show ntM V 7 l 15 = V 7 l 15 from if_neg (by omega)]
    exact h l (by omega) b
-- B: every call keeps what holds at rest
theorem FI_zr {f : Int → Int} : FI (zrR f) 0 := by
  have e0 : zrR f 0 = 0 := rfl
  have e1 : zrR f 1 = 0 := rfl
  have e2 : zrR f 2 = 0 := rfl
  have e3 : zrR f 3 = 0 := rfl
  unfold FI
  rw [e0, e1, e2, e3]
  omega
theorem FI_c {f g : Int → Int} {h : Int} (p : FI f h) (e : ∀ y : Int, 0 ≤ y → y ≤ 3 → g y = f y) : FI g h := by
  unfold FI
  rw [e 0 (by omega) (by omega), e 1 (by omega) (by omega), e 2 (by omega) (by omega), e 3 (by omega) (by omega)]
  exact p
theorem etM_13 {V : Mm} {l i : Int} (a : 0 ≤ i) (b : i ≤ 3) : etM V l 13 i 0 = if i = l ∨ V 13 i 0 = l then -1 else V 13 i 0 := by
  have e : etA V l 8 13 i 0 = V 13 i 0 := if_neg (by omega)
  unfold etM etB
  rw [e]
  by_cases q : i = l ∨ V 13 i 0 = l
  · rw [if_pos q, if_pos ⟨rfl, ⟨a, by omega⟩, rfl, q⟩]
  · rw [if_neg q, if_neg (fun z => q z.2.2.2)]
theorem etM_12 {V : Mm} {l w : Int} (a : 0 ≤ w) (b : w ≤ 7) : etM V l 12 w 0 = if V 12 w 0 = l then -1 else V 12 w 0 := by
  have e : etB (etA V l 8) l 4 12 w 0 = etA V l 8 12 w 0 := if_neg (by omega)
  show etB (etA V l 8) l 4 12 w 0 = _
  rw [e]
  unfold etA
  by_cases q : V 12 w 0 = l
  · rw [if_pos q, if_pos ⟨rfl, ⟨a, by omega⟩, rfl, q⟩]
  · rw [if_neg q, if_neg (fun z => q z.2.2.2)]
/-- what GJ says of LANES, BOXES and the TABLE, without the ties -/
def GK (V : Mm) : Prop :=
  (∀ l : Int, 0 ≤ l → l ≤ 6 → So (V 8 l) (V 7 l 6)) ∧
  (∀ l : Int, 0 ≤ l → l ≤ 6 → (-1 ≤ V 7 l 10 ∧ V 7 l 10 ≤ 100000) ∧ (0 ≤ V 7 l 5 ∧ V 7 l 5 ≤ 10000) ∧ 0 ≤ V 7 l 4 ∧ V 7 l 4 ≤ 10000) ∧
  (∀ l y : Int, 0 ≤ l → l ≤ 6 → 0 ≤ y → y ≤ 120 → (0 ≤ V 8 l y ∧ V 8 l y ≤ 100000) ∧ -1000 ≤ V 9 l y ∧ V 9 l y ≤ 1000) ∧
  (∀ l : Int, 0 ≤ l → l ≤ 6 → (V 7 l 1 = 0 ∨ V 7 l 1 = 1) ∧ 0 ≤ V 7 l 2 ∧ V 7 l 2 ≤ 9) ∧
  (∀ b : Int, 4 ≤ b → b ≤ 6 → V 7 b 1 = 1 → 0 ≤ V 7 b 0 ∧ V 7 b 0 ≤ 3) ∧
  (∀ j : Int, 0 ≤ j → j < 16 → 0 ≤ V 15 0 j ∧ V 15 0 j ≤ 3)
theorem GJ.gk {V : Mm} (h : GJ V) : GK V := ⟨h.1, h.2.1, h.2.2.1, h.2.2.2.1, h.2.2.2.2.1, h.2.2.2.2.2.2.2⟩
theorem GK.et {V W : Mm} {l : Int} (p : GK W) (h : GJ V) (h0 : 0 ≤ l) (e7 : ∀ x y : Int, x ≠ l → y = 1 ∨ y = 2 → x ≤ 3 → W 7 x y = V 7 x y) (e12 : ∀ x y : Int, W 12 x y = V 12 x y) (e13 : ∀ x y : Int, W 13 x y = V 13 x y) : GJ (etM W l) := by
  obtain ⟨p1, p2, p3, p4, p5, p8⟩ := p
  refine ⟨fun i a b => ?_, fun i a b => ?_, fun i y a b c d => ?_, fun i a b => ?_, fun b a c d => ?_, fun i a b => ?_, fun w a b => ?_, fun j a b => ?_⟩
  · rw [etM_ne (by omega), show etM W l 8 i = W 8 i from funext fun y => etM_ne (by omega)]; exact p1 i a b
  · rw [etM_ne (by omega), etM_ne (by omega), etM_ne (by omega)]; exact p2 i a b
  · rw [etM_ne (by omega), etM_ne (by omega)]; exact p3 i y a b c d
  · rw [etM_ne (by omega), etM_ne (by omega)]; exact p4 i a b
  · rw [etM_ne (by omega)] at d
    rw [etM_ne (by omega)]; exact p5 b a c d
  · rw [etM_13 a b, e13 i 0]
    by_cases q : i = l ∨ V 13 i 0 = l
    · left; exact if_pos q
    · rw [if_neg q]
      rcases h.2.2.2.2.2.1 i a b with z | ⟨z1, z2, z3, z4, z5⟩
      · exact Or.inl z
      · have hj : V 13 i 0 ≠ l := fun z => q (Or.inr z)
        have hi : i ≠ l := fun z => q (Or.inl z)
        refine Or.inr ⟨⟨z1.1, ?_⟩, ⟨z2.1, ?_⟩, z3, ?_, ?_⟩
        · rw [etM_ne (by omega), e7 i 1 hi (Or.inl rfl) b]; exact z1.2
        · rw [etM_ne (by omega), e7 _ 1 hj (Or.inl rfl) z2.1.2]; exact z2.2
        · rw [etM_13 z2.1.1 z2.1.2, e13, z4, if_neg (by omega)]
        · rw [etM_ne (by omega), etM_ne (by omega), e7 i 2 hi (Or.inr rfl) b, e13 i 2]; exact z5
  · refine ⟨?_, ?_⟩
    · rw [etM_12 a b, e12 w 0]
      by_cases q : V 12 w 0 = l
      · left; exact if_pos q
      · rw [if_neg q]
        rcases (h.2.2.2.2.2.2.1 w a b).1 with z | ⟨z1, z2⟩
        · exact Or.inl z
        · refine Or.inr ⟨⟨z1.1, ?_⟩, ?_⟩
          · rw [etM_ne (by omega), e7 _ 1 q (Or.inl rfl) z1.1.2]; exact z1.2
          · rw [etM_ne (by omega), etM_ne (by omega), e12 w 1, e7 _ 2 q (Or.inr rfl) z1.1.2]; exact z2
    · rw [etM_ne (by omega), e12 w 3]; exact (h.2.2.2.2.2.2.1 w a b).2
  · rw [etM_ne (by omega)]; exact p8 j a b
theorem CI.et {V : Mm} {l : Int} (h : CI V) (h0 : 0 ≤ l) : CI (etM V l) := by
  refine ⟨fun i a b => ?_, fun i a b => ?_, fun i a b => ?_, fun i a b => ?_⟩
  · rw [etM_ne (by omega)]; exact h.1 i a b
  · rw [etM_ne (by omega), show etM V l 11 i = V 11 i from funext fun y => etM_ne (by omega)]; exact h.2.1 i a b
  · rw [etM_ne (by omega), etM_ne (by omega), etM_ne (by omega)]; exact h.2.2.1 i a b
  · rw [etM_13 a b]
    split
    · omega
    · exact h.2.2.2 i a b
theorem GM.et {V : Mm} {l : Int} (h : GM V) : GM (etM V l) := fun i a b => by
  rw [etM_ne (by omega), etM_ne (by omega)]; exact h i a b
theorem GI.sh {V : Mm} (h : GI V) (l : Int) : GI (shM V l) := by
  unfold shM
  split
  · rename_i q
    obtain ⟨⟨ql0, ql3⟩, q1⟩ := q
    obtain ⟨hc, hj, hm⟩ := h
    obtain ⟨p1, p2, p3, p4, p5, p8⟩ := hj.gk
    refine ⟨CI.et (hc.to fun c x y z => mu_ne (by omega)) ql0, GK.et (V := V) ⟨fun i a b => ?_, fun i a b => ?_, fun i y a b c d => ?_, fun i a b => ?_, fun b a c d => ?_, fun j a b => ?_⟩ hj ql0 (fun x y z _ _ => mu_ne (by omega)) (fun x y => mu_ne (by omega)) (fun x y => mu_ne (by omega)), GM.et (fun i a b => ?_)⟩
    · rw [mu_ne (by omega), show mu V 7 l 1 0 8 i = V 8 i from funext fun y => mu_ne (by omega)]; exact p1 i a b
    · rw [mu_ne (by omega), mu_ne (by omega), mu_ne (by omega)]; exact p2 i a b
    · rw [mu_ne (by omega), mu_ne (by omega)]; exact p3 i y a b c d
    · refine ⟨?_, ?_⟩
      · by_cases z : i = l
        · subst z; exact Or.inl (mu_self _ _ _ _ _)
        · rw [mu_ne (by omega)]; exact (p4 i a b).1
      · rw [mu_ne (by omega)]; exact (p4 i a b).2
    · rw [mu_ne (by omega)] at d
      rw [mu_ne (by omega)]; exact p5 b a c d
    · rw [mu_ne (by omega)]; exact p8 j a b
    · rw [mu_ne (by omega), mu_ne (by omega)]; exact hm i a b
  · exact h
theorem GI.on {V : Mm} (h : GI V) (l o b z y : Int) : GI (onM V l o b z y) := by
  unfold onM
  split
  · rename_i q
    obtain ⟨q1, q2, q3, q4, q5⟩ := q
    obtain ⟨zz, hzz⟩ : ∃ zz : Int, zz = (if b = 0 then 0 else z) := ⟨_, rfl⟩
    rw [← hzz]
    have hz : (b = 0 ∧ zz = 0) ∨ (b = 1 ∧ 1 ≤ zz ∧ zz ≤ 120) ∨ (b = 2 ∧ 1 ≤ zz ∧ zz ≤ 10000) := by
      rw [hzz]
      split <;> omega
    obtain ⟨hc, hj, hm⟩ := h
    obtain ⟨p1, p2, p3, p4, p5, p8⟩ := hj.gk
    have b7 : ∀ t : Int, bgM V l o b zz y 7 l t = bgR o b zz y (V 7 l) t := fun t => by
      unfold bgM
      rw [if_pos rfl, if_pos rfl]
    have bn : ∀ (c : Nat) (x t : Int), x ≠ l → bgM V l o b zz y c x t = V c x t := fun c x t e => if_neg e
    have bo : ∀ (c : Nat) (x t : Int), c ≠ 7 → c ≠ 11 → bgM V l o b zz y c x t = V c x t := fun c x t e7 e11 => by
      unfold bgM
      by_cases hx : x = l
      · rw [if_pos hx, if_neg e7, if_neg e11]
      · rw [if_neg hx]
    have v0 : bgM V l o b zz y 7 l 0 = V 7 l 0 := (b7 0).trans (by simp [bgR])
    have v1 : bgM V l o b zz y 7 l 1 = 1 := (b7 1).trans (by simp [bgR])
    have v2 : bgM V l o b zz y 7 l 2 = o := (b7 2).trans (by simp [bgR])
    have v3 : bgM V l o b zz y 7 l 3 = b := (b7 3).trans (by simp [bgR])
    have v4 : bgM V l o b zz y 7 l 4 = zz := (b7 4).trans (by simp [bgR])
    have v5 : bgM V l o b zz y 7 l 5 = y := (b7 5).trans (by simp [bgR])
    have v6 : bgM V l o b zz y 7 l 6 = 0 := (b7 6).trans (by simp [bgR])
    have v10 : bgM V l o b zz y 7 l 10 = -1 := (b7 10).trans (by simp [bgR])
    have v15 : bgM V l o b zz y 7 l 15 = 0 := (b7 15).trans (by simp [bgR])
    have e11 : bgM V l o b zz y 11 l = zrR (V 11 l) := funext fun t => by
      unfold bgM
      rw [if_pos rfl, if_neg (by decide), if_pos rfl]
    refine ⟨CI.et ⟨fun i a c => ?_, fun i a c => ?_, fun i a c => ?_, fun i a c => ?_⟩ q1.1, GK.et (V := V) ⟨fun i a c => ?_, fun i a c => ?_, fun i t a c d e => ?_, fun i a c => ?_, fun i a c d => ?_, fun j a c => ?_⟩ hj q1.1 (fun x t e _ _ => bn 7 x t e) (fun x t => bo 12 x t (by decide) (by decide)) (fun x t => bo 13 x t (by decide) (by decide)), GM.et (fun i a c => ?_)⟩
    · by_cases e : i = l
      · subst e; rw [v0]; exact hc.1 i a c
      · rw [bn _ _ _ e]; exact hc.1 i a c
    · by_cases e : i = l
      · subst e; rw [v6, e11]; exact FI_zr
      · rw [bn _ _ _ e, show bgM V l o b zz y 11 i = V 11 i from funext fun t => bn 11 i t e]; exact hc.2.1 i a c
    · by_cases e : i = l
      · subst e; rw [v3, v4, v6]; unfold Rst; omega
      · rw [bn _ _ _ e, bn _ _ _ e, bn _ _ _ e]; exact hc.2.2.1 i a c
    · rw [bo _ _ _ (by decide) (by decide)]; exact hc.2.2.2 i a c
    · by_cases e : i = l
      · subst e; rw [v6]; exact fun j j0 j1 => by omega
      · rw [bn _ _ _ e, show bgM V l o b zz y 8 i = V 8 i from funext fun t => bn 8 i t e]; exact p1 i a c
    · by_cases e : i = l
      · subst e; rw [v10, v5, v4]; omega
      · rw [bn _ _ _ e, bn _ _ _ e, bn _ _ _ e]; exact p2 i a c
    · rw [bo _ _ _ (by decide) (by decide), bo _ _ _ (by decide) (by decide)]; exact p3 i t a c d e
    · by_cases e : i = l
      · subst e; rw [v1, v2]; omega
      · rw [bn _ _ _ e, bn _ _ _ e]; exact p4 i a c
    · rw [bn _ _ _ (by omega)] at d
      rw [bn _ _ _ (by omega)]; exact p5 i a c d
    · rw [bo _ _ _ (by decide) (by decide)]; exact p8 j a c
    · by_cases e : i = l
      · subst e; rw [v6, v15]; omega
      · rw [bn _ _ _ e, bn _ _ _ e]; exact hm i a c
  · exact h
-- copies
theorem cp_7 {V : Mm} {a b y : Int} (h : cpS y) : cpM V a b 7 b y = V 7 a y := by
  unfold cpM
  rw [if_pos rfl, if_pos rfl, if_pos h]
theorem cp_in {V : Mm} {a b y : Int} {c : Nat} (hc : c = 8 ∨ c = 9 ∨ c = 10) (h : 0 ≤ y ∧ y < V 7 a 6) : cpM V a b c b y = V c a y := by
  unfold cpM
  rw [if_pos rfl, if_neg (by omega), if_pos hc, if_pos h]
theorem cp_off {V : Mm} {a b y : Int} {c : Nat} (hc : c = 8 ∨ c = 9 ∨ c = 10) (h : ¬ (0 ≤ y ∧ y < V 7 a 6)) : cpM V a b c b y = V c b y := by
  unfold cpM
  rw [if_pos rfl, if_neg (by omega), if_pos hc, if_neg h]
theorem cp_11 {V : Mm} {a b y : Int} (h : 0 ≤ y ∧ y ≤ 6) : cpM V a b 11 b y = V 11 a y := by
  unfold cpM
  rw [if_pos rfl, if_neg (by decide), if_neg (by decide), if_pos rfl, if_pos h]
theorem cp_ot {V : Mm} {a b x y : Int} {c : Nat} (h : 12 ≤ c) : cpM V a b c x y = V c x y := by
  unfold cpM
  split
  · rw [if_neg (by omega), if_neg (by omega), if_neg (by omega)]
  · rfl
theorem CI.cp {V : Mm} (h : CI V) {a b : Int} (a0 : 0 ≤ a) (a6 : a ≤ 6) (hb : b ≤ 3 → V 7 a 0 = b) : CI (cpM V a b) := by
  refine ⟨fun i c d => ?_, fun i c d => ?_, fun i c d => ?_, fun i c d => ?_⟩
  · by_cases e : i = b
    · subst e; rw [cp_7 (by unfold cpS; omega)]; exact hb d
    · rw [cpM_ne e]; exact h.1 i c d
  · by_cases e : i = b
    · subst e; rw [cp_7 (by unfold cpS; omega)]; exact FI_c (h.2.1 a a0 a6) (fun y y0 y1 => cp_11 ⟨y0, by omega⟩)
    · rw [cpM_ne e, show cpM V a b 11 i = V 11 i from funext fun y => cpM_ne e]; exact h.2.1 i c d
  · by_cases e : i = b
    · subst e; rw [cp_7 (by unfold cpS; omega), cp_7 (by unfold cpS; omega), cp_7 (by unfold cpS; omega)]; exact h.2.2.1 a a0 a6
    · rw [cpM_ne e, cpM_ne e, cpM_ne e]; exact h.2.2.1 i c d
  · rw [cp_ot (by decide)]; exact h.2.2.2 i c d
theorem GK.cp {V : Mm} (h : GK V) {a b : Int} (a0 : 0 ≤ a) (a6 : a ≤ 6) (hb : 4 ≤ b → 0 ≤ V 7 a 0 ∧ V 7 a 0 ≤ 3) : GK (cpM V a b) := by
  obtain ⟨p1, p2, p3, p4, p5, p8⟩ := h
  refine ⟨fun i c d => ?_, fun i c d => ?_, fun i y c d e f => ?_, fun i c d => ?_, fun i c d e => ?_, fun j c d => ?_⟩
  · by_cases e : i = b
    · subst e
      rw [cp_7 (by unfold cpS; omega)]
      intro j j0 j1
      rw [cp_in (Or.inl rfl) ⟨j0, by omega⟩, cp_in (Or.inl rfl) ⟨by omega, j1⟩]
      exact p1 a a0 a6 j j0 j1
    · rw [cpM_ne e, show cpM V a b 8 i = V 8 i from funext fun y => cpM_ne e]; exact p1 i c d
  · by_cases e : i = b
    · subst e; rw [cp_7 (by unfold cpS; omega), cp_7 (by unfold cpS; omega), cp_7 (by unfold cpS; omega)]; exact p2 a a0 a6
    · rw [cpM_ne e, cpM_ne e, cpM_ne e]; exact p2 i c d
  · by_cases g : i = b
    · subst g
      by_cases k : 0 ≤ y ∧ y < V 7 a 6
      · rw [cp_in (Or.inl rfl) k, cp_in (Or.inr (Or.inl rfl)) k]; exact p3 a y a0 a6 e f
      · rw [cp_off (Or.inl rfl) k, cp_off (Or.inr (Or.inl rfl)) k]; exact p3 i y c d e f
    · rw [cpM_ne g, cpM_ne g]; exact p3 i y c d e f
  · by_cases e : i = b
    · subst e; rw [cp_7 (by unfold cpS; omega), cp_7 (by unfold cpS; omega)]; exact p4 a a0 a6
    · rw [cpM_ne e, cpM_ne e]; exact p4 i c d
  · by_cases g : i = b
    · subst g; rw [cp_7 (by unfold cpS; omega)]; exact hb c
    · rw [cpM_ne g] at e
      rw [cpM_ne g]; exact p5 i c d e
  · rw [cp_ot (by decide)]; exact p8 j c d
theorem GM.cp {V : Mm} (h : GM V) {a b : Int} (a0 : 0 ≤ a) (a6 : a ≤ 6) : GM (cpM V a b) := fun i c d => by
  by_cases e : i = b
  · subst e; rw [cp_7 (by unfold cpS; omega), cp_7 (by unfold cpS; omega)]; exact h a a0 a6
  · rw [cpM_ne e, cpM_ne e]; exact h i c d
theorem GI.kp {V : Mm} (h : GI V) (l x : Int) : GI (kpM V l x) := by
  unfold kpM
  split
  · rename_i q
    obtain ⟨⟨⟨ql0, ql3⟩, q1⟩, q2, q3⟩ := q
    obtain ⟨hc, hj, hm⟩ := h
    have hk := GK.cp (b := x + 4) hj.gk ql0 (by omega) (fun _ => by rw [hc.1 l ql0 ql3]; omega)
    have e7 : ∀ m y : Int, m ≤ 3 → cpM V l (x + 4) 7 m y = V 7 m y := fun m y hm3 => cpM_ne (by omega)
    refine ⟨hc.cp ql0 (by omega) (fun _ => by omega), ⟨hk.1, hk.2.1, hk.2.2.1, hk.2.2.2.1, hk.2.2.2.2.1, fun i a b => ?_, fun w a b => ?_, hk.2.2.2.2.2⟩, hm.cp ql0 (by omega)⟩
    · rw [cp_ot (by decide), cp_ot (by decide), cp_ot (by decide)]
      rcases hj.2.2.2.2.2.1 i a b with z | ⟨z1, z2, z3, z4, z5⟩
      · exact Or.inl z
      · refine Or.inr ⟨⟨z1.1, ?_⟩, ⟨z2.1, ?_⟩, z3, z4, ?_⟩
        · rw [e7 i 1 b]; exact z1.2
        · rw [e7 _ 1 z2.1.2]; exact z2.2
        · rw [e7 i 2 b]; exact z5
    · have c12 : ∀ y : Int, cpM V l (x + 4) 12 w y = V 12 w y := fun y => cp_ot (by decide)
      rw [c12 0, c12 1, c12 3]
      refine ⟨?_, (hj.2.2.2.2.2.2.1 w a b).2⟩
      rcases (hj.2.2.2.2.2.2.1 w a b).1 with z | ⟨z1, z2⟩
      · exact Or.inl z
      · refine Or.inr ⟨⟨z1.1, ?_⟩, ?_⟩
        · rw [e7 _ 1 z1.1.2]; exact z1.2
        · rw [e7 _ 2 z1.1.2]; exact z2
  · exact h
theorem GI.bk {V : Mm} (h : GI V) (x : Int) : GI (bkM V x) := by
  unfold bkM
  split
  · rename_i q
    obtain ⟨⟨q1, q2⟩, q3⟩ := q
    obtain ⟨hc, hj, hm⟩ := h
    have hr := hj.2.2.2.2.1 (x + 4) (by omega) (by omega) q3
    refine ⟨CI.et (hc.cp (by omega) (by omega) (fun _ => rfl)) hr.1, GK.et (V := V) (hj.gk.cp (by omega) (by omega) (fun z => by omega)) hj hr.1 (fun m y e _ _ => cpM_ne e) (fun m y => cp_ot (by decide)) (fun m y => cp_ot (by decide)), GM.et (hm.cp (by omega) (by omega))⟩
  · exact h
-- ties
theorem GJ.w12 {V W : Mm} (h : GJ V) (e : ∀ (c : Nat) (x y : Int), c ≠ 12 → W c x y = V c x y) (p7 : ∀ w : Int, 0 ≤ w → w ≤ 7 → (W 12 w 0 = -1 ∨ (opV V (W 12 w 0) ∧ 0 ≤ W 12 w 1 ∧ W 12 w 1 < numF (V 7 (W 12 w 0) 2))) ∧ (W 12 w 3 = 0 ∨ W 12 w 3 = 1)) : GJ W := by
  have e7 : W 7 = V 7 := funext fun x => funext fun y => e 7 x y (by decide)
  have e8 : W 8 = V 8 := funext fun x => funext fun y => e 8 x y (by decide)
  have e9 : W 9 = V 9 := funext fun x => funext fun y => e 9 x y (by decide)
  have e13 : W 13 = V 13 := funext fun x => funext fun y => e 13 x y (by decide)
  have e15 : W 15 = V 15 := funext fun x => funext fun y => e 15 x y (by decide)
  obtain ⟨q1, q2, q3, q4, q5, q6, q7, q8⟩ := h
  unfold GJ opV
  rw [e7, e8, e9, e13, e15]
  exact ⟨q1, q2, q3, q4, q5, q6, p7, q8⟩
theorem GJ.w13 {V W : Mm} (h : GJ V) (e : ∀ (c : Nat) (x y : Int), c ≠ 13 → W c x y = V c x y) (p6 : ∀ i : Int, 0 ≤ i → i ≤ 3 → W 13 i 0 = -1 ∨ (opV V i ∧ opV V (W 13 i 0) ∧ W 13 i 0 ≠ i ∧ W 13 (W 13 i 0) 0 = -1 ∧ 0 ≤ W 13 i 2 ∧ W 13 i 2 < numF (V 7 i 2))) : GJ W := by
  have e7 : W 7 = V 7 := funext fun x => funext fun y => e 7 x y (by decide)
  have e8 : W 8 = V 8 := funext fun x => funext fun y => e 8 x y (by decide)
  have e9 : W 9 = V 9 := funext fun x => funext fun y => e 9 x y (by decide)
  have e12 : W 12 = V 12 := funext fun x => funext fun y => e 12 x y (by decide)
  have e15 : W 15 = V 15 := funext fun x => funext fun y => e 15 x y (by decide)
  obtain ⟨q1, q2, q3, q4, q5, q6, q7, q8⟩ := h
  unfold GJ opV
  rw [e7, e8, e9, e12, e15]
  exact ⟨q1, q2, q3, q4, q5, p6, q7, q8⟩
theorem GI.wt {V : Mm} (h : GI V) (v l w b : Int) : GI (wtM V v l w b) := by
  unfold wtM
  split
  · rename_i q
    obtain ⟨⟨q1, q2⟩, q3⟩ := q
    obtain ⟨hc, hj, hm⟩ := h
    have e : ∀ (c : Nat) (x y : Int), ¬ (c = 12 ∧ x = v) → (mu (mu (mu (mu (mu (mu V 12 v 0 l) 12 v 1 w) 12 v 2 b) 12 v 3 (rc1 V l w b)) 12 v 4 0) 12 v 5 (-1)) c x y = V c x y := fun c x y z => by
      rw [mu_ne (by omega), mu_ne (by omega), mu_ne (by omega), mu_ne (by omega), mu_ne (by omega), mu_ne (by omega)]
    refine ⟨hc.to (fun c x y z => e c x y (by omega)), hj.w12 (fun c x y z => e c x y (by omega)) (fun j a c => ?_), fun i a c => ?_⟩
    · by_cases g : j = v
      · subst g
        rw [mu_ne (by omega), mu_ne (by omega), mu_ne (by omega), mu_ne (by omega), mu_ne (by omega), mu_self, mu_ne (by omega), mu_ne (by omega), mu_ne (by omega), mu_ne (by omega), mu_self, mu_ne (by omega), mu_ne (by omega), mu_self]
        exact ⟨Or.inr ⟨q1, q2⟩, rc1_01 V l w b⟩
      · rw [e _ _ _ (by omega), e _ _ _ (by omega), e _ _ _ (by omega)]; exact hj.2.2.2.2.2.2.1 j a c
    · rw [e _ _ _ (by omega), e _ _ _ (by omega)]; exact hm i a c
  · exact h
theorem GI.lk {V : Mm} (h : GI V) {l o z w : Int} (q : lkC V l o z w) : GI (lkM V l o z w) := by
  obtain ⟨⟨q1, q2⟩, q3, q4, q5, q6, q7⟩ := q
  obtain ⟨hc, hj, hm⟩ := h
  have e : ∀ (c : Nat) (x y : Int), ¬ (c = 13 ∧ x = l) → lkM V l o z w c x y = V c x y := fun c x y g => by
    unfold lkM
    rw [mu_ne (by omega), mu_ne (by omega), mu_ne (by omega), mu_ne (by omega)]
  have e0 : lkM V l o z w 13 l 0 = o := by
    unfold lkM
    rw [mu_ne (by omega), mu_ne (by omega), mu_ne (by omega), mu_self]
  have e2 : lkM V l o z w 13 l 2 = w := by
    unfold lkM
    rw [mu_ne (by omega), mu_self]
  refine ⟨⟨fun i a b => ?_, fun i a b => ?_, fun i a b => ?_, fun i a b => ?_⟩, hj.w13 (fun c x y g => e c x y (by omega)) (fun i a b => ?_), fun i a b => ?_⟩
  · rw [e _ _ _ (by omega)]; exact hc.1 i a b
  · rw [e _ _ _ (by omega), show lkM V l o z w 11 i = V 11 i from funext fun y => e _ _ _ (by omega)]; exact hc.2.1 i a b
  · rw [e _ _ _ (by omega), e _ _ _ (by omega), e _ _ _ (by omega)]; exact hc.2.2.1 i a b
  · by_cases g : i = l
    · subst g; rw [e0]; omega
    · rw [e _ _ _ (by omega)]; exact hc.2.2.2 i a b
  · by_cases g : i = l
    · subst g
      rw [e0, e2, e 13 o 0 (by omega)]
      exact Or.inr ⟨q1, q3, by omega, q6, q2⟩
    · rw [e 13 i 0 (by omega), e 13 i 2 (by omega)]
      rcases hj.2.2.2.2.2.1 i a b with y | ⟨z1, z2, z3, z4, z5⟩
      · exact Or.inl y
      · refine Or.inr ⟨z1, z2, z3, ?_, z5⟩
        have := q7 i a (by omega)
        rw [e 13 _ 0 (by omega)]; exact z4
  · rw [e _ _ _ (by omega), e _ _ _ (by omega)]; exact hm i a b
theorem GI.ul {V : Mm} (h : GI V) (l : Int) : GI (ulM V l) := by
  unfold ulM
  split
  · rename_i q
    obtain ⟨⟨ql0, ql3⟩, q1⟩ := q
    obtain ⟨hc, hj, hm⟩ := h
    refine ⟨⟨fun i a b => ?_, fun i a b => ?_, fun i a b => ?_, fun i a b => ?_⟩, hj.w13 (fun c x y g => mu_ne (by omega)) (fun i a b => ?_), fun i a b => ?_⟩
    · rw [mu_ne (by omega)]; exact hc.1 i a b
    · rw [mu_ne (by omega), show mu V 13 l 0 (-1) 11 i = V 11 i from funext fun y => mu_ne (by omega)]; exact hc.2.1 i a b
    · rw [mu_ne (by omega), mu_ne (by omega), mu_ne (by omega)]; exact hc.2.2.1 i a b
    · by_cases g : i = l
      · subst g; rw [mu_self]; omega
      · rw [mu_ne (by omega)]; exact hc.2.2.2 i a b
    · by_cases g : i = l
      · subst g; exact Or.inl (mu_self _ _ _ _ _)
      · rw [show mu V 13 l 0 (-1) 13 i 0 = V 13 i 0 from mu_ne (by omega), show mu V 13 l 0 (-1) 13 i 2 = V 13 i 2 from mu_ne (by omega)]
        rcases hj.2.2.2.2.2.1 i a b with y | ⟨z1, z2, z3, z4, z5⟩
        · exact Or.inl y
        · refine Or.inr ⟨z1, z2, z3, ?_, z5⟩
          by_cases k : V 13 i 0 = l
          · rw [k]; exact mu_self _ _ _ _ _
          · rw [mu_ne (by omega)]; exact z4
    · rw [mu_ne (by omega), mu_ne (by omega)]; exact hm i a b
  · exact h
theorem GI.tb {V : Mm} (h : GI V) {x y : Int} (hy : 0 ≤ y ∧ y ≤ 3) : GI (mu V 15 0 x y) := by
  obtain ⟨hc, hj, hm⟩ := h
  refine ⟨hc.to (fun c a b z => mu_ne (by omega)), ?_, fun i a b => ?_⟩
  · have e7 : mu V 15 0 x y 7 = V 7 := funext fun a => funext fun b => mu_ne (by omega)
    have e8 : mu V 15 0 x y 8 = V 8 := funext fun a => funext fun b => mu_ne (by omega)
    have e9 : mu V 15 0 x y 9 = V 9 := funext fun a => funext fun b => mu_ne (by omega)
    have e12 : mu V 15 0 x y 12 = V 12 := funext fun a => funext fun b => mu_ne (by omega)
    have e13 : mu V 15 0 x y 13 = V 13 := funext fun a => funext fun b => mu_ne (by omega)
    obtain ⟨q1, q2, q3, q4, q5, q6, q7, q8⟩ := hj
    unfold GJ opV
    rw [e7, e8, e9, e12, e13]
    refine ⟨q1, q2, q3, q4, q5, q6, q7, fun j a b => ?_⟩
    by_cases g : j = x
    · subst g; rw [mu_self]; exact hy
    · rw [mu_ne (by omega)]; exact q8 j a b
  · rw [mu_ne (by omega), mu_ne (by omega)]; exact hm i a b
theorem GI.lt {V : Mm} (h : GI V) {x y : Int} : GI (mu V 16 0 x y) := by
  obtain ⟨hc, hj, hm⟩ := h
  refine ⟨hc.to (fun c a b z => mu_ne (by omega)), hj.to (fun c a b z => mu_ne (by omega)), fun i a b => ?_⟩
  rw [mu_ne (by omega), mu_ne (by omega)]; exact hm i a b
-- what is let go
theorem GI_dpN {i : Int} (h0 : 0 ≤ i) (h1 : i ≤ 3) : ∀ (n : Nat) {V : Mm}, GI V → (n : Int) ≤ V 7 i 6 → GI (dpN i n V)
  | 0, _, h, _ => h
  | n + 1, V, h, hn => by
    have h6 := h.1.h7 h0 (show i ≤ 6 by omega)
    show GI (dpN i n (dpM V i))
    refine GI_dpN h0 h1 n ⟨h.1.dp h0 h1 (by omega), h.2.1.dp h0 (by omega) (by omega), fun l a b => ?_⟩ (by rw [dpM_6]; omega)
    by_cases hl : l = i
    · subst hl
      rw [dpM_6, dpM_ne (by omega)]
      have := h.2.2 l a b
      omega
    · rw [dpM_ne (by omega), dpM_ne (by omega)]; exact h.2.2 l a b
theorem GI.le {V : Mm} (h : GI V) (l m : Int) : GI (leM V l m) := by
  unfold leM
  split
  · rename_i q
    exact GI_dpN q.1.1.1 q.1.1.2 _ h (by have := q.2; omega)
  · exact h
theorem GI.un {V : Mm} (h : GI V) (l t : Int) : GI (unM V l t) := by
  unfold unM
  split
  · rename_i q
    have h6 := h.1.h7 (l := l) q.1.1 (by omega)
    have hb := hU_b (V := V) (i := l) (t := t) h6.1
    exact GI_dpN q.1.1 q.1.2 _ h (by omega)
  · exact h
theorem GI.ta {V : Mm} (h : GI V) (l x : Int) : GI (taM V l x) := by
  unfold taM
  split
  · rename_i q
    obtain ⟨⟨⟨ql0, ql3⟩, q1⟩, q2, q3⟩ := q
    obtain ⟨hc, hj, hm⟩ := h
    have h6 := hc.h7 ql0 (show l ≤ 6 by omega)
    refine ⟨CI.rg ⟨fun i a b => ?_, fun i a b => ?_, fun i a b => ?_, fun i a b => ?_⟩, GJ.rg (GJ.su (hj.rem ql0 (by omega) (by omega) q2)), fun i a b => ?_⟩
    · rw [lyM_ne (by omega), remM_ne (by omega)]; exact hc.1 i a b
    · rw [lyM_ne (by omega)]
      by_cases hl : i = l
      · subst hl
        rw [remM_6, show lyM (remM V i x) i (V 7 i 6 - 1) 11 i = lyR (V 7 i 6 - 1) (remM V i x 11 i) from funext fun y => su_at]
        exact FI_ly (by omega)
      · rw [remM_ne (by omega), show lyM (remM V l x) l (V 7 l 6 - 1) 11 i = V 11 i from funext fun y => (lyM_ne (by omega)).trans (remM_ne (by omega))]; exact hc.2.1 i a b
    · rw [lyM_ne (by omega), lyM_ne (by omega), lyM_ne (by omega)]
      by_cases hl : i = l
      · subst hl
        rw [remM_6, remM_ne (by omega), remM_ne (by omega)]
        have := hc.2.2.1 i a b
        unfold Rst at this ⊢
        omega
      · rw [remM_ne (by omega), remM_ne (by omega), remM_ne (by omega)]; exact hc.2.2.1 i a b
    · rw [lyM_ne (by omega), remM_ne (by omega)]; exact hc.2.2.2 i a b
    · rw [rgM_ne (by omega), rgM_ne (by omega), lyM_ne (by omega), lyM_ne (by omega)]
      by_cases hl : i = l
      · subst hl
        rw [remM_6, remM_ne (by omega)]
        have := hm i a b
        omega
      · rw [remM_ne (by omega), remM_ne (by omega)]; exact hm i a b
  · exact h
theorem GI.al {V : Mm} (h : GI V) (l x v : Int) : GI (alM V l x v) := by
  unfold alM
  split
  · rename_i q
    obtain ⟨⟨⟨⟨ql0, ql3⟩, q1⟩, q2, q3⟩, q4⟩ := q
    obtain ⟨hc, hj, hm⟩ := h
    have hl := CI.lay (V := mu V 9 l x v) (i := l) (hc.to fun c a b z => mu_ne (by omega)) ql0 ql3
    rw [show mu V 9 l x v 7 l 6 = V 7 l 6 from mu_ne (by omega)] at hl
    refine ⟨hl.rg, GJ.rg (GJ.su (hj.lane l (fun c a b z => mu_ne (by omega)) (fun c a b z1 z2 => mu_ne (by omega)) (fun a b => ?_) (fun a b => ?_) (fun y a b c d => ?_))), fun i a b => ?_⟩
    · rw [mu_ne (by omega), show mu V 9 l x v 8 l = V 8 l from funext fun y => mu_ne (by omega)]; exact hj.1 l a b
    · rw [mu_ne (by omega)]; exact (hj.2.1 l a b).1
    · rw [show mu V 9 l x v 8 l y = V 8 l y from mu_ne (by omega)]
      refine ⟨(hj.2.2.1 l y a b c d).1, ?_⟩
      by_cases g : y = x
      · subst g; rw [mu_self]; exact q4
      · rw [mu_ne (by omega)]; exact (hj.2.2.1 l y a b c d).2
    · rw [rgM_ne (by omega), rgM_ne (by omega), lyM_ne (by omega), lyM_ne (by omega), mu_ne (by omega), mu_ne (by omega)]; exact hm i a b
  · exact h
-- what comes
theorem GI.k13 {V : Mm} (h : GI V) {l : Int} (h0 : 0 ≤ l) (h1 : l ≤ 3) : V 13 l 0 ≤ 3 := by
  rcases h.2.1.2.2.2.2.2.1 l h0 h1 with q | q
  · omega
  · exact q.2.1.1.2
theorem GJ.k13 {V : Mm} (h : GJ V) {l : Int} (h0 : 0 ≤ l) (h1 : l ≤ 3) : V 13 l 0 ≤ 3 := by
  rcases h.2.2.2.2.2.1 l h0 h1 with q | q
  · omega
  · exact q.2.1.1.2
/-- one that comes, with its gift -/
theorem GI_cm {V : Mm} {l t v : Int} (hc : CI V) (hj : GJ V) (h0 : 0 ≤ l) (h1 : l ≤ 3) (hf : ¬ fuV V l) (ht : 0 ≤ t ∧ t ≤ 100000) (hv : -1000 ≤ v ∧ v ≤ 1000) : CI (plM (gvM V l t) l t v) ∧ GJ (plM (gvM V l t) l t v) ∧ ∀ m y : Int, 4 ≤ m → plM (gvM V l t) l t v 7 m y = V 7 m y := by
  have hk := hj.k13 h0 h1
  have hg := hc.gv (i := l) (t := t)
  have e3 : gvM V l t 7 l 3 = V 7 l 3 := gv_7 hc h0 h1
  have e6 : gvM V l t 7 l 6 = V 7 l 6 := gv_7 hc h0 h1
  have hf2 : ¬ fuV (gvM V l t) l := by
    unfold fuV at hf ⊢
    rw [e3, e6]
    exact hf
  refine ⟨hg.pl h0 h1 hf2, (hj.gv hc h0 h1).pl h0 (by omega) (hg.h7 h0 (by omega)) ht hv, fun m y a => ?_⟩
  rw [plM_nx (by unfold PS; omega), gvM_nx (by unfold PS; omega) (by omega)]
theorem GI.co {V : Mm} (h : GI V) (l t v : Int) : GI (coM V l t v) := by
  unfold coM
  split
  · rename_i q
    obtain ⟨⟨⟨⟨ql0, ql3⟩, q1⟩, q2, q3⟩, q4, q5⟩ := q
    obtain ⟨hc, hj, hm⟩ := h
    have g := GI_cm hc hj ql0 ql3 q5 q2 q3
    refine ⟨g.1.nt, g.2.1.nt, GM.nt (fun m a b => ?_)⟩
    rw [g.2.2 m 6 a, g.2.2 m 15 a]
    exact hm m (by omega) b
  · exact h
theorem GI_bst {l s : Int} (h0 : 0 ≤ l) (h1 : l ≤ 3) : ∀ (n : Nat) {V : Mm} (v : Int), CI V → GJ V → V 7 l 10 + n ≤ 100000 → (V 7 l 3 = 1 ∨ V 7 l 6 + n ≤ 120) → (∀ i : Int, 0 ≤ i → i < n → -1000 ≤ v + i * s ∧ v + i * s ≤ 1000) → CI (bst l s n v V) ∧ GJ (bst l s n v V) ∧ ∀ m y : Int, 4 ≤ m → bst l s n v V 7 m y = V 7 m y
  | 0, _, _, hc, hj, _, _, _ => ⟨hc, hj, fun _ _ _ => rfl⟩
  | n + 1, V, v, hc, hj, ht, hh, hv => by
    have h10 := (hj.2.1 l h0 (by omega)).1
    have et : wr (V 7 l 10 + 1) = V 7 l 10 + 1 := wr_id ⟨by omega, by omega⟩
    have hv0 := hv 0 (by omega) (by omega)
    rw [Int.zero_mul, Int.add_zero] at hv0
    have g := GI_cm (t := V 7 l 10 + 1) (v := v) hc hj h0 h1 (by unfold fuV; omega) (by omega) hv0
    have hg := hc.gv (i := l) (t := V 7 l 10 + 1)
    have e10 : plM (gvM V l (V 7 l 10 + 1)) l (V 7 l 10 + 1) v 7 l 10 = V 7 l 10 + 1 := by
      rw [pl_10, gv_7 hc h0 h1]
      omega
    have e3 : plM (gvM V l (V 7 l 10 + 1)) l (V 7 l 10 + 1) v 7 l 3 = V 7 l 3 := (plM_nx (by unfold PS; omega)).trans (gv_7 hc h0 h1)
    have e6 := pl_6 hg (i := l) (t := V 7 l 10 + 1) (v := v) h0 h1
    rw [gv_7 hc h0 h1] at e6
    have ih := GI_bst (s := s) h0 h1 n (v + s) g.1 g.2.1 (by rw [e10]; omega) (by rw [e3]; omega) (fun i a b => by
      have := hv (i + 1) (by omega) (by omega)
      rw [Int.add_mul, Int.one_mul] at this
      omega)
    rw [bst_s, et]
    exact ⟨ih.1, ih.2.1, fun m y a => (ih.2.2 m y a).trans (g.2.2 m y a)⟩
theorem GI.bu {V : Mm} (h : GI V) (l m v s : Int) : GI (buM V l m v s) := by
  unfold buM
  split
  · rename_i q
    obtain ⟨⟨⟨ql0, ql3⟩, q1⟩, q2, q3, q4, q5, q6, q7⟩ := q
    obtain ⟨hc, hj, hm⟩ := h
    have h10 := (hj.2.1 l ql0 (by omega)).1
    rw [wr_id ⟨by omega, by omega⟩] at q6
    have g := GI_bst (s := s) ql0 ql3 m.toNat v hc hj (by omega) (by omega) (fun i a b => lin_btw (m := m - 1) a (by omega) q4 q5)
    refine ⟨g.1.nt, g.2.1.nt, GM.nt (fun i a b => ?_)⟩
    rw [g.2.2 i 6 a, g.2.2 i 15 a]
    exact hm i (by omega) b
  · exact h
-- B: the reference: gifts
theorem y_isLost {eb : Bool} {t : Int} {V : Mm} {d : Nat} {P : Option Vl → Mm → Prop} {σ : Mm} {l z : Int} (b_l : 0 ≤ l ∧ l ≤ 7) {σ0 : Mm} (ht : 6 ≤ t ∧ t ≤ 7) (hR : RS t σ0 V σ) (hl : l ≤ t)  (k1 : (0 ≤ V 7 l 10 ∧ z < wr (V 7 l 10 - V 7 l 5)) → P (some (vI 1)) σ) (k0 : ¬ (0 ≤ V 7 l 10 ∧ z < wr (V 7 l 10 - V 7 l 5)) → P (some (vI 0)) σ) : WT (true, eb, true) (d + 2) 202 [vR 30 0, vI l, vI z] σ P := by
  refine WT_in fun K hK => ?_
  have hK : StpY (true, eb, true) cX6_isLost RX6 (some .boolean) (WT (true, eb, true) (d + 1)) P K := hK
  have hM := hK.1
  have hC := hK.1.1
  show K 0 [some (vR 30 0), some (vI l), some (vI z)] [] σ
  refine r_rngz hC (fun g0 => ?_)
  have r_z : -2147483648 ≤ z ∧ z ≤ 2147483647 := inR_le (g0 (vI z) (by simp))
  refine r_aload_n hC dX6_isLost_0 rfl ?_
  refine r_iload_n hC dX6_isLost_1 rfl ?_
  refine r_bipush hC dX6_isLost_2 rfl ?_
  refine z_inv2 hM dX6_isLost_4 vl_RX6_80 rfl rfl rfl (Nat.le_of_ble_eq_true rfl) (Nat.le_of_ble_eq_true rfl) ?_
  refine y_of (by first | assumption | decide | exact xs_ (by decide) | exact xc_ (by decide) | exact x31_ (by decide) | omega) (by first | assumption | decide | exact xs_ (by decide) | exact xc_ (by decide) | exact x31_ (by decide) | omega) (by first | assumption | decide | exact xs_ (by decide) | exact xc_ (by decide) | exact x31_ (by decide) | omega) (fun o1 => ?_)
  have e2 : σ 31 0 (22 * l + 6) = (V 7 l 10) := (hR.1.a7 (s := 10) (f := 6) (by first | assumption | decide | exact xs_ (by decide) | exact xc_ (by decide) | exact x31_ (by decide) | omega) (by first | assumption | decide | exact xs_ (by decide) | exact xc_ (by decide) | exact x31_ (by decide) | omega) (by first | assumption | decide | exact xs_ (by decide) | exact xc_ (by decide) | exact x31_ (by decide) | omega)).trans (rfl)
  rw [e2] at o1 ⊢
  refine r_if_lt (tgt := 32) hC dX6_isLost_7 rfl (fun h3 => ?_) (fun h3 => ?_)
  · refine r_iconst hC dX6_isLost_32 rfl ?_
    refine y_zret hK rfl dX6_isLost_33 (by first | assumption | decide | exact xs_ (by decide) | exact xc_ (by decide) | exact x31_ (by decide) | omega) ?_
    exact k0 (by first | assumption | decide | exact xs_ (by decide) | exact xc_ (by decide) | exact x31_ (by decide) | omega)
  · refine r_iload_n hC dX6_isLost_10 rfl ?_
    refine r_aload_n hC dX6_isLost_11 rfl ?_
    refine r_iload_n hC dX6_isLost_12 rfl ?_
    refine r_bipush hC dX6_isLost_13 rfl ?_
    refine z_inv2 hM dX6_isLost_15 vl_RX6_80 rfl rfl rfl (Nat.le_of_ble_eq_true rfl) (Nat.le_of_ble_eq_true rfl) ?_
    refine y_of (by first | assumption | decide | exact xs_ (by decide) | exact xc_ (by decide) | exact x31_ (by decide) | omega) (by first | assumption | decide | exact xs_ (by decide) | exact xc_ (by decide) | exact x31_ (by decide) | omega) (by first | assumption | decide | exact xs_ (by decide) | exact xc_ (by decide) | exact x31_ (by decide) | omega) (fun o4 => ?_)
    have e5 : σ 31 0 (22 * l + 6) = (V 7 l 10) := (hR.1.a7 (s := 10) (f := 6) (by first | assumption | decide | exact xs_ (by decide) | exact xc_ (by decide) | exact x31_ (by decide) | omega) (by first | assumption | decide | exact xs_ (by decide) | exact xc_ (by decide) | exact x31_ (by decide) | omega) (by first | assumption | decide | exact xs_ (by decide) | exact xc_ (by decide) | exact x31_ (by decide) | omega)).trans (rfl)
    rw [e5] at o4 ⊢
    refine r_aload_n hC dX6_isLost_18 rfl ?_
    refine r_iload_n hC dX6_isLost_19 rfl ?_
    refine r_iconst hC dX6_isLost_20 rfl ?_
    refine z_inv2 hM dX6_isLost_21 vl_RX6_80 rfl rfl rfl (Nat.le_of_ble_eq_true rfl) (Nat.le_of_ble_eq_true rfl) ?_
    refine y_of (by first | assumption | decide | exact xs_ (by decide) | exact xc_ (by decide) | exact x31_ (by decide) | omega) (by first | assumption | decide | exact xs_ (by decide) | exact xc_ (by decide) | exact x31_ (by decide) | omega) (by first | assumption | decide | exact xs_ (by decide) | exact xc_ (by decide) | exact x31_ (by decide) | omega) (fun o6 => ?_)
    have e7 : σ 31 0 (22 * l + 4) = (V 7 l 5) := (hR.1.a7 (s := 5) (f := 4) (by first | assumption | decide | exact xs_ (by decide) | exact xc_ (by decide) | exact x31_ (by decide) | omega) (by first | assumption | decide | exact xs_ (by decide) | exact xc_ (by decide) | exact x31_ (by decide) | omega) (by first | assumption | decide | exact xs_ (by decide) | exact xc_ (by decide) | exact x31_ (by decide) | omega)).trans (rfl)
    rw [e7] at o6 ⊢
    refine r_isub hC dX6_isLost_24 ?_
    have f8 := inR_le (inR_wr ((V 7 l 10) - (V 7 l 5)))
    refine r_icmp_ge (tgt := 32) hC dX6_isLost_25 rfl (fun h9 => ?_) (fun h9 => ?_)
    · refine r_iconst hC dX6_isLost_32 rfl ?_
      refine y_zret hK rfl dX6_isLost_33 (by first | assumption | decide | exact xs_ (by decide) | exact xc_ (by decide) | exact x31_ (by decide) | omega) ?_
      exact k0 (by first | assumption | decide | exact xs_ (by decide) | exact xc_ (by decide) | exact x31_ (by decide) | omega)
    · refine r_iconst hC dX6_isLost_28 rfl ?_
      refine r_goto (tgt := 33) hC dX6_isLost_29 rfl ?_
      refine y_zret hK rfl dX6_isLost_33 (by first | assumption | decide | exact xs_ (by decide) | exact xc_ (by decide) | exact x31_ (by decide) | omega) ?_
      exact k1 (by first | assumption | decide | exact xs_ (by decide) | exact xc_ (by decide) | exact x31_ (by decide) | omega)
theorem y_isFull {eb : Bool} {t : Int} {V : Mm} {d : Nat} {P : Option Vl → Mm → Prop} {σ : Mm} {l : Int} (b_l : 0 ≤ l ∧ l ≤ 7) {σ0 : Mm} (ht : 6 ≤ t ∧ t ≤ 7) (hR : RS t σ0 V σ) (hl : l ≤ t)  (k1 : (V 7 l 3 ≠ 1 ∧ V 7 l 6 = 120) → P (some (vI 1)) σ) (k0 : ¬ (V 7 l 3 ≠ 1 ∧ V 7 l 6 = 120) → P (some (vI 0)) σ) : WT (true, eb, true) (d + 3) 203 [vR 30 0, vI l] σ P := by
  refine WT_in fun K hK => ?_
  have hK : StpY (true, eb, true) cX6_isFull RX6 (some .boolean) (WT (true, eb, true) (d + 2)) P K := hK
  have hM := hK.1
  have hC := hK.1.1
  show K 0 [some (vR 30 0), some (vI l)] [] σ
  refine r_aload_n hC dX6_isFull_0 rfl ?_
  refine r_iload_n hC dX6_isFull_1 rfl ?_
  refine r_iconst hC dX6_isFull_2 rfl ?_
  refine z_inv2 hM dX6_isFull_3 vl_RX6_80 rfl rfl rfl (Nat.le_of_ble_eq_true rfl) (Nat.le_of_ble_eq_true rfl) ?_
  refine y_of (by first | assumption | decide | exact xs_ (by decide) | exact xc_ (by decide) | exact x31_ (by decide) | omega) (by first | assumption | decide | exact xs_ (by decide) | exact xc_ (by decide) | exact x31_ (by decide) | omega) (by first | assumption | decide | exact xs_ (by decide) | exact xc_ (by decide) | exact x31_ (by decide) | omega) (fun o1 => ?_)
  have e2 : σ 31 0 (22 * l + 2) = (V 7 l 3) := (hR.1.a7 (s := 3) (f := 2) (by first | assumption | decide | exact xs_ (by decide) | exact xc_ (by decide) | exact x31_ (by decide) | omega) (by first | assumption | decide | exact xs_ (by decide) | exact xc_ (by decide) | exact x31_ (by decide) | omega) (by first | assumption | decide | exact xs_ (by decide) | exact xc_ (by decide) | exact x31_ (by decide) | omega)).trans (rfl)
  rw [e2] at o1 ⊢
  refine r_iconst hC dX6_isFull_6 rfl ?_
  refine r_icmp_eq (tgt := 24) hC dX6_isFull_7 rfl (fun h3 => ?_) (fun h3 => ?_)
  · refine r_iconst hC dX6_isFull_24 rfl ?_
    refine y_zret hK rfl dX6_isFull_25 (by first | assumption | decide | exact xs_ (by decide) | exact xc_ (by decide) | exact x31_ (by decide) | omega) ?_
    exact k0 (by first | assumption | decide | exact xs_ (by decide) | exact xc_ (by decide) | exact x31_ (by decide) | omega)
  · refine r_aload_n hC dX6_isFull_10 rfl ?_
    refine r_iload_n hC dX6_isFull_11 rfl ?_
    refine z_inv1 hM dX6_isFull_12 vl_RX6_116 rfl rfl rfl (Nat.le_of_ble_eq_true rfl) (Nat.le_of_ble_eq_true rfl) ?_
    refine y_heldOf (by first | assumption | decide | exact xs_ (by decide) | exact xc_ (by decide) | exact x31_ (by decide) | omega) (fun o4 => ?_)
    have e5 : σ 31 0 (22 * l + 5) = (V 7 l 6) := (hR.1.a7 (s := 6) (f := 5) (by first | assumption | decide | exact xs_ (by decide) | exact xc_ (by decide) | exact x31_ (by decide) | omega) (by first | assumption | decide | exact xs_ (by decide) | exact xc_ (by decide) | exact x31_ (by decide) | omega) (by first | assumption | decide | exact xs_ (by decide) | exact xc_ (by decide) | exact x31_ (by decide) | omega)).trans (rfl)
    rw [e5] at o4 ⊢
    have qo4 : 0 ≤ (V 7 l 6) ∧ (V 7 l 6) ≤ 121 := o4.1 (by first | assumption | decide | exact xs_ (by decide) | exact xc_ (by decide) | exact x31_ (by decide) | omega)
    refine r_bipush hC dX6_isFull_15 rfl ?_
    refine r_icmp_ne (tgt := 24) hC dX6_isFull_17 rfl (fun h6 => ?_) (fun h6 => ?_)
    · refine r_iconst hC dX6_isFull_24 rfl ?_
      refine y_zret hK rfl dX6_isFull_25 (by first | assumption | decide | exact xs_ (by decide) | exact xc_ (by decide) | exact x31_ (by decide) | omega) ?_
      exact k0 (by first | assumption | decide | exact xs_ (by decide) | exact xc_ (by decide) | exact x31_ (by decide) | omega)
    · refine r_iconst hC dX6_isFull_20 rfl ?_
      refine r_goto (tgt := 25) hC dX6_isFull_21 rfl ?_
      refine y_zret hK rfl dX6_isFull_25 (by first | assumption | decide | exact xs_ (by decide) | exact xc_ (by decide) | exact x31_ (by decide) | omega) ?_
      exact k1 (by first | assumption | decide | exact xs_ (by decide) | exact xc_ (by decide) | exact x31_ (by decide) | omega)
theorem lt_neg {a b z : Int} (ha : a = -1) (hb : 0 ≤ b ∧ b ≤ 10000) (hz : 0 ≤ z) : ¬ z < wr (a - b) := by
  rw [wr_id ⟨by omega, by omega⟩]
  omega
theorem y_comesFrom {eb : Bool} {t : Int} {V : Mm} {d : Nat} {P : Option Vl → Mm → Prop} {σ : Mm} {l f z w : Int} (b_l : 0 ≤ l ∧ l ≤ 7) (b_f : 0 ≤ f ∧ f ≤ 121) (b_z : -2147483648 ≤ z ∧ z ≤ 120) (b_w : 0 ≤ w ∧ w ≤ 6) {σ0 : Mm} (ht : 6 ≤ t ∧ t ≤ 7) (hR : RS t σ0 V σ) (hl : l ≤ t) (hL : LK V l) (hw : w < numF (V 7 l 2))  (k : ∀ ρ : Mm, RS t σ0 V ρ → P (some (vI (cm (V 16 0) (V 15 0) (V 7 l 2) (fun j => V 9 l (f + j)) (z + 1 - f).toNat w))) ρ) : WT (true, eb, true) (d + 5) 213 [vR 30 0, vI l, vI f, vI z, vI w] σ P := by
  refine WT_in fun K hK => ?_
  have hK : StpY (true, eb, true) cX6_comesFrom RX6 (some .int) (WT (true, eb, true) (d + 4)) P K := hK
  have hM := hK.1
  have hC := hK.1.1
  show K 0 [some (vR 30 0), some (vI l), some (vI f), some (vI z), some (vI w)] [] σ
  have hop := hL.1
  have h6 := hL.2.1
  have hBd_ : Bd (fun j => V 9 l (f + j)) (0 + (z + 1 - f).toNat) := fun j a b => hL.2.2.1 (f + j) (by first | assumption | decide | exact xs_ (by decide) | exact xc_ (by decide) | exact x31_ (by decide) | omega) (by first | assumption | decide | exact xs_ (by decide) | exact xc_ (by decide) | exact x31_ (by decide) | omega)
  refine r_aload_n hC dX6_comesFrom_0 rfl ?_
  refine z_inv0 hM dX6_comesFrom_1 vl_RX6_113 rfl rfl rfl (Nat.le_of_ble_eq_true rfl) (Nat.le_of_ble_eq_true rfl) ?_
  refine y_clearRow ?_
  obtain ⟨ρ1, e_ρ1⟩ : ∃ zz_, zz_ = mu σ 30 0 8 0 := ⟨_, rfl⟩
  rw [← e_ρ1]
  have n_ρ1 : ∀ u : Int → Int, RWP ρ1 u 0 := fun u => RWP.nil (by rw [e_ρ1]; exact mu_self _ _ _ _ _)
  have Rρ1 : RS t σ0 V ρ1 := RS.mk2 hR.1 hR.2.1 hR.2.2 (fun c p q h => by rw [e_ρ1]; exact mu_ne (by first | assumption | decide | exact xs_ (by decide) | exact xc_ (by decide) | exact x31_ (by decide) | omega))
  refine r_aload_n hC dX6_comesFrom_4 rfl ?_
  refine r_iload_n hC dX6_comesFrom_5 rfl ?_
  refine r_iload_n hC dX6_comesFrom_6 rfl ?_
  refine r_iload_n hC dX6_comesFrom_7 rfl ?_
  refine z_inv3 hM dX6_comesFrom_8 vl_RX6_120 rfl rfl rfl (Nat.le_of_ble_eq_true rfl) (Nat.le_of_ble_eq_true rfl) ?_
  refine y_putFrom (n := 0) (u := (fun j => V 9 l (f + j))) (by first | assumption | decide | exact xs_ (by decide) | exact xc_ (by decide) | exact x31_ (by decide) | omega) (by first | assumption | decide | exact xs_ (by decide) | exact xc_ (by decide) | exact x31_ (by decide) | omega) (by first | assumption | decide | exact xs_ (by decide) | exact xc_ (by decide) | exact x31_ (by decide) | omega) (by first | assumption | decide | exact xs_ (by decide) | exact xc_ (by decide) | exact x31_ (by decide) | omega) (by first | assumption | decide | exact xs_ (by decide) | exact xc_ (by decide) | exact x31_ (by decide) | omega) (n_ρ1 (fun j => V 9 l (f + j))) (fun j a b => by show V 9 l (f + (((0 : Nat) : Int) + (j - f))) = _; rw [show f + (((0 : Nat) : Int) + (j - f)) = j from by omega]; exact (Rρ1.1.a9 (y := j) (by first | assumption | decide | exact xs_ (by decide) | exact xc_ (by decide) | exact x31_ (by decide) | omega) (by first | assumption | decide | exact xs_ (by decide) | exact xc_ (by decide) | exact x31_ (by decide) | omega) (by first | assumption | decide | exact xs_ (by decide) | exact xc_ (by decide) | exact x31_ (by decide) | omega) (by first | assumption | decide | exact xs_ (by decide) | exact xc_ (by decide) | exact x31_ (by decide) | omega)).symm) (fun ρ2 g_ρ2 w_ρ2 => ?_)
  have Rρ2 : RS t σ0 V ρ2 := RS.mk2 Rρ1.1 Rρ1.2.1 Rρ1.2.2 (fun c p q h => g_ρ2 c p q (by first | assumption | decide | exact xs_ (by decide) | exact xc_ (by decide) | exact x31_ (by decide) | omega))
  refine r_aload_n hC dX6_comesFrom_11 rfl ?_
  refine r_aload_n hC dX6_comesFrom_12 rfl ?_
  refine r_iload_n hC dX6_comesFrom_13 rfl ?_
  refine r_iconst hC dX6_comesFrom_14 rfl ?_
  refine z_inv2 hM dX6_comesFrom_15 vl_RX6_80 rfl rfl rfl (Nat.le_of_ble_eq_true rfl) (Nat.le_of_ble_eq_true rfl) ?_
  refine y_of (by first | assumption | decide | exact xs_ (by decide) | exact xc_ (by decide) | exact x31_ (by decide) | omega) (by first | assumption | decide | exact xs_ (by decide) | exact xc_ (by decide) | exact x31_ (by decide) | omega) (by first | assumption | decide | exact xs_ (by decide) | exact xc_ (by decide) | exact x31_ (by decide) | omega) (fun o3 => ?_)
  have e4 : ρ2 31 0 (22 * l + 1) = (V 7 l 2) := (Rρ2.1.a7 (s := 2) (f := 1) (by first | assumption | decide | exact xs_ (by decide) | exact xc_ (by decide) | exact x31_ (by decide) | omega) (by first | assumption | decide | exact xs_ (by decide) | exact xc_ (by decide) | exact x31_ (by decide) | omega) (by first | assumption | decide | exact xs_ (by decide) | exact xc_ (by decide) | exact x31_ (by decide) | omega)).trans (rfl)
  rw [e4] at o3 ⊢
  refine r_iload hC dX6_comesFrom_18 rfl ?_
  refine z_inv2 hM dX6_comesFrom_20 vl_RX6_197 rfl rfl rfl (Nat.le_of_ble_eq_true rfl) (Nat.le_of_ble_eq_true rfl) ?_
  refine y_comes (n := (0 + (z + 1 - f).toNat)) (u := (fun j => V 9 l (f + j))) (by first | assumption | decide | exact xs_ (by decide) | exact xc_ (by decide) | exact x31_ (by decide) | omega) (by first | assumption | decide | exact xs_ (by decide) | exact xc_ (by decide) | exact x31_ (by decide) | omega) (by first | assumption | decide | exact xs_ (by decide) | exact xc_ (by decide) | exact x31_ (by decide) | omega) (by first | assumption | decide | exact xs_ (by decide) | exact xc_ (by decide) | exact x31_ (by decide) | omega) w_ρ2 hBd_ (fun ρ5 g_ρ5 => ?_)
  rw [cm_t (fun j a b => Rρ2.1.t16 a b) (fun j a b => Rρ2.1.t15 a b) (fun j a b => by rw [Rρ2.1.t15 a (by first | assumption | decide | exact xs_ (by decide) | exact xc_ (by decide) | exact x31_ (by decide) | omega)]; exact hL.2.2.2.1 j a b)]
  have Rρ5 : RS t σ0 V ρ5 := RS.mk2 Rρ2.1 Rρ2.2.1 Rρ2.2.2 (fun c p q h => g_ρ5 c p q (by first | assumption | decide | exact xs_ (by decide) | exact xc_ (by decide) | exact x31_ (by decide) | omega))
  refine y_iret hK rfl dX6_comesFrom_23 ?_
  have hv : (cm (V 16 0) (V 15 0) (V 7 l 2) (fun j => V 9 l (f + j)) (z + 1 - f).toNat w) = (cm (V 16 0) (V 15 0) (V 7 l 2) (fun j => V 9 l (f + j)) (0 + (z + 1 - f).toNat) w) := by rw [Nat.zero_add]
  rw [hv] at k
  exact k _ ⟨Rρ5.1, Rρ5.2.1, Rρ5.2.2⟩
theorem y_give {eb : Bool} {t : Int} {V : Mm} {d : Nat} {P : Option Vl → Mm → Prop} {σ : Mm} {l z : Int} (b_l : 0 ≤ l ∧ l ≤ 3) (b_z : -2147483648 ≤ z ∧ z ≤ 2147483647) {σ0 : Mm} (ht : 6 ≤ t ∧ t ≤ 7) (hR : RS t σ0 V σ) (hCI : CI V) (hJ : GJ V)  (k : ∀ ρ : Mm, RS t σ0 (gvM V l z) ρ → P none ρ) : WT (true, eb, true) (d + 10) 204 [vR 30 0, vI l, vI z] σ P := by
  refine WT_in fun K hK => ?_
  have hK : StpY (true, eb, true) cX6_give RX6 (none) (WT (true, eb, true) (d + 9)) P K := hK
  have hM := hK.1
  have hC := hK.1.1
  show K 0 [some (vR 30 0), some (vI l), some (vI z), none, none, none, none, none] [] σ
  have h6 := hCI.h7 (l := l) (by first | assumption | decide | exact xs_ (by decide) | exact xc_ (by decide) | exact x31_ (by decide) | omega) (by first | assumption | decide | exact xs_ (by decide) | exact xc_ (by decide) | exact x31_ (by decide) | omega)
  have hLl := hJ.lk hCI (l := l) (by first | assumption | decide | exact xs_ (by decide) | exact xc_ (by decide) | exact x31_ (by decide) | omega) (by first | assumption | decide | exact xs_ (by decide) | exact xc_ (by decide) | exact x31_ (by decide) | omega)
  have hlk := hJ.2.2.2.2.2.1 l (by first | assumption | decide | exact xs_ (by decide) | exact xc_ (by decide) | exact x31_ (by decide) | omega) (by first | assumption | decide | exact xs_ (by decide) | exact xc_ (by decide) | exact x31_ (by decide) | omega)
  unfold opV at hlk
  have hlk2 : ¬ V 13 l 0 = -1 → 0 ≤ V 13 l 2 ∧ V 13 l 2 < numF (V 7 l 2) := fun q => by rcases hlk with z | z; exact absurd z q; exact z.2.2.2.2
  refine r_aload_n hC dX6_give_0 rfl ?_
  refine z_getR hM dX6_give_1 fl_RX6_52 rfl rfl (vld_of (n := 1) rfl (by first | assumption | decide | exact xs_ (by decide) | exact xc_ (by decide) | exact x31_ (by decide) | omega) (by first | assumption | decide | exact xs_ (by decide) | exact xc_ (by decide) | exact x31_ (by decide) | omega)) ?_
  refine r_iload_n hC dX6_give_4 rfl ?_
  refine z_iald hM dX6_give_5 rfl (by first | assumption | decide | exact xs_ (by decide) | exact xc_ (by decide) | exact x31_ (by decide) | omega) (by first | assumption | decide | exact xs_ (by decide) | exact xc_ (by decide) | exact x31_ (by decide) | omega) (fun v1 h_v1 o_v1 t_v1 => ?_)
  have w_v1 := ((t_v1 (Or.inl (by simp [Tb]))).trans ((hR.1.k0 (by first | assumption | decide | exact xs_ (by decide) | exact xc_ (by decide) | exact x31_ (by decide) | omega) (by first | assumption | decide | exact xs_ (by decide) | exact xc_ (by decide) | exact x31_ (by decide) | omega)).trans (rfl))).symm
  subst w_v1
  have q_v1 : -1 ≤ (V 13 l 0) ∧ (V 13 l 0) ≤ 3 := o_v1
  refine r_if_lt (tgt := 17) hC dX6_give_6 rfl (fun h2 => ?_) (fun h2 => ?_)
  · refine y_vret hK rfl dX6_give_17 ?_
    have hm : gvM V l z = V := if_neg (fun q => by have q1 := q.1; have q2 := q.2.1; have q3 := q.2.2.1; have q4 := q.2.2.2.1; have q5 := q.2.2.2.2.1; have q6 := q.2.2.2.2.2; unfold fuV at *; unfold ltV at *; omega)
    rw [hm] at k
    exact k _ ⟨hR.1, hR.2.1, hR.2.2⟩
  · refine r_aload_n hC dX6_give_9 rfl ?_
    refine r_iload_n hC dX6_give_10 rfl ?_
    refine z_inv1 hM dX6_give_11 vl_RX6_116 rfl rfl rfl (Nat.le_of_ble_eq_true rfl) (Nat.le_of_ble_eq_true rfl) ?_
    refine y_heldOf (by first | assumption | decide | exact xs_ (by decide) | exact xc_ (by decide) | exact x31_ (by decide) | omega) (fun o3 => ?_)
    have e4 : σ 31 0 (22 * l + 5) = (V 7 l 6) := (hR.1.a7 (s := 6) (f := 5) (by first | assumption | decide | exact xs_ (by decide) | exact xc_ (by decide) | exact x31_ (by decide) | omega) (by first | assumption | decide | exact xs_ (by decide) | exact xc_ (by decide) | exact x31_ (by decide) | omega) (by first | assumption | decide | exact xs_ (by decide) | exact xc_ (by decide) | exact x31_ (by decide) | omega)).trans (rfl)
    rw [e4] at o3 ⊢
    have qo3 : 0 ≤ (V 7 l 6) ∧ (V 7 l 6) ≤ 121 := o3.1 (by first | assumption | decide | exact xs_ (by decide) | exact xc_ (by decide) | exact x31_ (by decide) | omega)
    refine r_if_ne (tgt := 18) hC dX6_give_14 rfl (fun h5 => ?_) (fun h5 => ?_)
    · refine r_aload_n hC dX6_give_18 rfl ?_
      refine r_iload_n hC dX6_give_19 rfl ?_
      refine z_inv1 hM dX6_give_20 vl_RX6_116 rfl rfl rfl (Nat.le_of_ble_eq_true rfl) (Nat.le_of_ble_eq_true rfl) ?_
      refine y_heldOf (by first | assumption | decide | exact xs_ (by decide) | exact xc_ (by decide) | exact x31_ (by decide) | omega) (fun o6 => ?_)
      have e7 : σ 31 0 (22 * l + 5) = (V 7 l 6) := (hR.1.a7 (s := 6) (f := 5) (by first | assumption | decide | exact xs_ (by decide) | exact xc_ (by decide) | exact x31_ (by decide) | omega) (by first | assumption | decide | exact xs_ (by decide) | exact xc_ (by decide) | exact x31_ (by decide) | omega) (by first | assumption | decide | exact xs_ (by decide) | exact xc_ (by decide) | exact x31_ (by decide) | omega)).trans (rfl)
      rw [e7] at o6 ⊢
      have qo6 : 0 ≤ (V 7 l 6) ∧ (V 7 l 6) ≤ 121 := o6.1 (by first | assumption | decide | exact xs_ (by decide) | exact xc_ (by decide) | exact x31_ (by decide) | omega)
      refine r_iconst hC dX6_give_23 rfl ?_
      refine r_isubE hC (((V 7 l 6) - 1)) dX6_give_24 (by first | assumption | decide | exact xs_ (by decide) | exact xc_ (by decide) | exact x31_ (by decide) | omega) (by unfold inR; omega) ?_
      refine r_istore_n hC dX6_give_25 rfl ?_
      refine r_aload_n hC dX6_give_26 rfl ?_
      refine z_getR hM dX6_give_27 fl_RX6_13 rfl rfl (vld_of (n := 1) rfl (by first | assumption | decide | exact xs_ (by decide) | exact xc_ (by decide) | exact x31_ (by decide) | omega) (by first | assumption | decide | exact xs_ (by decide) | exact xc_ (by decide) | exact x31_ (by decide) | omega)) ?_
      refine r_bipush hC dX6_give_30 rfl ?_
      refine r_iload_n hC dX6_give_32 rfl ?_
      refine r_imulE hC ((121 * l)) dX6_give_33 (by first | assumption | decide | exact xs_ (by decide) | exact xc_ (by decide) | exact x31_ (by decide) | omega) (by unfold inR; omega) ?_
      refine r_iload_n hC dX6_give_34 rfl ?_
      refine r_iaddE hC (((121 * l) + ((V 7 l 6) - 1))) dX6_give_35 (by first | assumption | decide | exact xs_ (by decide) | exact xc_ (by decide) | exact x31_ (by decide) | omega) (by unfold inR; omega) ?_
      refine z_iald hM dX6_give_36 rfl (by first | assumption | decide | exact xs_ (by decide) | exact xc_ (by decide) | exact x31_ (by decide) | omega) (by first | assumption | decide | exact xs_ (by decide) | exact xc_ (by decide) | exact x31_ (by decide) | omega) (fun v8 h_v8 o_v8 t_v8 => ?_)
      have w_v8 := ((t_v8 (Or.inl trivial)).trans ((show σ 32 0 ((121 * l) + ((V 7 l 6) - 1)) = V 8 l ((V 7 l 6) - 1) from by rw [show ((121 * l) + ((V 7 l 6) - 1)) = 121 * l + ((V 7 l 6) - 1) from by omega]; exact hR.1.a8 (y := ((V 7 l 6) - 1)) (by first | assumption | decide | exact xs_ (by decide) | exact xc_ (by decide) | exact x31_ (by decide) | omega) (by first | assumption | decide | exact xs_ (by decide) | exact xc_ (by decide) | exact x31_ (by decide) | omega) (by first | assumption | decide | exact xs_ (by decide) | exact xc_ (by decide) | exact x31_ (by decide) | omega) (by first | assumption | decide | exact xs_ (by decide) | exact xc_ (by decide) | exact x31_ (by decide) | omega)).trans (rfl))).symm
      subst w_v8
      have hwhen := (hJ.2.2.1 l (V 7 l 6 - 1) (by first | assumption | decide | exact xs_ (by decide) | exact xc_ (by decide) | exact x31_ (by decide) | omega) (by first | assumption | decide | exact xs_ (by decide) | exact xc_ (by decide) | exact x31_ (by decide) | omega) (by first | assumption | decide | exact xs_ (by decide) | exact xc_ (by decide) | exact x31_ (by decide) | omega) (by first | assumption | decide | exact xs_ (by decide) | exact xc_ (by decide) | exact x31_ (by decide) | omega)).1
      have hbo := hJ.2.1 (V 13 l 0) (by first | assumption | decide | exact xs_ (by decide) | exact xc_ (by decide) | exact x31_ (by decide) | omega) (by first | assumption | decide | exact xs_ (by decide) | exact xc_ (by decide) | exact x31_ (by decide) | omega)
      have hnl : V 7 (V 13 l 0) 10 = -1 → ¬ V 8 l (V 7 l 6 - 1) < wr (V 7 (V 13 l 0) 10 - V 7 (V 13 l 0) 5) := fun q => lt_neg q (by first | assumption | decide | exact xs_ (by decide) | exact xc_ (by decide) | exact x31_ (by decide) | omega) (by first | assumption | decide | exact xs_ (by decide) | exact xc_ (by decide) | exact x31_ (by decide) | omega)
      refine r_istore hC dX6_give_37 rfl ?_
      refine r_iload_n hC dX6_give_39 rfl ?_
      refine r_iload hC dX6_give_40 rfl ?_
      refine r_isub hC dX6_give_42 ?_
      have f9 := inR_le (inR_wr (z - (V 8 l ((V 7 l 6) - 1))))
      refine r_aload_n hC dX6_give_43 rfl ?_
      refine z_getR hM dX6_give_44 fl_RX6_55 rfl rfl (vld_of (n := 1) rfl (by first | assumption | decide | exact xs_ (by decide) | exact xc_ (by decide) | exact x31_ (by decide) | omega) (by first | assumption | decide | exact xs_ (by decide) | exact xc_ (by decide) | exact x31_ (by decide) | omega)) ?_
      refine r_iload_n hC dX6_give_47 rfl ?_
      refine z_iald hM dX6_give_48 rfl (by first | assumption | decide | exact xs_ (by decide) | exact xc_ (by decide) | exact x31_ (by decide) | omega) (by first | assumption | decide | exact xs_ (by decide) | exact xc_ (by decide) | exact x31_ (by decide) | omega) (fun v10 h_v10 o_v10 t_v10 => ?_)
      have w_v10 := ((t_v10 (Or.inl (by simp [Tb]))).trans ((hR.1.k1 (by first | assumption | decide | exact xs_ (by decide) | exact xc_ (by decide) | exact x31_ (by decide) | omega) (by first | assumption | decide | exact xs_ (by decide) | exact xc_ (by decide) | exact x31_ (by decide) | omega)).trans (rfl))).symm
      subst w_v10
      refine r_icmp_gt (tgt := 53) hC dX6_give_49 rfl (fun h11 => ?_) (fun h11 => ?_)
      · refine r_iload_n hC dX6_give_53 rfl ?_
        refine r_istore hC dX6_give_54 rfl ?_
        have L56 : ∀ (n56 : Nat) (w12 : Int), 0 ≤ w12 ∧ w12 ≤ 120 → (ses (V 8 l) (V 13 l 1) ((w12)).toNat = ses (V 8 l) (V 13 l 1) (V 7 l 6 - 1).toNat) → w12 - 0 < (n56 : Int) → K 56 [some (vR 30 0), some (vI l), some (vI z), some (vI ((V 7 l 6) - 1)), some (vI (V 8 l ((V 7 l 6) - 1))), some (vI w12), none, none] [] σ := by
          intro n56
          induction n56 with
          | zero => intro w12  f_w12 i0_56 hm  ; omega
          | succ n56 ih56 =>
            intro w12  f_w12 i0_56 hm56  
            refine r_iload hC dX6_give_56 rfl ?_
            refine r_if_le (tgt := 103) hC dX6_give_58 rfl (fun h13 => ?_) (fun h13 => ?_)
            · have hs_ : ses (V 8 l) (V 13 l 1) (V 7 l 6 - 1).toNat = w12 := by rw [← i0_56]; first | exact ses_0 (by first | assumption | decide | exact xs_ (by decide) | exact xc_ (by decide) | exact x31_ (by decide) | omega) | exact ses_yes (by first | assumption | decide | exact xs_ (by decide) | exact xc_ (by decide) | exact x31_ (by decide) | omega) (by first | assumption | decide | exact xs_ (by decide) | exact xc_ (by decide) | exact x31_ (by decide) | omega)
              refine r_aload_n hC dX6_give_103 rfl ?_
              refine r_iload_n hC dX6_give_104 rfl ?_
              refine r_iload hC dX6_give_105 rfl ?_
              refine r_iload_n hC dX6_give_107 rfl ?_
              refine r_aload_n hC dX6_give_108 rfl ?_
              refine z_getR hM dX6_give_109 fl_RX6_58 rfl rfl (vld_of (n := 1) rfl (by first | assumption | decide | exact xs_ (by decide) | exact xc_ (by decide) | exact x31_ (by decide) | omega) (by first | assumption | decide | exact xs_ (by decide) | exact xc_ (by decide) | exact x31_ (by decide) | omega)) ?_
              refine r_iload_n hC dX6_give_112 rfl ?_
              refine z_iald hM dX6_give_113 rfl (by first | assumption | decide | exact xs_ (by decide) | exact xc_ (by decide) | exact x31_ (by decide) | omega) (by first | assumption | decide | exact xs_ (by decide) | exact xc_ (by decide) | exact x31_ (by decide) | omega) (fun v14 h_v14 o_v14 t_v14 => ?_)
              have w_v14 := ((t_v14 (Or.inl (by simp [Tb]))).trans ((hR.1.k2 (by first | assumption | decide | exact xs_ (by decide) | exact xc_ (by decide) | exact x31_ (by decide) | omega) (by first | assumption | decide | exact xs_ (by decide) | exact xc_ (by decide) | exact x31_ (by decide) | omega)).trans (rfl))).symm
              subst w_v14
              have q_v14 : 0 ≤ (V 13 l 2) ∧ (V 13 l 2) ≤ 6 := o_v14
              refine z_inv4 hM dX6_give_114 vl_RX6_243 rfl rfl rfl (Nat.le_of_ble_eq_true rfl) (Nat.le_of_ble_eq_true rfl) ?_
              have hw_ := hlk2 (by first | assumption | decide | exact xs_ (by decide) | exact xc_ (by decide) | exact x31_ (by decide) | omega)
              have hwN := numF_rng (V 7 l 2)
              refine y_comesFrom (V := V) (by first | assumption | decide | exact xs_ (by decide) | exact xc_ (by decide) | exact x31_ (by decide) | omega) (by first | assumption | decide | exact xs_ (by decide) | exact xc_ (by decide) | exact x31_ (by decide) | omega) (by first | assumption | decide | exact xs_ (by decide) | exact xc_ (by decide) | exact x31_ (by decide) | omega) (by first | assumption | decide | exact xs_ (by decide) | exact xc_ (by decide) | exact x31_ (by decide) | omega) ht ⟨hR.1, hR.2.1, hR.2.2⟩ (by first | assumption | decide | exact xs_ (by decide) | exact xc_ (by decide) | exact x31_ (by decide) | omega) hLl (by first | assumption | decide | exact xs_ (by decide) | exact xc_ (by decide) | exact x31_ (by decide) | omega) (fun ρ15 Rρ15 => ?_)
              refine r_istore hC dX6_give_117 rfl ?_
              refine r_iload hC dX6_give_119 rfl ?_
              refine r_ldc hC dX6_give_121 co_RX6_160 rfl ?_
              refine r_icmp_ne (tgt := 127) hC dX6_give_123 rfl (fun h16 => ?_) (fun h16 => ?_)
              · refine r_aload_n hC dX6_give_127 rfl ?_
                refine z_getR hM dX6_give_128 fl_RX6_52 rfl rfl (vld_of (n := 1) rfl (by first | assumption | decide | exact xs_ (by decide) | exact xc_ (by decide) | exact x31_ (by decide) | omega) (by first | assumption | decide | exact xs_ (by decide) | exact xc_ (by decide) | exact x31_ (by decide) | omega)) ?_
                refine r_iload_n hC dX6_give_131 rfl ?_
                refine z_iald hM dX6_give_132 rfl (by first | assumption | decide | exact xs_ (by decide) | exact xc_ (by decide) | exact x31_ (by decide) | omega) (by first | assumption | decide | exact xs_ (by decide) | exact xc_ (by decide) | exact x31_ (by decide) | omega) (fun v17 h_v17 o_v17 t_v17 => ?_)
                have w_v17 := ((t_v17 (Or.inl (by simp [Tb]))).trans ((Rρ15.1.k0 (by first | assumption | decide | exact xs_ (by decide) | exact xc_ (by decide) | exact x31_ (by decide) | omega) (by first | assumption | decide | exact xs_ (by decide) | exact xc_ (by decide) | exact x31_ (by decide) | omega)).trans (rfl))).symm
                subst w_v17
                have q_v17 : -1 ≤ (V 13 l 0) ∧ (V 13 l 0) ≤ 3 := o_v17
                refine r_istore hC dX6_give_133 rfl ?_
                refine r_aload_n hC dX6_give_135 rfl ?_
                refine r_iload hC dX6_give_136 rfl ?_
                refine r_iload hC dX6_give_138 rfl ?_
                refine z_inv2 hM dX6_give_140 vl_RX6_247 rfl rfl rfl (Nat.le_of_ble_eq_true rfl) (Nat.le_of_ble_eq_true rfl) ?_
                refine y_isLost (V := V) (by first | assumption | decide | exact xs_ (by decide) | exact xc_ (by decide) | exact x31_ (by decide) | omega) ht ⟨Rρ15.1, Rρ15.2.1, Rρ15.2.2⟩ (by first | assumption | decide | exact xs_ (by decide) | exact xc_ (by decide) | exact x31_ (by decide) | omega) (fun h18 => ?_) (fun h18 => ?_)
                · refine r_if_eq (tgt := 156) hC dX6_give_143 rfl (fun h19 => by omega) (fun h19 => ?_)
                  refine r_aload_n hC dX6_give_146 rfl ?_
                  refine r_iload hC dX6_give_147 rfl ?_
                  refine r_bipush hC dX6_give_149 rfl ?_
                  refine r_iconst hC dX6_give_151 rfl ?_
                  refine z_inv3 hM dX6_give_152 vl_RX6_188 rfl rfl rfl (Nat.le_of_ble_eq_true rfl) (Nat.le_of_ble_eq_true rfl) ?_
                  refine y_moreG (by first | assumption | decide | exact xs_ (by decide) | exact xc_ (by decide) | exact x31_ (by decide) | omega) ?_
                  refine y_vret hK rfl dX6_give_155 ?_
                  have hm : gvM V l z = V := if_neg (fun q => by have q1 := q.1; have q2 := q.2.1; have q3 := q.2.2.1; have q4 := q.2.2.2.1; have q5 := q.2.2.2.2.1; have q6 := q.2.2.2.2.2; unfold gvN at q5; rw [hs_, show (V 7 l 6 - w12).toNat = (V 7 l 6 - 1 + 1 - w12).toNat from by omega] at q5; unfold NO at q5; unfold fuV at *; unfold ltV at *; omega)
                  rw [hm] at k
                  exact k _ ⟨Rρ15.1, Rρ15.2.1, Rρ15.2.2⟩
                · refine r_if_eq (tgt := 156) hC dX6_give_143 rfl (fun h20 => ?_) (fun h20 => by omega)
                  refine r_aload_n hC dX6_give_156 rfl ?_
                  refine r_iload hC dX6_give_157 rfl ?_
                  refine z_inv1 hM dX6_give_159 vl_RX6_250 rfl rfl rfl (Nat.le_of_ble_eq_true rfl) (Nat.le_of_ble_eq_true rfl) ?_
                  refine y_isFull (V := V) (by first | assumption | decide | exact xs_ (by decide) | exact xc_ (by decide) | exact x31_ (by decide) | omega) ht ⟨Rρ15.1, Rρ15.2.1, Rρ15.2.2⟩ (by first | assumption | decide | exact xs_ (by decide) | exact xc_ (by decide) | exact x31_ (by decide) | omega) (fun h21 => ?_) (fun h21 => ?_)
                  · refine r_if_eq (tgt := 166) hC dX6_give_162 rfl (fun h22 => by omega) (fun h22 => ?_)
                    refine y_vret hK rfl dX6_give_165 ?_
                    have hm : gvM V l z = V := if_neg (fun q => by have q1 := q.1; have q2 := q.2.1; have q3 := q.2.2.1; have q4 := q.2.2.2.1; have q5 := q.2.2.2.2.1; have q6 := q.2.2.2.2.2; unfold gvN at q5; rw [hs_, show (V 7 l 6 - w12).toNat = (V 7 l 6 - 1 + 1 - w12).toNat from by omega] at q5; unfold NO at q5; unfold fuV at *; unfold ltV at *; omega)
                    rw [hm] at k
                    exact k _ ⟨Rρ15.1, Rρ15.2.1, Rρ15.2.2⟩
                  · refine r_if_eq (tgt := 166) hC dX6_give_162 rfl (fun h23 => ?_) (fun h23 => by omega)
                    refine r_aload_n hC dX6_give_166 rfl ?_
                    refine z_getR hM dX6_give_167 fl_RX6_61 rfl rfl (vld_of (n := 1) rfl (by first | assumption | decide | exact xs_ (by decide) | exact xc_ (by decide) | exact x31_ (by decide) | omega) (by first | assumption | decide | exact xs_ (by decide) | exact xc_ (by decide) | exact x31_ (by decide) | omega)) ?_
                    refine r_iload_n hC dX6_give_170 rfl ?_
                    refine r_dup2 hC dX6_give_171 rfl rfl ?_
                    refine z_iald hM dX6_give_172 rfl (by first | assumption | decide | exact xs_ (by decide) | exact xc_ (by decide) | exact x31_ (by decide) | omega) (by first | assumption | decide | exact xs_ (by decide) | exact xc_ (by decide) | exact x31_ (by decide) | omega) (fun v24 h_v24 o_v24 t_v24 => ?_)
                    have w_v24 := ((t_v24 (Or.inl (by simp [Tb]))).trans ((Rρ15.1.k3 (by first | assumption | decide | exact xs_ (by decide) | exact xc_ (by decide) | exact x31_ (by decide) | omega) (by first | assumption | decide | exact xs_ (by decide) | exact xc_ (by decide) | exact x31_ (by decide) | omega)).trans (rfl))).symm
                    subst w_v24
                    refine r_iconst hC dX6_give_173 rfl ?_
                    refine r_iadd hC dX6_give_174 ?_
                    have f25 := inR_le (inR_wr ((V 13 l 3) + 1))
                    refine z_iastT hM dX6_give_175 rfl (by first | assumption | decide | exact xs_ (by decide) | exact xc_ (by decide) | exact x31_ (by decide) | omega) (by first | assumption | decide | exact xs_ (by decide) | exact xc_ (by decide) | exact x31_ (by decide) | omega) ⟨Or.inr (by simp [DL]), Or.inr (by simp [DF])⟩ (by first | trivial | (simp only [Okv]; omega) | (simp [Okv]; try omega)) ?_
                    obtain ⟨ρ26, e_ρ26⟩ : ∃ zz_, zz_ = mu ρ15 48 0 l (wr ((V 13 l 3) + 1)) := ⟨_, rfl⟩
                    rw [← e_ρ26]
                    have Sρ26 : SB t σ0 (mu V 13 l 3 (wr ((V 13 l 3) + 1))) ρ26 := by rw [e_ρ26]; exact Rρ15.1.pk3 (by first | assumption | decide | exact xs_ (by decide) | exact xc_ (by decide) | exact x31_ (by decide) | omega) (by first | assumption | decide | exact xs_ (by decide) | exact xc_ (by decide) | exact x31_ (by decide) | omega)
                    have Kρ26 : KF t (mu V 13 l 3 (wr ((V 13 l 3) + 1))) ρ26 := by rw [e_ρ26]; exact (Rρ15.2.1).e (fun l a b => ⟨mu_ne (by first | assumption | decide | exact xs_ (by decide) | exact xc_ (by decide) | exact x31_ (by decide) | omega), mu_ne (by first | assumption | decide | exact xs_ (by decide) | exact xc_ (by decide) | exact x31_ (by decide) | omega)⟩) |>.v (fun l => mu_ne (by first | assumption | decide | exact xs_ (by decide) | exact xc_ (by decide) | exact x31_ (by decide) | omega))
                    have Fρ26 : FB (mu V 13 l 3 (wr ((V 13 l 3) + 1))) ρ26 := by rw [e_ρ26]; exact (Rρ15.2.2).e (fun l a b => mu_ne (by first | assumption | decide | exact xs_ (by decide) | exact xc_ (by decide) | exact x31_ (by decide) | omega)) |>.v (fun l y a b c => mu_ne (by first | assumption | decide | exact xs_ (by decide) | exact xc_ (by decide) | exact x31_ (by decide) | omega))
                    refine r_aload_n hC dX6_give_176 rfl ?_
                    refine r_iload hC dX6_give_177 rfl ?_
                    refine r_iload hC dX6_give_179 rfl ?_
                    refine r_iload hC dX6_give_181 rfl ?_
                    refine r_sipush hC dX6_give_183 rfl ?_
                    refine r_icmp_ge (tgt := 195) hC dX6_give_186 rfl (fun h27 => ?_) (fun h27 => ?_)
                    · refine r_iload hC dX6_give_195 rfl ?_
                      refine r_sipush hC dX6_give_197 rfl ?_
                      refine r_icmp_le (tgt := 209) hC dX6_give_200 rfl (fun h28 => ?_) (fun h28 => ?_)
                      · refine r_iload hC dX6_give_209 rfl ?_
                        refine z_inv3 hM dX6_give_211 vl_RX6_253 rfl rfl rfl (Nat.le_of_ble_eq_true rfl) (Nat.le_of_ble_eq_true rfl) ?_
                        have hO6 := hCI.h7 (l := (V 13 l 0)) (by first | assumption | decide | exact xs_ (by decide) | exact xc_ (by decide) | exact x31_ (by decide) | omega) (by first | assumption | decide | exact xs_ (by decide) | exact xc_ (by decide) | exact x31_ (by decide) | omega)
                        have eO7 : ∀ y : Int, (mu V 13 l 3 (wr ((V 13 l 3) + 1))) 7 (V 13 l 0) y = V 7 (V 13 l 0) y := fun y => mu_ne (by first | assumption | decide | exact xs_ (by decide) | exact xc_ (by decide) | exact x31_ (by decide) | omega)
                        have eO11 : (mu V 13 l 3 (wr ((V 13 l 3) + 1))) 11 (V 13 l 0) = V 11 (V 13 l 0) := funext fun y => mu_ne (by first | assumption | decide | exact xs_ (by decide) | exact xc_ (by decide) | exact x31_ (by decide) | omega)
                        have eO8 : (mu V 13 l 3 (wr ((V 13 l 3) + 1))) 8 (V 13 l 0) = V 8 (V 13 l 0) := funext fun y => mu_ne (by first | assumption | decide | exact xs_ (by decide) | exact xc_ (by decide) | exact x31_ (by decide) | omega)
                        refine y_enter (V := (mu V 13 l 3 (wr ((V 13 l 3) + 1)))) (l := (V 13 l 0)) (z := (V 8 l ((V 7 l 6) - 1))) (v := (cm (V 16 0) (V 15 0) (V 7 l 2) (fun j => V 9 l (w12 + j)) (((V 7 l 6) - 1) + 1 - w12).toNat (V 13 l 2))) (by first | assumption | decide | exact xs_ (by decide) | exact xc_ (by decide) | exact x31_ (by decide) | omega) (by first | assumption | decide | exact xs_ (by decide) | exact xc_ (by decide) | exact x31_ (by decide) | omega) (by first | assumption | decide | exact xs_ (by decide) | exact xc_ (by decide) | exact x31_ (by decide) | omega) ht ⟨Sρ26, Kρ26, Fρ26⟩ (by first | assumption | decide | exact xs_ (by decide) | exact xc_ (by decide) | exact x31_ (by decide) | omega) ((hJ.lk hCI (l := (V 13 l 0)) (by first | assumption | decide | exact xs_ (by decide) | exact xc_ (by decide) | exact x31_ (by decide) | omega) (by first | assumption | decide | exact xs_ (by decide) | exact xc_ (by decide) | exact x31_ (by decide) | omega)).to (fun c2 x y h => mu_ne (by first | assumption | decide | exact xs_ (by decide) | exact xc_ (by decide) | exact x31_ (by decide) | omega))) (by rw [eO11, eO7]; exact hCI.2.1 (V 13 l 0) (by first | assumption | decide | exact xs_ (by decide) | exact xc_ (by decide) | exact x31_ (by decide) | omega) (by first | assumption | decide | exact xs_ (by decide) | exact xc_ (by decide) | exact x31_ (by decide) | omega)) (by rw [eO8, eO7]; exact hJ.1 (V 13 l 0) (by first | assumption | decide | exact xs_ (by decide) | exact xc_ (by decide) | exact x31_ (by decide) | omega) (by first | assumption | decide | exact xs_ (by decide) | exact xc_ (by decide) | exact x31_ (by decide) | omega)) (by rw [eO7]; omega) (by rw [eO7, eO7]; intro q; have := hCI.size (i := (V 13 l 0)) (by first | assumption | decide | exact xs_ (by decide) | exact xc_ (by decide) | exact x31_ (by decide) | omega) (by first | assumption | decide | exact xs_ (by decide) | exact xc_ (by decide) | exact x31_ (by decide) | omega) q; omega) (fun ρ29 Rρ29 => ?_)
                        refine y_vret hK rfl dX6_give_214 ?_
                        have hN : gvN V l = (cm (V 16 0) (V 15 0) (V 7 l 2) (fun j => V 9 l (w12 + j)) (((V 7 l 6) - 1) + 1 - w12).toNat (V 13 l 2)) := by unfold gvN; rw [hs_, show (V 7 l 6 - w12).toNat = (V 7 l 6 - 1 + 1 - w12).toNat from by omega]
                        have hm : gvM V l z = (plM (mu V 13 l 3 (wr ((V 13 l 3) + 1))) (V 13 l 0) (V 8 l ((V 7 l 6) - 1)) (cm (V 16 0) (V 15 0) (V 7 l 2) (fun j => V 9 l (w12 + j)) (((V 7 l 6) - 1) + 1 - w12).toNat (V 13 l 2))) := by
                          unfold gvM
                          rw [if_pos ⟨by omega, by omega, by omega, by unfold fuV; omega, by rw [hN]; unfold NO; omega, by unfold ltV; omega⟩, hN]
                          rw [show max (-1000) (min 1000 (cm (V 16 0) (V 15 0) (V 7 l 2) (fun j => V 9 l (w12 + j)) (((V 7 l 6) - 1) + 1 - w12).toNat (V 13 l 2))) = (cm (V 16 0) (V 15 0) (V 7 l 2) (fun j => V 9 l (w12 + j)) (((V 7 l 6) - 1) + 1 - w12).toNat (V 13 l 2)) from by omega]
                        rw [hm] at k
                        exact k _ ⟨Rρ29.1, Rρ29.2.1, Rρ29.2.2⟩
                      · refine r_sipush hC dX6_give_203 rfl ?_
                        refine r_goto (tgt := 211) hC dX6_give_206 rfl ?_
                        refine z_inv3 hM dX6_give_211 vl_RX6_253 rfl rfl rfl (Nat.le_of_ble_eq_true rfl) (Nat.le_of_ble_eq_true rfl) ?_
                        have hO6 := hCI.h7 (l := (V 13 l 0)) (by first | assumption | decide | exact xs_ (by decide) | exact xc_ (by decide) | exact x31_ (by decide) | omega) (by first | assumption | decide | exact xs_ (by decide) | exact xc_ (by decide) | exact x31_ (by decide) | omega)
                        have eO7 : ∀ y : Int, (mu V 13 l 3 (wr ((V 13 l 3) + 1))) 7 (V 13 l 0) y = V 7 (V 13 l 0) y := fun y => mu_ne (by first | assumption | decide | exact xs_ (by decide) | exact xc_ (by decide) | exact x31_ (by decide) | omega)
                        have eO11 : (mu V 13 l 3 (wr ((V 13 l 3) + 1))) 11 (V 13 l 0) = V 11 (V 13 l 0) := funext fun y => mu_ne (by first | assumption | decide | exact xs_ (by decide) | exact xc_ (by decide) | exact x31_ (by decide) | omega)
                        have eO8 : (mu V 13 l 3 (wr ((V 13 l 3) + 1))) 8 (V 13 l 0) = V 8 (V 13 l 0) := funext fun y => mu_ne (by first | assumption | decide | exact xs_ (by decide) | exact xc_ (by decide) | exact x31_ (by decide) | omega)
                        refine y_enter (V := (mu V 13 l 3 (wr ((V 13 l 3) + 1)))) (l := (V 13 l 0)) (z := (V 8 l ((V 7 l 6) - 1))) (v := 1000) (by first | assumption | decide | exact xs_ (by decide) | exact xc_ (by decide) | exact x31_ (by decide) | omega) (by first | assumption | decide | exact xs_ (by decide) | exact xc_ (by decide) | exact x31_ (by decide) | omega) (by first | assumption | decide | exact xs_ (by decide) | exact xc_ (by decide) | exact x31_ (by decide) | omega) ht ⟨Sρ26, Kρ26, Fρ26⟩ (by first | assumption | decide | exact xs_ (by decide) | exact xc_ (by decide) | exact x31_ (by decide) | omega) ((hJ.lk hCI (l := (V 13 l 0)) (by first | assumption | decide | exact xs_ (by decide) | exact xc_ (by decide) | exact x31_ (by decide) | omega) (by first | assumption | decide | exact xs_ (by decide) | exact xc_ (by decide) | exact x31_ (by decide) | omega)).to (fun c2 x y h => mu_ne (by first | assumption | decide | exact xs_ (by decide) | exact xc_ (by decide) | exact x31_ (by decide) | omega))) (by rw [eO11, eO7]; exact hCI.2.1 (V 13 l 0) (by first | assumption | decide | exact xs_ (by decide) | exact xc_ (by decide) | exact x31_ (by decide) | omega) (by first | assumption | decide | exact xs_ (by decide) | exact xc_ (by decide) | exact x31_ (by decide) | omega)) (by rw [eO8, eO7]; exact hJ.1 (V 13 l 0) (by first | assumption | decide | exact xs_ (by decide) | exact xc_ (by decide) | exact x31_ (by decide) | omega) (by first | assumption | decide | exact xs_ (by decide) | exact xc_ (by decide) | exact x31_ (by decide) | omega)) (by rw [eO7]; omega) (by rw [eO7, eO7]; intro q; have := hCI.size (i := (V 13 l 0)) (by first | assumption | decide | exact xs_ (by decide) | exact xc_ (by decide) | exact x31_ (by decide) | omega) (by first | assumption | decide | exact xs_ (by decide) | exact xc_ (by decide) | exact x31_ (by decide) | omega) q; omega) (fun ρ30 Rρ30 => ?_)
                        refine y_vret hK rfl dX6_give_214 ?_
                        have hN : gvN V l = (cm (V 16 0) (V 15 0) (V 7 l 2) (fun j => V 9 l (w12 + j)) (((V 7 l 6) - 1) + 1 - w12).toNat (V 13 l 2)) := by unfold gvN; rw [hs_, show (V 7 l 6 - w12).toNat = (V 7 l 6 - 1 + 1 - w12).toNat from by omega]
                        have hm : gvM V l z = (plM (mu V 13 l 3 (wr ((V 13 l 3) + 1))) (V 13 l 0) (V 8 l ((V 7 l 6) - 1)) 1000) := by
                          unfold gvM
                          rw [if_pos ⟨by omega, by omega, by omega, by unfold fuV; omega, by rw [hN]; unfold NO; omega, by unfold ltV; omega⟩, hN]
                          rw [show max (-1000) (min 1000 (cm (V 16 0) (V 15 0) (V 7 l 2) (fun j => V 9 l (w12 + j)) (((V 7 l 6) - 1) + 1 - w12).toNat (V 13 l 2))) = 1000 from by omega]
                        rw [hm] at k
                        exact k _ ⟨Rρ30.1, Rρ30.2.1, Rρ30.2.2⟩
                    · refine r_sipush hC dX6_give_189 rfl ?_
                      refine r_goto (tgt := 211) hC dX6_give_192 rfl ?_
                      refine z_inv3 hM dX6_give_211 vl_RX6_253 rfl rfl rfl (Nat.le_of_ble_eq_true rfl) (Nat.le_of_ble_eq_true rfl) ?_
                      have hO6 := hCI.h7 (l := (V 13 l 0)) (by first | assumption | decide | exact xs_ (by decide) | exact xc_ (by decide) | exact x31_ (by decide) | omega) (by first | assumption | decide | exact xs_ (by decide) | exact xc_ (by decide) | exact x31_ (by decide) | omega)
                      have eO7 : ∀ y : Int, (mu V 13 l 3 (wr ((V 13 l 3) + 1))) 7 (V 13 l 0) y = V 7 (V 13 l 0) y := fun y => mu_ne (by first | assumption | decide | exact xs_ (by decide) | exact xc_ (by decide) | exact x31_ (by decide) | omega)
                      have eO11 : (mu V 13 l 3 (wr ((V 13 l 3) + 1))) 11 (V 13 l 0) = V 11 (V 13 l 0) := funext fun y => mu_ne (by first | assumption | decide | exact xs_ (by decide) | exact xc_ (by decide) | exact x31_ (by decide) | omega)
                      have eO8 : (mu V 13 l 3 (wr ((V 13 l 3) + 1))) 8 (V 13 l 0) = V 8 (V 13 l 0) := funext fun y => mu_ne (by first | assumption | decide | exact xs_ (by decide) | exact xc_ (by decide) | exact x31_ (by decide) | omega)
                      refine y_enter (V := (mu V 13 l 3 (wr ((V 13 l 3) + 1)))) (l := (V 13 l 0)) (z := (V 8 l ((V 7 l 6) - 1))) (v := (-1000)) (by first | assumption | decide | exact xs_ (by decide) | exact xc_ (by decide) | exact x31_ (by decide) | omega) (by first | assumption | decide | exact xs_ (by decide) | exact xc_ (by decide) | exact x31_ (by decide) | omega) (by first | assumption | decide | exact xs_ (by decide) | exact xc_ (by decide) | exact x31_ (by decide) | omega) ht ⟨Sρ26, Kρ26, Fρ26⟩ (by first | assumption | decide | exact xs_ (by decide) | exact xc_ (by decide) | exact x31_ (by decide) | omega) ((hJ.lk hCI (l := (V 13 l 0)) (by first | assumption | decide | exact xs_ (by decide) | exact xc_ (by decide) | exact x31_ (by decide) | omega) (by first | assumption | decide | exact xs_ (by decide) | exact xc_ (by decide) | exact x31_ (by decide) | omega)).to (fun c2 x y h => mu_ne (by first | assumption | decide | exact xs_ (by decide) | exact xc_ (by decide) | exact x31_ (by decide) | omega))) (by rw [eO11, eO7]; exact hCI.2.1 (V 13 l 0) (by first | assumption | decide | exact xs_ (by decide) | exact xc_ (by decide) | exact x31_ (by decide) | omega) (by first | assumption | decide | exact xs_ (by decide) | exact xc_ (by decide) | exact x31_ (by decide) | omega)) (by rw [eO8, eO7]; exact hJ.1 (V 13 l 0) (by first | assumption | decide | exact xs_ (by decide) | exact xc_ (by decide) | exact x31_ (by decide) | omega) (by first | assumption | decide | exact xs_ (by decide) | exact xc_ (by decide) | exact x31_ (by decide) | omega)) (by rw [eO7]; omega) (by rw [eO7, eO7]; intro q; have := hCI.size (i := (V 13 l 0)) (by first | assumption | decide | exact xs_ (by decide) | exact xc_ (by decide) | exact x31_ (by decide) | omega) (by first | assumption | decide | exact xs_ (by decide) | exact xc_ (by decide) | exact x31_ (by decide) | omega) q; omega) (fun ρ31 Rρ31 => ?_)
                      refine y_vret hK rfl dX6_give_214 ?_
                      have hN : gvN V l = (cm (V 16 0) (V 15 0) (V 7 l 2) (fun j => V 9 l (w12 + j)) (((V 7 l 6) - 1) + 1 - w12).toNat (V 13 l 2)) := by unfold gvN; rw [hs_, show (V 7 l 6 - w12).toNat = (V 7 l 6 - 1 + 1 - w12).toNat from by omega]
                      have hm : gvM V l z = (plM (mu V 13 l 3 (wr ((V 13 l 3) + 1))) (V 13 l 0) (V 8 l ((V 7 l 6) - 1)) (-1000)) := by
                        unfold gvM
                        rw [if_pos ⟨by omega, by omega, by omega, by unfold fuV; omega, by rw [hN]; unfold NO; omega, by unfold ltV; omega⟩, hN]
                        rw [show max (-1000) (min 1000 (cm (V 16 0) (V 15 0) (V 7 l 2) (fun j => V 9 l (w12 + j)) (((V 7 l 6) - 1) + 1 - w12).toNat (V 13 l 2))) = (-1000) from by omega]
                      rw [hm] at k
                      exact k _ ⟨Rρ31.1, Rρ31.2.1, Rρ31.2.2⟩
              · refine y_vret hK rfl dX6_give_126 ?_
                have hm : gvM V l z = V := if_neg (fun q => by have q1 := q.1; have q2 := q.2.1; have q3 := q.2.2.1; have q4 := q.2.2.2.1; have q5 := q.2.2.2.2.1; have q6 := q.2.2.2.2.2; unfold gvN at q5; rw [hs_, show (V 7 l 6 - w12).toNat = (V 7 l 6 - 1 + 1 - w12).toNat from by omega] at q5; unfold NO at q5; unfold fuV at *; unfold ltV at *; omega)
                rw [hm] at k
                exact k _ ⟨Rρ15.1, Rρ15.2.1, Rρ15.2.2⟩
            · refine r_aload_n hC dX6_give_61 rfl ?_
              refine z_getR hM dX6_give_62 fl_RX6_13 rfl rfl (vld_of (n := 1) rfl (by first | assumption | decide | exact xs_ (by decide) | exact xc_ (by decide) | exact x31_ (by decide) | omega) (by first | assumption | decide | exact xs_ (by decide) | exact xc_ (by decide) | exact x31_ (by decide) | omega)) ?_
              refine r_bipush hC dX6_give_65 rfl ?_
              refine r_iload_n hC dX6_give_67 rfl ?_
              refine r_imulE hC ((121 * l)) dX6_give_68 (by first | assumption | decide | exact xs_ (by decide) | exact xc_ (by decide) | exact x31_ (by decide) | omega) (by unfold inR; omega) ?_
              refine r_iload hC dX6_give_69 rfl ?_
              refine r_iaddE hC (((121 * l) + w12)) dX6_give_71 (by first | assumption | decide | exact xs_ (by decide) | exact xc_ (by decide) | exact x31_ (by decide) | omega) (by unfold inR; omega) ?_
              refine z_iald hM dX6_give_72 rfl (by first | assumption | decide | exact xs_ (by decide) | exact xc_ (by decide) | exact x31_ (by decide) | omega) (by first | assumption | decide | exact xs_ (by decide) | exact xc_ (by decide) | exact x31_ (by decide) | omega) (fun v32 h_v32 o_v32 t_v32 => ?_)
              have w_v32 := ((t_v32 (Or.inl trivial)).trans ((show σ 32 0 ((121 * l) + w12) = V 8 l w12 from by rw [show ((121 * l) + w12) = 121 * l + w12 from by omega]; exact hR.1.a8 (y := w12) (by first | assumption | decide | exact xs_ (by decide) | exact xc_ (by decide) | exact x31_ (by decide) | omega) (by first | assumption | decide | exact xs_ (by decide) | exact xc_ (by decide) | exact x31_ (by decide) | omega) (by first | assumption | decide | exact xs_ (by decide) | exact xc_ (by decide) | exact x31_ (by decide) | omega) (by first | assumption | decide | exact xs_ (by decide) | exact xc_ (by decide) | exact x31_ (by decide) | omega)).trans (rfl))).symm
              subst w_v32
              refine r_aload_n hC dX6_give_73 rfl ?_
              refine z_getR hM dX6_give_74 fl_RX6_13 rfl rfl (vld_of (n := 1) rfl (by first | assumption | decide | exact xs_ (by decide) | exact xc_ (by decide) | exact x31_ (by decide) | omega) (by first | assumption | decide | exact xs_ (by decide) | exact xc_ (by decide) | exact x31_ (by decide) | omega)) ?_
              refine r_bipush hC dX6_give_77 rfl ?_
              refine r_iload_n hC dX6_give_79 rfl ?_
              refine r_imulE hC ((121 * l)) dX6_give_80 (by first | assumption | decide | exact xs_ (by decide) | exact xc_ (by decide) | exact x31_ (by decide) | omega) (by unfold inR; omega) ?_
              refine r_iload hC dX6_give_81 rfl ?_
              refine r_iaddE hC (((121 * l) + w12)) dX6_give_83 (by first | assumption | decide | exact xs_ (by decide) | exact xc_ (by decide) | exact x31_ (by decide) | omega) (by unfold inR; omega) ?_
              refine r_iconst hC dX6_give_84 rfl ?_
              refine r_isubE hC ((((121 * l) + w12) - 1)) dX6_give_85 (by first | assumption | decide | exact xs_ (by decide) | exact xc_ (by decide) | exact x31_ (by decide) | omega) (by unfold inR; omega) ?_
              refine z_iald hM dX6_give_86 rfl (by first | assumption | decide | exact xs_ (by decide) | exact xc_ (by decide) | exact x31_ (by decide) | omega) (by first | assumption | decide | exact xs_ (by decide) | exact xc_ (by decide) | exact x31_ (by decide) | omega) (fun v33 h_v33 o_v33 t_v33 => ?_)
              have w_v33 := ((t_v33 (Or.inl trivial)).trans ((show σ 32 0 (((121 * l) + w12) - 1) = V 8 l (w12 - 1) from by rw [show (((121 * l) + w12) - 1) = 121 * l + (w12 - 1) from by omega]; exact hR.1.a8 (y := (w12 - 1)) (by first | assumption | decide | exact xs_ (by decide) | exact xc_ (by decide) | exact x31_ (by decide) | omega) (by first | assumption | decide | exact xs_ (by decide) | exact xc_ (by decide) | exact x31_ (by decide) | omega) (by first | assumption | decide | exact xs_ (by decide) | exact xc_ (by decide) | exact x31_ (by decide) | omega) (by first | assumption | decide | exact xs_ (by decide) | exact xc_ (by decide) | exact x31_ (by decide) | omega)).trans (rfl))).symm
              subst w_v33
              refine r_isub hC dX6_give_87 ?_
              have f34 := inR_le (inR_wr ((V 8 l w12) - (V 8 l (w12 - 1))))
              refine r_aload_n hC dX6_give_88 rfl ?_
              refine z_getR hM dX6_give_89 fl_RX6_55 rfl rfl (vld_of (n := 1) rfl (by first | assumption | decide | exact xs_ (by decide) | exact xc_ (by decide) | exact x31_ (by decide) | omega) (by first | assumption | decide | exact xs_ (by decide) | exact xc_ (by decide) | exact x31_ (by decide) | omega)) ?_
              refine r_iload_n hC dX6_give_92 rfl ?_
              refine z_iald hM dX6_give_93 rfl (by first | assumption | decide | exact xs_ (by decide) | exact xc_ (by decide) | exact x31_ (by decide) | omega) (by first | assumption | decide | exact xs_ (by decide) | exact xc_ (by decide) | exact x31_ (by decide) | omega) (fun v35 h_v35 o_v35 t_v35 => ?_)
              have w_v35 := ((t_v35 (Or.inl (by simp [Tb]))).trans ((hR.1.k1 (by first | assumption | decide | exact xs_ (by decide) | exact xc_ (by decide) | exact x31_ (by decide) | omega) (by first | assumption | decide | exact xs_ (by decide) | exact xc_ (by decide) | exact x31_ (by decide) | omega)).trans (rfl))).symm
              subst w_v35
              refine r_icmp_gt (tgt := 103) hC dX6_give_94 rfl (fun h36 => ?_) (fun h36 => ?_)
              · have hs_ : ses (V 8 l) (V 13 l 1) (V 7 l 6 - 1).toNat = w12 := by rw [← i0_56]; first | exact ses_0 (by first | assumption | decide | exact xs_ (by decide) | exact xc_ (by decide) | exact x31_ (by decide) | omega) | exact ses_yes (by first | assumption | decide | exact xs_ (by decide) | exact xc_ (by decide) | exact x31_ (by decide) | omega) (by first | assumption | decide | exact xs_ (by decide) | exact xc_ (by decide) | exact x31_ (by decide) | omega)
                refine r_aload_n hC dX6_give_103 rfl ?_
                refine r_iload_n hC dX6_give_104 rfl ?_
                refine r_iload hC dX6_give_105 rfl ?_
                refine r_iload_n hC dX6_give_107 rfl ?_
                refine r_aload_n hC dX6_give_108 rfl ?_
                refine z_getR hM dX6_give_109 fl_RX6_58 rfl rfl (vld_of (n := 1) rfl (by first | assumption | decide | exact xs_ (by decide) | exact xc_ (by decide) | exact x31_ (by decide) | omega) (by first | assumption | decide | exact xs_ (by decide) | exact xc_ (by decide) | exact x31_ (by decide) | omega)) ?_
                refine r_iload_n hC dX6_give_112 rfl ?_
                refine z_iald hM dX6_give_113 rfl (by first | assumption | decide | exact xs_ (by decide) | exact xc_ (by decide) | exact x31_ (by decide) | omega) (by first | assumption | decide | exact xs_ (by decide) | exact xc_ (by decide) | exact x31_ (by decide) | omega) (fun v37 h_v37 o_v37 t_v37 => ?_)
                have w_v37 := ((t_v37 (Or.inl (by simp [Tb]))).trans ((hR.1.k2 (by first | assumption | decide | exact xs_ (by decide) | exact xc_ (by decide) | exact x31_ (by decide) | omega) (by first | assumption | decide | exact xs_ (by decide) | exact xc_ (by decide) | exact x31_ (by decide) | omega)).trans (rfl))).symm
                subst w_v37
                have q_v37 : 0 ≤ (V 13 l 2) ∧ (V 13 l 2) ≤ 6 := o_v37
                refine z_inv4 hM dX6_give_114 vl_RX6_243 rfl rfl rfl (Nat.le_of_ble_eq_true rfl) (Nat.le_of_ble_eq_true rfl) ?_
                have hw_ := hlk2 (by first | assumption | decide | exact xs_ (by decide) | exact xc_ (by decide) | exact x31_ (by decide) | omega)
                have hwN := numF_rng (V 7 l 2)
                refine y_comesFrom (V := V) (by first | assumption | decide | exact xs_ (by decide) | exact xc_ (by decide) | exact x31_ (by decide) | omega) (by first | assumption | decide | exact xs_ (by decide) | exact xc_ (by decide) | exact x31_ (by decide) | omega) (by first | assumption | decide | exact xs_ (by decide) | exact xc_ (by decide) | exact x31_ (by decide) | omega) (by first | assumption | decide | exact xs_ (by decide) | exact xc_ (by decide) | exact x31_ (by decide) | omega) ht ⟨hR.1, hR.2.1, hR.2.2⟩ (by first | assumption | decide | exact xs_ (by decide) | exact xc_ (by decide) | exact x31_ (by decide) | omega) hLl (by first | assumption | decide | exact xs_ (by decide) | exact xc_ (by decide) | exact x31_ (by decide) | omega) (fun ρ38 Rρ38 => ?_)
                refine r_istore hC dX6_give_117 rfl ?_
                refine r_iload hC dX6_give_119 rfl ?_
                refine r_ldc hC dX6_give_121 co_RX6_160 rfl ?_
                refine r_icmp_ne (tgt := 127) hC dX6_give_123 rfl (fun h39 => ?_) (fun h39 => ?_)
                · refine r_aload_n hC dX6_give_127 rfl ?_
                  refine z_getR hM dX6_give_128 fl_RX6_52 rfl rfl (vld_of (n := 1) rfl (by first | assumption | decide | exact xs_ (by decide) | exact xc_ (by decide) | exact x31_ (by decide) | omega) (by first | assumption | decide | exact xs_ (by decide) | exact xc_ (by decide) | exact x31_ (by decide) | omega)) ?_
                  refine r_iload_n hC dX6_give_131 rfl ?_
                  refine z_iald hM dX6_give_132 rfl (by first | assumption | decide | exact xs_ (by decide) | exact xc_ (by decide) | exact x31_ (by decide) | omega) (by first | assumption | decide | exact xs_ (by decide) | exact xc_ (by decide) | exact x31_ (by decide) | omega) (fun v40 h_v40 o_v40 t_v40 => ?_)
                  have w_v40 := ((t_v40 (Or.inl (by simp [Tb]))).trans ((Rρ38.1.k0 (by first | assumption | decide | exact xs_ (by decide) | exact xc_ (by decide) | exact x31_ (by decide) | omega) (by first | assumption | decide | exact xs_ (by decide) | exact xc_ (by decide) | exact x31_ (by decide) | omega)).trans (rfl))).symm
                  subst w_v40
                  have q_v40 : -1 ≤ (V 13 l 0) ∧ (V 13 l 0) ≤ 3 := o_v40
                  refine r_istore hC dX6_give_133 rfl ?_
                  refine r_aload_n hC dX6_give_135 rfl ?_
                  refine r_iload hC dX6_give_136 rfl ?_
                  refine r_iload hC dX6_give_138 rfl ?_
                  refine z_inv2 hM dX6_give_140 vl_RX6_247 rfl rfl rfl (Nat.le_of_ble_eq_true rfl) (Nat.le_of_ble_eq_true rfl) ?_
                  refine y_isLost (V := V) (by first | assumption | decide | exact xs_ (by decide) | exact xc_ (by decide) | exact x31_ (by decide) | omega) ht ⟨Rρ38.1, Rρ38.2.1, Rρ38.2.2⟩ (by first | assumption | decide | exact xs_ (by decide) | exact xc_ (by decide) | exact x31_ (by decide) | omega) (fun h41 => ?_) (fun h41 => ?_)
                  · refine r_if_eq (tgt := 156) hC dX6_give_143 rfl (fun h42 => by omega) (fun h42 => ?_)
                    refine r_aload_n hC dX6_give_146 rfl ?_
                    refine r_iload hC dX6_give_147 rfl ?_
                    refine r_bipush hC dX6_give_149 rfl ?_
                    refine r_iconst hC dX6_give_151 rfl ?_
                    refine z_inv3 hM dX6_give_152 vl_RX6_188 rfl rfl rfl (Nat.le_of_ble_eq_true rfl) (Nat.le_of_ble_eq_true rfl) ?_
                    refine y_moreG (by first | assumption | decide | exact xs_ (by decide) | exact xc_ (by decide) | exact x31_ (by decide) | omega) ?_
                    refine y_vret hK rfl dX6_give_155 ?_
                    have hm : gvM V l z = V := if_neg (fun q => by have q1 := q.1; have q2 := q.2.1; have q3 := q.2.2.1; have q4 := q.2.2.2.1; have q5 := q.2.2.2.2.1; have q6 := q.2.2.2.2.2; unfold gvN at q5; rw [hs_, show (V 7 l 6 - w12).toNat = (V 7 l 6 - 1 + 1 - w12).toNat from by omega] at q5; unfold NO at q5; unfold fuV at *; unfold ltV at *; omega)
                    rw [hm] at k
                    exact k _ ⟨Rρ38.1, Rρ38.2.1, Rρ38.2.2⟩
                  · refine r_if_eq (tgt := 156) hC dX6_give_143 rfl (fun h43 => ?_) (fun h43 => by omega)
                    refine r_aload_n hC dX6_give_156 rfl ?_
                    refine r_iload hC dX6_give_157 rfl ?_
                    refine z_inv1 hM dX6_give_159 vl_RX6_250 rfl rfl rfl (Nat.le_of_ble_eq_true rfl) (Nat.le_of_ble_eq_true rfl) ?_
                    refine y_isFull (V := V) (by first | assumption | decide | exact xs_ (by decide) | exact xc_ (by decide) | exact x31_ (by decide) | omega) ht ⟨Rρ38.1, Rρ38.2.1, Rρ38.2.2⟩ (by first | assumption | decide | exact xs_ (by decide) | exact xc_ (by decide) | exact x31_ (by decide) | omega) (fun h44 => ?_) (fun h44 => ?_)
                    · refine r_if_eq (tgt := 166) hC dX6_give_162 rfl (fun h45 => by omega) (fun h45 => ?_)
                      refine y_vret hK rfl dX6_give_165 ?_
                      have hm : gvM V l z = V := if_neg (fun q => by have q1 := q.1; have q2 := q.2.1; have q3 := q.2.2.1; have q4 := q.2.2.2.1; have q5 := q.2.2.2.2.1; have q6 := q.2.2.2.2.2; unfold gvN at q5; rw [hs_, show (V 7 l 6 - w12).toNat = (V 7 l 6 - 1 + 1 - w12).toNat from by omega] at q5; unfold NO at q5; unfold fuV at *; unfold ltV at *; omega)
                      rw [hm] at k
                      exact k _ ⟨Rρ38.1, Rρ38.2.1, Rρ38.2.2⟩
                    · refine r_if_eq (tgt := 166) hC dX6_give_162 rfl (fun h46 => ?_) (fun h46 => by omega)
                      refine r_aload_n hC dX6_give_166 rfl ?_
                      refine z_getR hM dX6_give_167 fl_RX6_61 rfl rfl (vld_of (n := 1) rfl (by first | assumption | decide | exact xs_ (by decide) | exact xc_ (by decide) | exact x31_ (by decide) | omega) (by first | assumption | decide | exact xs_ (by decide) | exact xc_ (by decide) | exact x31_ (by decide) | omega)) ?_
                      refine r_iload_n hC dX6_give_170 rfl ?_
                      refine r_dup2 hC dX6_give_171 rfl rfl ?_
                      refine z_iald hM dX6_give_172 rfl (by first | assumption | decide | exact xs_ (by decide) | exact xc_ (by decide) | exact x31_ (by decide) | omega) (by first | assumption | decide | exact xs_ (by decide) | exact xc_ (by decide) | exact x31_ (by decide) | omega) (fun v47 h_v47 o_v47 t_v47 => ?_)
                      have w_v47 := ((t_v47 (Or.inl (by simp [Tb]))).trans ((Rρ38.1.k3 (by first | assumption | decide | exact xs_ (by decide) | exact xc_ (by decide) | exact x31_ (by decide) | omega) (by first | assumption | decide | exact xs_ (by decide) | exact xc_ (by decide) | exact x31_ (by decide) | omega)).trans (rfl))).symm
                      subst w_v47
                      refine r_iconst hC dX6_give_173 rfl ?_
                      refine r_iadd hC dX6_give_174 ?_
                      have f48 := inR_le (inR_wr ((V 13 l 3) + 1))
                      refine z_iastT hM dX6_give_175 rfl (by first | assumption | decide | exact xs_ (by decide) | exact xc_ (by decide) | exact x31_ (by decide) | omega) (by first | assumption | decide | exact xs_ (by decide) | exact xc_ (by decide) | exact x31_ (by decide) | omega) ⟨Or.inr (by simp [DL]), Or.inr (by simp [DF])⟩ (by first | trivial | (simp only [Okv]; omega) | (simp [Okv]; try omega)) ?_
                      obtain ⟨ρ49, e_ρ49⟩ : ∃ zz_, zz_ = mu ρ38 48 0 l (wr ((V 13 l 3) + 1)) := ⟨_, rfl⟩
                      rw [← e_ρ49]
                      have Sρ49 : SB t σ0 (mu V 13 l 3 (wr ((V 13 l 3) + 1))) ρ49 := by rw [e_ρ49]; exact Rρ38.1.pk3 (by first | assumption | decide | exact xs_ (by decide) | exact xc_ (by decide) | exact x31_ (by decide) | omega) (by first | assumption | decide | exact xs_ (by decide) | exact xc_ (by decide) | exact x31_ (by decide) | omega)
                      have Kρ49 : KF t (mu V 13 l 3 (wr ((V 13 l 3) + 1))) ρ49 := by rw [e_ρ49]; exact (Rρ38.2.1).e (fun l a b => ⟨mu_ne (by first | assumption | decide | exact xs_ (by decide) | exact xc_ (by decide) | exact x31_ (by decide) | omega), mu_ne (by first | assumption | decide | exact xs_ (by decide) | exact xc_ (by decide) | exact x31_ (by decide) | omega)⟩) |>.v (fun l => mu_ne (by first | assumption | decide | exact xs_ (by decide) | exact xc_ (by decide) | exact x31_ (by decide) | omega))
                      have Fρ49 : FB (mu V 13 l 3 (wr ((V 13 l 3) + 1))) ρ49 := by rw [e_ρ49]; exact (Rρ38.2.2).e (fun l a b => mu_ne (by first | assumption | decide | exact xs_ (by decide) | exact xc_ (by decide) | exact x31_ (by decide) | omega)) |>.v (fun l y a b c => mu_ne (by first | assumption | decide | exact xs_ (by decide) | exact xc_ (by decide) | exact x31_ (by decide) | omega))
                      refine r_aload_n hC dX6_give_176 rfl ?_
                      refine r_iload hC dX6_give_177 rfl ?_
                      refine r_iload hC dX6_give_179 rfl ?_
                      refine r_iload hC dX6_give_181 rfl ?_
                      refine r_sipush hC dX6_give_183 rfl ?_
                      refine r_icmp_ge (tgt := 195) hC dX6_give_186 rfl (fun h50 => ?_) (fun h50 => ?_)
                      · refine r_iload hC dX6_give_195 rfl ?_
                        refine r_sipush hC dX6_give_197 rfl ?_
                        refine r_icmp_le (tgt := 209) hC dX6_give_200 rfl (fun h51 => ?_) (fun h51 => ?_)
                        · refine r_iload hC dX6_give_209 rfl ?_
                          refine z_inv3 hM dX6_give_211 vl_RX6_253 rfl rfl rfl (Nat.le_of_ble_eq_true rfl) (Nat.le_of_ble_eq_true rfl) ?_
                          have hO6 := hCI.h7 (l := (V 13 l 0)) (by first | assumption | decide | exact xs_ (by decide) | exact xc_ (by decide) | exact x31_ (by decide) | omega) (by first | assumption | decide | exact xs_ (by decide) | exact xc_ (by decide) | exact x31_ (by decide) | omega)
                          have eO7 : ∀ y : Int, (mu V 13 l 3 (wr ((V 13 l 3) + 1))) 7 (V 13 l 0) y = V 7 (V 13 l 0) y := fun y => mu_ne (by first | assumption | decide | exact xs_ (by decide) | exact xc_ (by decide) | exact x31_ (by decide) | omega)
                          have eO11 : (mu V 13 l 3 (wr ((V 13 l 3) + 1))) 11 (V 13 l 0) = V 11 (V 13 l 0) := funext fun y => mu_ne (by first | assumption | decide | exact xs_ (by decide) | exact xc_ (by decide) | exact x31_ (by decide) | omega)
                          have eO8 : (mu V 13 l 3 (wr ((V 13 l 3) + 1))) 8 (V 13 l 0) = V 8 (V 13 l 0) := funext fun y => mu_ne (by first | assumption | decide | exact xs_ (by decide) | exact xc_ (by decide) | exact x31_ (by decide) | omega)
                          refine y_enter (V := (mu V 13 l 3 (wr ((V 13 l 3) + 1)))) (l := (V 13 l 0)) (z := (V 8 l ((V 7 l 6) - 1))) (v := (cm (V 16 0) (V 15 0) (V 7 l 2) (fun j => V 9 l (w12 + j)) (((V 7 l 6) - 1) + 1 - w12).toNat (V 13 l 2))) (by first | assumption | decide | exact xs_ (by decide) | exact xc_ (by decide) | exact x31_ (by decide) | omega) (by first | assumption | decide | exact xs_ (by decide) | exact xc_ (by decide) | exact x31_ (by decide) | omega) (by first | assumption | decide | exact xs_ (by decide) | exact xc_ (by decide) | exact x31_ (by decide) | omega) ht ⟨Sρ49, Kρ49, Fρ49⟩ (by first | assumption | decide | exact xs_ (by decide) | exact xc_ (by decide) | exact x31_ (by decide) | omega) ((hJ.lk hCI (l := (V 13 l 0)) (by first | assumption | decide | exact xs_ (by decide) | exact xc_ (by decide) | exact x31_ (by decide) | omega) (by first | assumption | decide | exact xs_ (by decide) | exact xc_ (by decide) | exact x31_ (by decide) | omega)).to (fun c2 x y h => mu_ne (by first | assumption | decide | exact xs_ (by decide) | exact xc_ (by decide) | exact x31_ (by decide) | omega))) (by rw [eO11, eO7]; exact hCI.2.1 (V 13 l 0) (by first | assumption | decide | exact xs_ (by decide) | exact xc_ (by decide) | exact x31_ (by decide) | omega) (by first | assumption | decide | exact xs_ (by decide) | exact xc_ (by decide) | exact x31_ (by decide) | omega)) (by rw [eO8, eO7]; exact hJ.1 (V 13 l 0) (by first | assumption | decide | exact xs_ (by decide) | exact xc_ (by decide) | exact x31_ (by decide) | omega) (by first | assumption | decide | exact xs_ (by decide) | exact xc_ (by decide) | exact x31_ (by decide) | omega)) (by rw [eO7]; omega) (by rw [eO7, eO7]; intro q; have := hCI.size (i := (V 13 l 0)) (by first | assumption | decide | exact xs_ (by decide) | exact xc_ (by decide) | exact x31_ (by decide) | omega) (by first | assumption | decide | exact xs_ (by decide) | exact xc_ (by decide) | exact x31_ (by decide) | omega) q; omega) (fun ρ52 Rρ52 => ?_)
                          refine y_vret hK rfl dX6_give_214 ?_
                          have hN : gvN V l = (cm (V 16 0) (V 15 0) (V 7 l 2) (fun j => V 9 l (w12 + j)) (((V 7 l 6) - 1) + 1 - w12).toNat (V 13 l 2)) := by unfold gvN; rw [hs_, show (V 7 l 6 - w12).toNat = (V 7 l 6 - 1 + 1 - w12).toNat from by omega]
                          have hm : gvM V l z = (plM (mu V 13 l 3 (wr ((V 13 l 3) + 1))) (V 13 l 0) (V 8 l ((V 7 l 6) - 1)) (cm (V 16 0) (V 15 0) (V 7 l 2) (fun j => V 9 l (w12 + j)) (((V 7 l 6) - 1) + 1 - w12).toNat (V 13 l 2))) := by
                            unfold gvM
                            rw [if_pos ⟨by omega, by omega, by omega, by unfold fuV; omega, by rw [hN]; unfold NO; omega, by unfold ltV; omega⟩, hN]
                            rw [show max (-1000) (min 1000 (cm (V 16 0) (V 15 0) (V 7 l 2) (fun j => V 9 l (w12 + j)) (((V 7 l 6) - 1) + 1 - w12).toNat (V 13 l 2))) = (cm (V 16 0) (V 15 0) (V 7 l 2) (fun j => V 9 l (w12 + j)) (((V 7 l 6) - 1) + 1 - w12).toNat (V 13 l 2)) from by omega]
                          rw [hm] at k
                          exact k _ ⟨Rρ52.1, Rρ52.2.1, Rρ52.2.2⟩
                        · refine r_sipush hC dX6_give_203 rfl ?_
                          refine r_goto (tgt := 211) hC dX6_give_206 rfl ?_
                          refine z_inv3 hM dX6_give_211 vl_RX6_253 rfl rfl rfl (Nat.le_of_ble_eq_true rfl) (Nat.le_of_ble_eq_true rfl) ?_
                          have hO6 := hCI.h7 (l := (V 13 l 0)) (by first | assumption | decide | exact xs_ (by decide) | exact xc_ (by decide) | exact x31_ (by decide) | omega) (by first | assumption | decide | exact xs_ (by decide) | exact xc_ (by decide) | exact x31_ (by decide) | omega)
                          have eO7 : ∀ y : Int, (mu V 13 l 3 (wr ((V 13 l 3) + 1))) 7 (V 13 l 0) y = V 7 (V 13 l 0) y := fun y => mu_ne (by first | assumption | decide | exact xs_ (by decide) | exact xc_ (by decide) | exact x31_ (by decide) | omega)
                          have eO11 : (mu V 13 l 3 (wr ((V 13 l 3) + 1))) 11 (V 13 l 0) = V 11 (V 13 l 0) := funext fun y => mu_ne (by first | assumption | decide | exact xs_ (by decide) | exact xc_ (by decide) | exact x31_ (by decide) | omega)
                          have eO8 : (mu V 13 l 3 (wr ((V 13 l 3) + 1))) 8 (V 13 l 0) = V 8 (V 13 l 0) := funext fun y => mu_ne (by first | assumption | decide | exact xs_ (by decide) | exact xc_ (by decide) | exact x31_ (by decide) | omega)
                          refine y_enter (V := (mu V 13 l 3 (wr ((V 13 l 3) + 1)))) (l := (V 13 l 0)) (z := (V 8 l ((V 7 l 6) - 1))) (v := 1000) (by first | assumption | decide | exact xs_ (by decide) | exact xc_ (by decide) | exact x31_ (by decide) | omega) (by first | assumption | decide | exact xs_ (by decide) | exact xc_ (by decide) | exact x31_ (by decide) | omega) (by first | assumption | decide | exact xs_ (by decide) | exact xc_ (by decide) | exact x31_ (by decide) | omega) ht ⟨Sρ49, Kρ49, Fρ49⟩ (by first | assumption | decide | exact xs_ (by decide) | exact xc_ (by decide) | exact x31_ (by decide) | omega) ((hJ.lk hCI (l := (V 13 l 0)) (by first | assumption | decide | exact xs_ (by decide) | exact xc_ (by decide) | exact x31_ (by decide) | omega) (by first | assumption | decide | exact xs_ (by decide) | exact xc_ (by decide) | exact x31_ (by decide) | omega)).to (fun c2 x y h => mu_ne (by first | assumption | decide | exact xs_ (by decide) | exact xc_ (by decide) | exact x31_ (by decide) | omega))) (by rw [eO11, eO7]; exact hCI.2.1 (V 13 l 0) (by first | assumption | decide | exact xs_ (by decide) | exact xc_ (by decide) | exact x31_ (by decide) | omega) (by first | assumption | decide | exact xs_ (by decide) | exact xc_ (by decide) | exact x31_ (by decide) | omega)) (by rw [eO8, eO7]; exact hJ.1 (V 13 l 0) (by first | assumption | decide | exact xs_ (by decide) | exact xc_ (by decide) | exact x31_ (by decide) | omega) (by first | assumption | decide | exact xs_ (by decide) | exact xc_ (by decide) | exact x31_ (by decide) | omega)) (by rw [eO7]; omega) (by rw [eO7, eO7]; intro q; have := hCI.size (i := (V 13 l 0)) (by first | assumption | decide | exact xs_ (by decide) | exact xc_ (by decide) | exact x31_ (by decide) | omega) (by first | assumption | decide | exact xs_ (by decide) | exact xc_ (by decide) | exact x31_ (by decide) | omega) q; omega) (fun ρ53 Rρ53 => ?_)
                          refine y_vret hK rfl dX6_give_214 ?_
                          have hN : gvN V l = (cm (V 16 0) (V 15 0) (V 7 l 2) (fun j => V 9 l (w12 + j)) (((V 7 l 6) - 1) + 1 - w12).toNat (V 13 l 2)) := by unfold gvN; rw [hs_, show (V 7 l 6 - w12).toNat = (V 7 l 6 - 1 + 1 - w12).toNat from by omega]
                          have hm : gvM V l z = (plM (mu V 13 l 3 (wr ((V 13 l 3) + 1))) (V 13 l 0) (V 8 l ((V 7 l 6) - 1)) 1000) := by
                            unfold gvM
                            rw [if_pos ⟨by omega, by omega, by omega, by unfold fuV; omega, by rw [hN]; unfold NO; omega, by unfold ltV; omega⟩, hN]
                            rw [show max (-1000) (min 1000 (cm (V 16 0) (V 15 0) (V 7 l 2) (fun j => V 9 l (w12 + j)) (((V 7 l 6) - 1) + 1 - w12).toNat (V 13 l 2))) = 1000 from by omega]
                          rw [hm] at k
                          exact k _ ⟨Rρ53.1, Rρ53.2.1, Rρ53.2.2⟩
                      · refine r_sipush hC dX6_give_189 rfl ?_
                        refine r_goto (tgt := 211) hC dX6_give_192 rfl ?_
                        refine z_inv3 hM dX6_give_211 vl_RX6_253 rfl rfl rfl (Nat.le_of_ble_eq_true rfl) (Nat.le_of_ble_eq_true rfl) ?_
                        have hO6 := hCI.h7 (l := (V 13 l 0)) (by first | assumption | decide | exact xs_ (by decide) | exact xc_ (by decide) | exact x31_ (by decide) | omega) (by first | assumption | decide | exact xs_ (by decide) | exact xc_ (by decide) | exact x31_ (by decide) | omega)
                        have eO7 : ∀ y : Int, (mu V 13 l 3 (wr ((V 13 l 3) + 1))) 7 (V 13 l 0) y = V 7 (V 13 l 0) y := fun y => mu_ne (by first | assumption | decide | exact xs_ (by decide) | exact xc_ (by decide) | exact x31_ (by decide) | omega)
                        have eO11 : (mu V 13 l 3 (wr ((V 13 l 3) + 1))) 11 (V 13 l 0) = V 11 (V 13 l 0) := funext fun y => mu_ne (by first | assumption | decide | exact xs_ (by decide) | exact xc_ (by decide) | exact x31_ (by decide) | omega)
                        have eO8 : (mu V 13 l 3 (wr ((V 13 l 3) + 1))) 8 (V 13 l 0) = V 8 (V 13 l 0) := funext fun y => mu_ne (by first | assumption | decide | exact xs_ (by decide) | exact xc_ (by decide) | exact x31_ (by decide) | omega)
                        refine y_enter (V := (mu V 13 l 3 (wr ((V 13 l 3) + 1)))) (l := (V 13 l 0)) (z := (V 8 l ((V 7 l 6) - 1))) (v := (-1000)) (by first | assumption | decide | exact xs_ (by decide) | exact xc_ (by decide) | exact x31_ (by decide) | omega) (by first | assumption | decide | exact xs_ (by decide) | exact xc_ (by decide) | exact x31_ (by decide) | omega) (by first | assumption | decide | exact xs_ (by decide) | exact xc_ (by decide) | exact x31_ (by decide) | omega) ht ⟨Sρ49, Kρ49, Fρ49⟩ (by first | assumption | decide | exact xs_ (by decide) | exact xc_ (by decide) | exact x31_ (by decide) | omega) ((hJ.lk hCI (l := (V 13 l 0)) (by first | assumption | decide | exact xs_ (by decide) | exact xc_ (by decide) | exact x31_ (by decide) | omega) (by first | assumption | decide | exact xs_ (by decide) | exact xc_ (by decide) | exact x31_ (by decide) | omega)).to (fun c2 x y h => mu_ne (by first | assumption | decide | exact xs_ (by decide) | exact xc_ (by decide) | exact x31_ (by decide) | omega))) (by rw [eO11, eO7]; exact hCI.2.1 (V 13 l 0) (by first | assumption | decide | exact xs_ (by decide) | exact xc_ (by decide) | exact x31_ (by decide) | omega) (by first | assumption | decide | exact xs_ (by decide) | exact xc_ (by decide) | exact x31_ (by decide) | omega)) (by rw [eO8, eO7]; exact hJ.1 (V 13 l 0) (by first | assumption | decide | exact xs_ (by decide) | exact xc_ (by decide) | exact x31_ (by decide) | omega) (by first | assumption | decide | exact xs_ (by decide) | exact xc_ (by decide) | exact x31_ (by decide) | omega)) (by rw [eO7]; omega) (by rw [eO7, eO7]; intro q; have := hCI.size (i := (V 13 l 0)) (by first | assumption | decide | exact xs_ (by decide) | exact xc_ (by decide) | exact x31_ (by decide) | omega) (by first | assumption | decide | exact xs_ (by decide) | exact xc_ (by decide) | exact x31_ (by decide) | omega) q; omega) (fun ρ54 Rρ54 => ?_)
                        refine y_vret hK rfl dX6_give_214 ?_
                        have hN : gvN V l = (cm (V 16 0) (V 15 0) (V 7 l 2) (fun j => V 9 l (w12 + j)) (((V 7 l 6) - 1) + 1 - w12).toNat (V 13 l 2)) := by unfold gvN; rw [hs_, show (V 7 l 6 - w12).toNat = (V 7 l 6 - 1 + 1 - w12).toNat from by omega]
                        have hm : gvM V l z = (plM (mu V 13 l 3 (wr ((V 13 l 3) + 1))) (V 13 l 0) (V 8 l ((V 7 l 6) - 1)) (-1000)) := by
                          unfold gvM
                          rw [if_pos ⟨by omega, by omega, by omega, by unfold fuV; omega, by rw [hN]; unfold NO; omega, by unfold ltV; omega⟩, hN]
                          rw [show max (-1000) (min 1000 (cm (V 16 0) (V 15 0) (V 7 l 2) (fun j => V 9 l (w12 + j)) (((V 7 l 6) - 1) + 1 - w12).toNat (V 13 l 2))) = (-1000) from by omega]
                        rw [hm] at k
                        exact k _ ⟨Rρ54.1, Rρ54.2.1, Rρ54.2.2⟩
                · refine y_vret hK rfl dX6_give_126 ?_
                  have hm : gvM V l z = V := if_neg (fun q => by have q1 := q.1; have q2 := q.2.1; have q3 := q.2.2.1; have q4 := q.2.2.2.1; have q5 := q.2.2.2.2.1; have q6 := q.2.2.2.2.2; unfold gvN at q5; rw [hs_, show (V 7 l 6 - w12).toNat = (V 7 l 6 - 1 + 1 - w12).toNat from by omega] at q5; unfold NO at q5; unfold fuV at *; unfold ltV at *; omega)
                  rw [hm] at k
                  exact k _ ⟨Rρ38.1, Rρ38.2.1, Rρ38.2.2⟩
              · refine r_iincE hC ((w12 - 1)) dX6_give_97 rfl rfl (by first | assumption | decide | exact xs_ (by decide) | exact xc_ (by decide) | exact x31_ (by decide) | omega) (by unfold inR; omega) ?_
                refine r_goto (tgt := 56) hC dX6_give_100 rfl ?_
                exact ih56 ((w12 - 1))  (by first | assumption | decide | exact xs_ (by decide) | exact xc_ (by decide) | exact x31_ (by decide) | omega) (by first | rfl | (rw [← ses_no (by first | assumption | decide | exact xs_ (by decide) | exact xc_ (by decide) | exact x31_ (by decide) | omega) (by first | assumption | decide | exact xs_ (by decide) | exact xc_ (by decide) | exact x31_ (by decide) | omega)]; exact i0_56)) (by first | assumption | decide | exact xs_ (by decide) | exact xc_ (by decide) | exact x31_ (by decide) | omega)  
        exact L56 122 (((V 7 l 6) - 1))  (by first | assumption | decide | exact xs_ (by decide) | exact xc_ (by decide) | exact x31_ (by decide) | omega) (by first | rfl | (rw [← ses_no (by first | assumption | decide | exact xs_ (by decide) | exact xc_ (by decide) | exact x31_ (by decide) | omega) (by first | assumption | decide | exact xs_ (by decide) | exact xc_ (by decide) | exact x31_ (by decide) | omega)]; exact i0_56)) (by first | assumption | decide | exact xs_ (by decide) | exact xc_ (by decide) | exact x31_ (by decide) | omega)  
      · refine y_vret hK rfl dX6_give_52 ?_
        have hm : gvM V l z = V := if_neg (fun q => by have q1 := q.1; have q2 := q.2.1; have q3 := q.2.2.1; have q4 := q.2.2.2.1; have q5 := q.2.2.2.2.1; have q6 := q.2.2.2.2.2; unfold fuV at *; unfold ltV at *; omega)
        rw [hm] at k
        exact k _ ⟨hR.1, hR.2.1, hR.2.2⟩
    · refine y_vret hK rfl dX6_give_17 ?_
      have hm : gvM V l z = V := if_neg (fun q => by have q1 := q.1; have q2 := q.2.1; have q3 := q.2.2.1; have q4 := q.2.2.2.1; have q5 := q.2.2.2.2.1; have q6 := q.2.2.2.2.2; unfold fuV at *; unfold ltV at *; omega)
      rw [hm] at k
      exact k _ ⟨hR.1, hR.2.1, hR.2.2⟩
theorem y_seeMost {eb : Bool} {t : Int} {V : Mm} {d : Nat} {P : Option Vl → Mm → Prop} {σ : Mm} {l : Int} (b_l : 0 ≤ l ∧ l ≤ 7) {σ0 : Mm} (ht : 6 ≤ t ∧ t ≤ 7) (hR : RS t σ0 V σ) (hl : l ≤ t)  (k : ∀ ρ : Mm, RS t σ0 (mu V 7 l 15 (max (V 7 l 15) (V 7 l 6))) ρ → P none ρ) : WT (true, eb, true) (d + 3) 195 [vR 30 0, vI l] σ P := by
  refine WT_in fun K hK => ?_
  have hK : StpY (true, eb, true) cX6_seeMost RX6 (none) (WT (true, eb, true) (d + 2)) P K := hK
  have hM := hK.1
  have hC := hK.1.1
  show K 0 [some (vR 30 0), some (vI l)] [] σ
  refine r_aload_n hC dX6_seeMost_0 rfl ?_
  refine r_iload_n hC dX6_seeMost_1 rfl ?_
  refine z_inv1 hM dX6_seeMost_2 vl_RX6_116 rfl rfl rfl (Nat.le_of_ble_eq_true rfl) (Nat.le_of_ble_eq_true rfl) ?_
  refine y_heldOf (by first | assumption | decide | exact xs_ (by decide) | exact xc_ (by decide) | exact x31_ (by decide) | omega) (fun o1 => ?_)
  have e2 : σ 31 0 (22 * l + 5) = (V 7 l 6) := (hR.1.a7 (s := 6) (f := 5) (by first | assumption | decide | exact xs_ (by decide) | exact xc_ (by decide) | exact x31_ (by decide) | omega) (by first | assumption | decide | exact xs_ (by decide) | exact xc_ (by decide) | exact x31_ (by decide) | omega) (by first | assumption | decide | exact xs_ (by decide) | exact xc_ (by decide) | exact x31_ (by decide) | omega)).trans (rfl)
  rw [e2] at o1 ⊢
  have qo1 : 0 ≤ (V 7 l 6) ∧ (V 7 l 6) ≤ 121 := o1.1 (by first | assumption | decide | exact xs_ (by decide) | exact xc_ (by decide) | exact x31_ (by decide) | omega)
  refine r_aload_n hC dX6_seeMost_5 rfl ?_
  refine r_iload_n hC dX6_seeMost_6 rfl ?_
  refine r_bipush hC dX6_seeMost_7 rfl ?_
  refine z_inv2 hM dX6_seeMost_9 vl_RX6_80 rfl rfl rfl (Nat.le_of_ble_eq_true rfl) (Nat.le_of_ble_eq_true rfl) ?_
  refine y_of (by first | assumption | decide | exact xs_ (by decide) | exact xc_ (by decide) | exact x31_ (by decide) | omega) (by first | assumption | decide | exact xs_ (by decide) | exact xc_ (by decide) | exact x31_ (by decide) | omega) (by first | assumption | decide | exact xs_ (by decide) | exact xc_ (by decide) | exact x31_ (by decide) | omega) (fun o3 => ?_)
  have e4 : σ 31 0 (22 * l + 11) = (V 7 l 15) := (hR.1.a7 (s := 15) (f := 11) (by first | assumption | decide | exact xs_ (by decide) | exact xc_ (by decide) | exact x31_ (by decide) | omega) (by first | assumption | decide | exact xs_ (by decide) | exact xc_ (by decide) | exact x31_ (by decide) | omega) (by first | assumption | decide | exact xs_ (by decide) | exact xc_ (by decide) | exact x31_ (by decide) | omega)).trans (rfl)
  rw [e4] at o3 ⊢
  refine r_icmp_le (tgt := 27) hC dX6_seeMost_12 rfl (fun h5 => ?_) (fun h5 => ?_)
  · refine y_vret hK rfl dX6_seeMost_27 ?_
    have e : (mu V 7 l 15 (max (V 7 l 15) (V 7 l 6))) = V := mu_same (by first | assumption | decide | exact xs_ (by decide) | exact xc_ (by decide) | exact x31_ (by decide) | omega)
    rw [e] at k
    exact k _ ⟨hR.1, hR.2.1, hR.2.2⟩
  · refine r_aload_n hC dX6_seeMost_15 rfl ?_
    refine r_iload_n hC dX6_seeMost_16 rfl ?_
    refine r_bipush hC dX6_seeMost_17 rfl ?_
    refine r_aload_n hC dX6_seeMost_19 rfl ?_
    refine r_iload_n hC dX6_seeMost_20 rfl ?_
    refine z_inv1 hM dX6_seeMost_21 vl_RX6_116 rfl rfl rfl (Nat.le_of_ble_eq_true rfl) (Nat.le_of_ble_eq_true rfl) ?_
    refine y_heldOf (by first | assumption | decide | exact xs_ (by decide) | exact xc_ (by decide) | exact x31_ (by decide) | omega) (fun o6 => ?_)
    have e7 : σ 31 0 (22 * l + 5) = (V 7 l 6) := (hR.1.a7 (s := 6) (f := 5) (by first | assumption | decide | exact xs_ (by decide) | exact xc_ (by decide) | exact x31_ (by decide) | omega) (by first | assumption | decide | exact xs_ (by decide) | exact xc_ (by decide) | exact x31_ (by decide) | omega) (by first | assumption | decide | exact xs_ (by decide) | exact xc_ (by decide) | exact x31_ (by decide) | omega)).trans (rfl)
    rw [e7] at o6 ⊢
    have qo6 : 0 ≤ (V 7 l 6) ∧ (V 7 l 6) ≤ 121 := o6.1 (by first | assumption | decide | exact xs_ (by decide) | exact xc_ (by decide) | exact x31_ (by decide) | omega)
    refine z_inv3 hM dX6_seeMost_24 vl_RX6_173 rfl rfl rfl (Nat.le_of_ble_eq_true rfl) (Nat.le_of_ble_eq_true rfl) ?_
    refine y_set (by first | assumption | decide | exact xs_ (by decide) | exact xc_ (by decide) | exact x31_ (by decide) | omega) (by first | assumption | decide | exact xs_ (by decide) | exact xc_ (by decide) | exact x31_ (by decide) | omega) ⟨fun h => by omega, fun h => by omega⟩ ?_
    obtain ⟨ρ8, e_ρ8⟩ : ∃ zz_, zz_ = mu σ 31 0 ((22 * l) + 11) (V 7 l 6) := ⟨_, rfl⟩
    rw [← e_ρ8]
    have Sρ8 : SB t σ0 (mu V 7 l 15 (V 7 l 6)) ρ8 := by rw [e_ρ8, show ((22 * l) + 11) = 22 * l + 11 from by omega]; exact hR.1.p7 (by first | assumption | decide | exact xs_ (by decide) | exact xc_ (by decide) | exact x31_ (by decide) | omega) (by first | assumption | decide | exact xs_ (by decide) | exact xc_ (by decide) | exact x31_ (by decide) | omega) (by first | assumption | decide | exact xs_ (by decide) | exact xc_ (by decide) | exact x31_ (by decide) | omega)
    have Kρ8 : KF t (mu V 7 l 15 (V 7 l 6)) ρ8 := by rw [e_ρ8]; exact (hR.2.1).e (fun l a b => ⟨mu_ne (by first | assumption | decide | exact xs_ (by decide) | exact xc_ (by decide) | exact x31_ (by decide) | omega), mu_ne (by first | assumption | decide | exact xs_ (by decide) | exact xc_ (by decide) | exact x31_ (by decide) | omega)⟩) |>.v (fun l => mu_ne (by first | assumption | decide | exact xs_ (by decide) | exact xc_ (by decide) | exact x31_ (by decide) | omega))
    have Fρ8 : FB (mu V 7 l 15 (V 7 l 6)) ρ8 := by rw [e_ρ8]; exact (hR.2.2).e (fun l a b => mu_ne (by first | assumption | decide | exact xs_ (by decide) | exact xc_ (by decide) | exact x31_ (by decide) | omega)) |>.v (fun l y a b c => mu_ne (by first | assumption | decide | exact xs_ (by decide) | exact xc_ (by decide) | exact x31_ (by decide) | omega))
    refine y_vret hK rfl dX6_seeMost_27 ?_
    have e : (mu V 7 l 15 (max (V 7 l 15) (V 7 l 6))) = (mu V 7 l 15 (V 7 l 6)) := mu_eq (by first | assumption | decide | exact xs_ (by decide) | exact xc_ (by decide) | exact x31_ (by decide) | omega)
    rw [e] at k
    exact k _ ⟨Sρ8, Kρ8, Fρ8⟩
theorem y_behindCall {eb : Bool} {t : Int} {V : Mm} {d : Nat} {P : Option Vl → Mm → Prop} {σ : Mm} {l : Int} (b_l : 0 ≤ l ∧ l ≤ 3) {σ0 : Mm} (ht : 6 ≤ t ∧ t ≤ 7) (hR : RS t σ0 V σ) (hk : -1 ≤ V 13 l 0 ∧ V 13 l 0 ≤ 3) (hkl : V 13 l 0 ≠ l) (hm : ∀ x : Int, 0 ≤ x → x ≤ 3 → x ≠ l → x ≠ V 13 l 0 → V 7 x 6 ≤ V 7 x 15)  (k : ∀ ρ : Mm, RS t σ0 (ntM V) ρ → P (some (vI (V 7 l 6))) ρ) : WT (true, eb, true) (d + 4) 196 [vR 30 0, vI l] σ P := by
  refine WT_in fun K hK => ?_
  have hK : StpY (true, eb, true) cX6_behindCall RX6 (some .int) (WT (true, eb, true) (d + 3)) P K := hK
  have hM := hK.1
  have hC := hK.1.1
  show K 0 [some (vR 30 0), some (vI l)] [] σ
  refine r_aload_n hC dX6_behindCall_0 rfl ?_
  refine r_iload_n hC dX6_behindCall_1 rfl ?_
  refine z_inv1 hM dX6_behindCall_2 vl_RX6_236 rfl rfl rfl (Nat.le_of_ble_eq_true rfl) (Nat.le_of_ble_eq_true rfl) ?_
  refine y_seeMost (V := V) (l := l) (by first | assumption | decide | exact xs_ (by decide) | exact xc_ (by decide) | exact x31_ (by decide) | omega) ht ⟨hR.1, hR.2.1, hR.2.2⟩ (by first | assumption | decide | exact xs_ (by decide) | exact xc_ (by decide) | exact x31_ (by decide) | omega) (fun ρ1 Rρ1 => ?_)
  refine r_aload_n hC dX6_behindCall_5 rfl ?_
  refine z_getR hM dX6_behindCall_6 fl_RX6_52 rfl rfl (vld_of (n := 1) rfl (by first | assumption | decide | exact xs_ (by decide) | exact xc_ (by decide) | exact x31_ (by decide) | omega) (by first | assumption | decide | exact xs_ (by decide) | exact xc_ (by decide) | exact x31_ (by decide) | omega)) ?_
  refine r_iload_n hC dX6_behindCall_9 rfl ?_
  refine z_iald hM dX6_behindCall_10 rfl (by first | assumption | decide | exact xs_ (by decide) | exact xc_ (by decide) | exact x31_ (by decide) | omega) (by first | assumption | decide | exact xs_ (by decide) | exact xc_ (by decide) | exact x31_ (by decide) | omega) (fun v2 h_v2 o_v2 t_v2 => ?_)
  have w_v2 := ((t_v2 (Or.inl (by simp [Tb]))).trans ((Rρ1.1.k0 (by first | assumption | decide | exact xs_ (by decide) | exact xc_ (by decide) | exact x31_ (by decide) | omega) (by first | assumption | decide | exact xs_ (by decide) | exact xc_ (by decide) | exact x31_ (by decide) | omega)).trans ((mu_ne (by first | assumption | decide | exact xs_ (by decide) | exact xc_ (by decide) | exact x31_ (by decide) | omega)).trans (rfl)))).symm
  subst w_v2
  have q_v2 : -1 ≤ (V 13 l 0) ∧ (V 13 l 0) ≤ 3 := o_v2
  refine r_if_lt (tgt := 24) hC dX6_behindCall_11 rfl (fun h3 => ?_) (fun h3 => ?_)
  · refine r_aload_n hC dX6_behindCall_24 rfl ?_
    refine r_iload_n hC dX6_behindCall_25 rfl ?_
    refine z_inv1 hM dX6_behindCall_26 vl_RX6_116 rfl rfl rfl (Nat.le_of_ble_eq_true rfl) (Nat.le_of_ble_eq_true rfl) ?_
    refine y_heldOf (by first | assumption | decide | exact xs_ (by decide) | exact xc_ (by decide) | exact x31_ (by decide) | omega) (fun o4 => ?_)
    have e5 : ρ1 31 0 (22 * l + 5) = (V 7 l 6) := (Rρ1.1.a7 (s := 6) (f := 5) (by first | assumption | decide | exact xs_ (by decide) | exact xc_ (by decide) | exact x31_ (by decide) | omega) (by first | assumption | decide | exact xs_ (by decide) | exact xc_ (by decide) | exact x31_ (by decide) | omega) (by first | assumption | decide | exact xs_ (by decide) | exact xc_ (by decide) | exact x31_ (by decide) | omega)).trans ((mu_ne (by first | assumption | decide | exact xs_ (by decide) | exact xc_ (by decide) | exact x31_ (by decide) | omega)).trans (rfl))
    rw [e5] at o4 ⊢
    have qo4 : 0 ≤ (V 7 l 6) ∧ (V 7 l 6) ≤ 121 := o4.1 (by first | assumption | decide | exact xs_ (by decide) | exact xc_ (by decide) | exact x31_ (by decide) | omega)
    refine y_iret hK rfl dX6_behindCall_29 ?_
    have e : ntM V = (mu V 7 l 15 (max (V 7 l 15) (V 7 l 6))) := by
      funext c x y
      unfold ntM
      by_cases q : c = 7 ∧ (0 ≤ x ∧ x ≤ 3) ∧ y = 15
      · obtain ⟨rfl, q1, rfl⟩ := q
        rw [if_pos ⟨rfl, q1, rfl⟩]
        by_cases ex : x = l
        · subst ex
          rw [mu_self]
        · rw [mu_ne (by first | assumption | decide | exact xs_ (by decide) | exact xc_ (by decide) | exact x31_ (by decide) | omega)]; have := hm x q1.1 q1.2 ex (by first | assumption | decide | exact xs_ (by decide) | exact xc_ (by decide) | exact x31_ (by decide) | omega); omega
      · rw [if_neg q, mu_ne (by first | assumption | decide | exact xs_ (by decide) | exact xc_ (by decide) | exact x31_ (by decide) | omega)]
    rw [e] at k
    rw [show V 7 l 6 = (V 7 l 6) from by omega] at k
    exact k _ ⟨Rρ1.1, Rρ1.2.1, Rρ1.2.2⟩
  · refine r_aload_n hC dX6_behindCall_14 rfl ?_
    refine r_aload_n hC dX6_behindCall_15 rfl ?_
    refine z_getR hM dX6_behindCall_16 fl_RX6_52 rfl rfl (vld_of (n := 1) rfl (by first | assumption | decide | exact xs_ (by decide) | exact xc_ (by decide) | exact x31_ (by decide) | omega) (by first | assumption | decide | exact xs_ (by decide) | exact xc_ (by decide) | exact x31_ (by decide) | omega)) ?_
    refine r_iload_n hC dX6_behindCall_19 rfl ?_
    refine z_iald hM dX6_behindCall_20 rfl (by first | assumption | decide | exact xs_ (by decide) | exact xc_ (by decide) | exact x31_ (by decide) | omega) (by first | assumption | decide | exact xs_ (by decide) | exact xc_ (by decide) | exact x31_ (by decide) | omega) (fun v6 h_v6 o_v6 t_v6 => ?_)
    have w_v6 := ((t_v6 (Or.inl (by simp [Tb]))).trans ((Rρ1.1.k0 (by first | assumption | decide | exact xs_ (by decide) | exact xc_ (by decide) | exact x31_ (by decide) | omega) (by first | assumption | decide | exact xs_ (by decide) | exact xc_ (by decide) | exact x31_ (by decide) | omega)).trans ((mu_ne (by first | assumption | decide | exact xs_ (by decide) | exact xc_ (by decide) | exact x31_ (by decide) | omega)).trans (rfl)))).symm
    subst w_v6
    have q_v6 : -1 ≤ (V 13 l 0) ∧ (V 13 l 0) ≤ 3 := o_v6
    refine z_inv1 hM dX6_behindCall_21 vl_RX6_236 rfl rfl rfl (Nat.le_of_ble_eq_true rfl) (Nat.le_of_ble_eq_true rfl) ?_
    refine y_seeMost (V := (mu V 7 l 15 (max (V 7 l 15) (V 7 l 6)))) (l := (V 13 l 0)) (by first | assumption | decide | exact xs_ (by decide) | exact xc_ (by decide) | exact x31_ (by decide) | omega) ht ⟨Rρ1.1, Rρ1.2.1, Rρ1.2.2⟩ (by first | assumption | decide | exact xs_ (by decide) | exact xc_ (by decide) | exact x31_ (by decide) | omega) (fun ρ7 Rρ7 => ?_)
    refine r_aload_n hC dX6_behindCall_24 rfl ?_
    refine r_iload_n hC dX6_behindCall_25 rfl ?_
    refine z_inv1 hM dX6_behindCall_26 vl_RX6_116 rfl rfl rfl (Nat.le_of_ble_eq_true rfl) (Nat.le_of_ble_eq_true rfl) ?_
    refine y_heldOf (by first | assumption | decide | exact xs_ (by decide) | exact xc_ (by decide) | exact x31_ (by decide) | omega) (fun o8 => ?_)
    have e9 : ρ7 31 0 (22 * l + 5) = (V 7 l 6) := (Rρ7.1.a7 (s := 6) (f := 5) (by first | assumption | decide | exact xs_ (by decide) | exact xc_ (by decide) | exact x31_ (by decide) | omega) (by first | assumption | decide | exact xs_ (by decide) | exact xc_ (by decide) | exact x31_ (by decide) | omega) (by first | assumption | decide | exact xs_ (by decide) | exact xc_ (by decide) | exact x31_ (by decide) | omega)).trans ((mu_ne (by first | assumption | decide | exact xs_ (by decide) | exact xc_ (by decide) | exact x31_ (by decide) | omega)).trans ((mu_ne (by first | assumption | decide | exact xs_ (by decide) | exact xc_ (by decide) | exact x31_ (by decide) | omega)).trans (rfl)))
    rw [e9] at o8 ⊢
    have qo8 : 0 ≤ (V 7 l 6) ∧ (V 7 l 6) ≤ 121 := o8.1 (by first | assumption | decide | exact xs_ (by decide) | exact xc_ (by decide) | exact x31_ (by decide) | omega)
    refine y_iret hK rfl dX6_behindCall_29 ?_
    have e : ntM V = (mu (mu V 7 l 15 (max (V 7 l 15) (V 7 l 6))) 7 (V 13 l 0) 15 (max ((mu V 7 l 15 (max (V 7 l 15) (V 7 l 6))) 7 (V 13 l 0) 15) ((mu V 7 l 15 (max (V 7 l 15) (V 7 l 6))) 7 (V 13 l 0) 6))) := by
      funext c x y
      unfold ntM
      by_cases q : c = 7 ∧ (0 ≤ x ∧ x ≤ 3) ∧ y = 15
      · obtain ⟨rfl, q1, rfl⟩ := q
        rw [if_pos ⟨rfl, q1, rfl⟩]
        by_cases ex : x = l
        · subst ex
          rw [mu_ne (by first | assumption | decide | exact xs_ (by decide) | exact xc_ (by decide) | exact x31_ (by decide) | omega), mu_self]
        · by_cases eo : x = V 13 l 0
          · subst eo
            rw [mu_self, mu_ne (by first | assumption | decide | exact xs_ (by decide) | exact xc_ (by decide) | exact x31_ (by decide) | omega), mu_ne (by first | assumption | decide | exact xs_ (by decide) | exact xc_ (by decide) | exact x31_ (by decide) | omega)]
          · rw [mu_ne (by first | assumption | decide | exact xs_ (by decide) | exact xc_ (by decide) | exact x31_ (by decide) | omega), mu_ne (by first | assumption | decide | exact xs_ (by decide) | exact xc_ (by decide) | exact x31_ (by decide) | omega)]; have := hm x q1.1 q1.2 ex eo; omega
      · rw [if_neg q, mu_ne (by first | assumption | decide | exact xs_ (by decide) | exact xc_ (by decide) | exact x31_ (by decide) | omega), mu_ne (by first | assumption | decide | exact xs_ (by decide) | exact xc_ (by decide) | exact x31_ (by decide) | omega)]
    rw [e] at k
    rw [show V 7 l 6 = (V 7 l 6) from by omega] at k
    exact k _ ⟨Rρ7.1, Rρ7.2.1, Rρ7.2.2⟩
-- B: the reference: the calls that move
theorem y_isLane {eb : Bool} {t : Int} {V : Mm} {d : Nat} {P : Option Vl → Mm → Prop} {σ : Mm} {l : Int}  {σ0 : Mm} (ht : 6 ≤ t ∧ t ≤ 7) (hR : RS t σ0 V σ)  (k1 : opV V l → P (some (vI 1)) σ) (k0 : ¬ opV V l → P (some (vI 0)) σ) : WT (true, eb, true) (d + 2) 137 [vR 30 0, vI l] σ P := by
  refine WT_in fun K hK => ?_
  have hK : StpY (true, eb, true) cX6_isLane RX6 (some .boolean) (WT (true, eb, true) (d + 1)) P K := hK
  have hM := hK.1
  have hC := hK.1.1
  show K 0 [some (vR 30 0), some (vI l)] [] σ
  refine r_rngz hC (fun g0 => ?_)
  have r_l : -2147483648 ≤ l ∧ l ≤ 2147483647 := inR_le (g0 (vI l) (by simp))
  refine r_iload_n hC dX6_isLane_0 rfl ?_
  refine r_iconst hC dX6_isLane_1 rfl ?_
  refine r_iconst hC dX6_isLane_2 rfl ?_
  refine z_ins3 hM dX6_isLane_3 tl_RX6_76 rfl (Nat.le_of_ble_eq_true rfl) (Nat.le_of_ble_eq_true rfl) ?_
  refine m_isIn (fun h2 => ?_) (fun h2 => ?_)
  · refine r_if_eq (tgt := 28) hC dX6_isLane_6 rfl (fun h3 => by omega) (fun h3 => ?_)
    refine r_aload_n hC dX6_isLane_9 rfl ?_
    refine z_getR hM dX6_isLane_10 fl_RX6_7 rfl rfl (vld_of (n := 1) rfl (by first | assumption | decide | exact xs_ (by decide) | exact xc_ (by decide) | exact x31_ (by decide) | omega) (by first | assumption | decide | exact xs_ (by decide) | exact xc_ (by decide) | exact x31_ (by decide) | omega)) ?_
    refine r_bipush hC dX6_isLane_13 rfl ?_
    refine r_iload_n hC dX6_isLane_15 rfl ?_
    refine r_imulE hC ((22 * l)) dX6_isLane_16 (by first | assumption | decide | exact xs_ (by decide) | exact xc_ (by decide) | exact x31_ (by decide) | omega) (by unfold inR; omega) ?_
    refine r_iconst hC dX6_isLane_17 rfl ?_
    refine r_iaddE hC ((22 * l)) dX6_isLane_18 (by first | assumption | decide | exact xs_ (by decide) | exact xc_ (by decide) | exact x31_ (by decide) | omega) (by unfold inR; omega) ?_
    refine z_iald hM dX6_isLane_19 rfl (by first | assumption | decide | exact xs_ (by decide) | exact xc_ (by decide) | exact x31_ (by decide) | omega) (by first | assumption | decide | exact xs_ (by decide) | exact xc_ (by decide) | exact x31_ (by decide) | omega) (fun v4 h_v4 o_v4 t_v4 => ?_)
    have w_v4 := ((t_v4 (Or.inl (by simp only [Tb]; omega))).trans ((show σ 31 0 (22 * l) = V 7 l 1 from by rw [show (22 * l) = 22 * l + 0 from by omega]; exact hR.1.a7 (s := 1) (f := 0) (by first | assumption | decide | exact xs_ (by decide) | exact xc_ (by decide) | exact x31_ (by decide) | omega) (by first | assumption | decide | exact xs_ (by decide) | exact xc_ (by decide) | exact x31_ (by decide) | omega) (by first | assumption | decide | exact xs_ (by decide) | exact xc_ (by decide) | exact x31_ (by decide) | omega)).trans (rfl))).symm
    subst w_v4
    have q_v4 : 0 ≤ (V 7 l 1) ∧ (V 7 l 1) ≤ 1 := by have := o_v4.2 (by first | assumption | decide | exact xs_ (by decide) | exact xc_ (by decide) | exact x31_ (by decide) | omega); omega
    refine r_iconst hC dX6_isLane_20 rfl ?_
    refine r_icmp_ne (tgt := 28) hC dX6_isLane_21 rfl (fun h5 => ?_) (fun h5 => ?_)
    · refine r_iconst hC dX6_isLane_28 rfl ?_
      refine y_zret hK rfl dX6_isLane_29 (by first | assumption | decide | exact xs_ (by decide) | exact xc_ (by decide) | exact x31_ (by decide) | omega) ?_
      exact k0 (by unfold opV; omega)
    · refine r_iconst hC dX6_isLane_24 rfl ?_
      refine r_goto (tgt := 29) hC dX6_isLane_25 rfl ?_
      refine y_zret hK rfl dX6_isLane_29 (by first | assumption | decide | exact xs_ (by decide) | exact xc_ (by decide) | exact x31_ (by decide) | omega) ?_
      exact k1 (by unfold opV; omega)
  · refine r_if_eq (tgt := 28) hC dX6_isLane_6 rfl (fun h6 => ?_) (fun h6 => by omega)
    refine r_iconst hC dX6_isLane_28 rfl ?_
    refine y_zret hK rfl dX6_isLane_29 (by first | assumption | decide | exact xs_ (by decide) | exact xc_ (by decide) | exact x31_ (by decide) | omega) ?_
    exact k0 (by unfold opV; omega)
theorem y_come {eb : Bool} {t : Int} {V : Mm} {d : Nat} {P : Option Vl → Mm → Prop} {σ : Mm} {l z v : Int}  {σ0 : Mm} (ht : 6 ≤ t ∧ t ≤ 7) (hR : RS t σ0 V σ) (hG : GI V)  (k : ∀ ρ : Mm, RS t σ0 (coM V l z v) ρ → P (some (vI (coR V l z v))) ρ) : WT (true, eb, true) (d + 11) 205 [vR 30 0, vI l, vI z, vI v] σ P := by
  refine WT_in fun K hK => ?_
  have hK : StpY (true, eb, true) cX6_come RX6 (some .int) (WT (true, eb, true) (d + 10)) P K := hK
  have hM := hK.1
  have hC := hK.1.1
  show K 0 [some (vR 30 0), some (vI l), some (vI z), some (vI v)] [] σ
  refine r_rngz hC (fun g0 => ?_)
  have r_l : -2147483648 ≤ l ∧ l ≤ 2147483647 := inR_le (g0 (vI l) (by simp))
  have r_z : -2147483648 ≤ z ∧ z ≤ 2147483647 := inR_le (g0 (vI z) (by simp))
  have r_v : -2147483648 ≤ v ∧ v ≤ 2147483647 := inR_le (g0 (vI v) (by simp))
  refine r_aload_n hC dX6_come_0 rfl ?_
  refine r_iload_n hC dX6_come_1 rfl ?_
  refine z_inv1 hM dX6_come_2 vl_RX6_124 rfl rfl rfl (Nat.le_of_ble_eq_true rfl) (Nat.le_of_ble_eq_true rfl) ?_
  refine y_isLane (V := V) ht ⟨hR.1, hR.2.1, hR.2.2⟩ (fun h1 => ?_) (fun h1 => ?_)
  · unfold opV at h1
    refine r_if_eq (tgt := 31) hC dX6_come_5 rfl (fun h2 => by omega) (fun h2 => ?_)
    have h6 := hG.1.h7 (l := l) (by first | assumption | decide | exact xs_ (by decide) | exact xc_ (by decide) | exact x31_ (by decide) | omega) (by first | assumption | decide | exact xs_ (by decide) | exact xc_ (by decide) | exact x31_ (by decide) | omega)
    have h10 := hG.2.1.2.1 l (by first | assumption | decide | exact xs_ (by decide) | exact xc_ (by decide) | exact x31_ (by decide) | omega) (by first | assumption | decide | exact xs_ (by decide) | exact xc_ (by decide) | exact x31_ (by decide) | omega)
    have hlk := hG.2.1.2.2.2.2.2.1 l (by first | assumption | decide | exact xs_ (by decide) | exact xc_ (by decide) | exact x31_ (by decide) | omega) (by first | assumption | decide | exact xs_ (by decide) | exact xc_ (by decide) | exact x31_ (by decide) | omega)
    unfold opV at hlk
    have hk13 : -1 ≤ V 13 l 0 ∧ V 13 l 0 ≤ 3 := by omega
    have hkn := hG.1.2.2.2 l (by first | assumption | decide | exact xs_ (by decide) | exact xc_ (by decide) | exact x31_ (by decide) | omega) (by first | assumption | decide | exact xs_ (by decide) | exact xc_ (by decide) | exact x31_ (by decide) | omega)
    refine r_iload_n hC dX6_come_8 rfl ?_
    refine r_iconst hC dX6_come_9 rfl ?_
    refine r_ldc hC dX6_come_10 co_RX6_239 rfl ?_
    refine z_ins3 hM dX6_come_12 tl_RX6_76 rfl (Nat.le_of_ble_eq_true rfl) (Nat.le_of_ble_eq_true rfl) ?_
    refine m_isIn (fun h4 => ?_) (fun h4 => ?_)
    · refine r_if_eq (tgt := 31) hC dX6_come_15 rfl (fun h5 => by omega) (fun h5 => ?_)
      refine r_iload_n hC dX6_come_18 rfl ?_
      refine r_sipush hC dX6_come_19 rfl ?_
      refine r_sipush hC dX6_come_22 rfl ?_
      refine z_ins3 hM dX6_come_25 tl_RX6_76 rfl (Nat.le_of_ble_eq_true rfl) (Nat.le_of_ble_eq_true rfl) ?_
      refine m_isIn (fun h7 => ?_) (fun h7 => ?_)
      · refine r_if_ne (tgt := 33) hC dX6_come_28 rfl (fun h8 => ?_) (fun h8 => by omega)
        have hnl : V 7 l 10 = -1 → ¬ z < wr (V 7 l 10 - V 7 l 5) := fun q => lt_neg q (by first | assumption | decide | exact xs_ (by decide) | exact xc_ (by decide) | exact x31_ (by decide) | omega) (by first | assumption | decide | exact xs_ (by decide) | exact xc_ (by decide) | exact x31_ (by decide) | omega)
        refine r_aload_n hC dX6_come_33 rfl ?_
        refine r_iload_n hC dX6_come_34 rfl ?_
        refine r_iload_n hC dX6_come_35 rfl ?_
        refine z_inv2 hM dX6_come_36 vl_RX6_247 rfl rfl rfl (Nat.le_of_ble_eq_true rfl) (Nat.le_of_ble_eq_true rfl) ?_
        refine y_isLost (V := V) (by first | assumption | decide | exact xs_ (by decide) | exact xc_ (by decide) | exact x31_ (by decide) | omega) ht ⟨hR.1, hR.2.1, hR.2.2⟩ (by first | assumption | decide | exact xs_ (by decide) | exact xc_ (by decide) | exact x31_ (by decide) | omega) (fun h9 => ?_) (fun h9 => ?_)
        · refine r_if_eq (tgt := 53) hC dX6_come_39 rfl (fun h10 => by omega) (fun h10 => ?_)
          refine r_aload_n hC dX6_come_42 rfl ?_
          refine r_iload_n hC dX6_come_43 rfl ?_
          refine r_bipush hC dX6_come_44 rfl ?_
          refine r_iconst hC dX6_come_46 rfl ?_
          refine z_inv3 hM dX6_come_47 vl_RX6_188 rfl rfl rfl (Nat.le_of_ble_eq_true rfl) (Nat.le_of_ble_eq_true rfl) ?_
          refine y_moreG (by first | assumption | decide | exact xs_ (by decide) | exact xc_ (by decide) | exact x31_ (by decide) | omega) ?_
          refine r_bipush hC dX6_come_50 rfl ?_
          refine y_iret hK rfl dX6_come_52 ?_
          have hM : coM V l z v = V := by
            unfold coM
            first | exact if_pos (by first | assumption | decide | exact xs_ (by decide) | exact xc_ (by decide) | exact x31_ (by decide) | omega) | exact if_neg (by first | assumption | decide | exact xs_ (by decide) | exact xc_ (by decide) | exact x31_ (by decide) | omega)
          have hRr : coR V l z v = (-2) := by
            unfold coR
            first | (rw [if_pos (by first | assumption | decide | exact xs_ (by decide) | exact xc_ (by decide) | exact x31_ (by decide) | omega)]; done) | (rw [if_neg (by first | assumption | decide | exact xs_ (by decide) | exact xc_ (by decide) | exact x31_ (by decide) | omega), if_pos (by first | assumption | decide | exact xs_ (by decide) | exact xc_ (by decide) | exact x31_ (by decide) | omega)]; done) | (rw [if_neg (by first | assumption | decide | exact xs_ (by decide) | exact xc_ (by decide) | exact x31_ (by decide) | omega), if_neg (by first | assumption | decide | exact xs_ (by decide) | exact xc_ (by decide) | exact x31_ (by decide) | omega), if_pos (by first | assumption | decide | exact xs_ (by decide) | exact xc_ (by decide) | exact x31_ (by decide) | omega)]; done) | (rw [if_neg (by first | assumption | decide | exact xs_ (by decide) | exact xc_ (by decide) | exact x31_ (by decide) | omega), if_neg (by first | assumption | decide | exact xs_ (by decide) | exact xc_ (by decide) | exact x31_ (by decide) | omega), if_neg (by first | assumption | decide | exact xs_ (by decide) | exact xc_ (by decide) | exact x31_ (by decide) | omega), hM]; exact ntM_ne (by first | assumption | decide | exact xs_ (by decide) | exact xc_ (by decide) | exact x31_ (by decide) | omega))
          rw [hM] at k
          rw [hRr] at k
          exact k _ ⟨hR.1, hR.2.1, hR.2.2⟩
        · refine r_if_eq (tgt := 53) hC dX6_come_39 rfl (fun h11 => ?_) (fun h11 => by omega)
          refine r_aload_n hC dX6_come_53 rfl ?_
          refine r_iload_n hC dX6_come_54 rfl ?_
          refine z_inv1 hM dX6_come_55 vl_RX6_250 rfl rfl rfl (Nat.le_of_ble_eq_true rfl) (Nat.le_of_ble_eq_true rfl) ?_
          refine y_isFull (V := V) (by first | assumption | decide | exact xs_ (by decide) | exact xc_ (by decide) | exact x31_ (by decide) | omega) ht ⟨hR.1, hR.2.1, hR.2.2⟩ (by first | assumption | decide | exact xs_ (by decide) | exact xc_ (by decide) | exact x31_ (by decide) | omega) (fun h12 => ?_) (fun h12 => ?_)
          · refine r_if_eq (tgt := 63) hC dX6_come_58 rfl (fun h13 => by omega) (fun h13 => ?_)
            refine r_iconst hC dX6_come_61 rfl ?_
            refine y_iret hK rfl dX6_come_62 ?_
            have hM : coM V l z v = V := by
              unfold coM
              first | exact if_pos (by first | assumption | decide | exact xs_ (by decide) | exact xc_ (by decide) | exact x31_ (by decide) | omega) | exact if_neg (by first | assumption | decide | exact xs_ (by decide) | exact xc_ (by decide) | exact x31_ (by decide) | omega)
            have hRr : coR V l z v = (-1) := by
              unfold coR
              first | (rw [if_pos (by first | assumption | decide | exact xs_ (by decide) | exact xc_ (by decide) | exact x31_ (by decide) | omega)]; done) | (rw [if_neg (by first | assumption | decide | exact xs_ (by decide) | exact xc_ (by decide) | exact x31_ (by decide) | omega), if_pos (by first | assumption | decide | exact xs_ (by decide) | exact xc_ (by decide) | exact x31_ (by decide) | omega)]; done) | (rw [if_neg (by first | assumption | decide | exact xs_ (by decide) | exact xc_ (by decide) | exact x31_ (by decide) | omega), if_neg (by first | assumption | decide | exact xs_ (by decide) | exact xc_ (by decide) | exact x31_ (by decide) | omega), if_pos (by first | assumption | decide | exact xs_ (by decide) | exact xc_ (by decide) | exact x31_ (by decide) | omega)]; done) | (rw [if_neg (by first | assumption | decide | exact xs_ (by decide) | exact xc_ (by decide) | exact x31_ (by decide) | omega), if_neg (by first | assumption | decide | exact xs_ (by decide) | exact xc_ (by decide) | exact x31_ (by decide) | omega), if_neg (by first | assumption | decide | exact xs_ (by decide) | exact xc_ (by decide) | exact x31_ (by decide) | omega), hM]; exact ntM_ne (by first | assumption | decide | exact xs_ (by decide) | exact xc_ (by decide) | exact x31_ (by decide) | omega))
            rw [hM] at k
            rw [hRr] at k
            exact k _ ⟨hR.1, hR.2.1, hR.2.2⟩
          · refine r_if_eq (tgt := 63) hC dX6_come_58 rfl (fun h14 => ?_) (fun h14 => by omega)
            refine r_aload_n hC dX6_come_63 rfl ?_
            refine r_iload_n hC dX6_come_64 rfl ?_
            refine r_iload_n hC dX6_come_65 rfl ?_
            refine z_inv2 hM dX6_come_66 vl_RX6_256 rfl rfl rfl (Nat.le_of_ble_eq_true rfl) (Nat.le_of_ble_eq_true rfl) ?_
            refine y_give (V := V) (by first | assumption | decide | exact xs_ (by decide) | exact xc_ (by decide) | exact x31_ (by decide) | omega) (by first | assumption | decide | exact xs_ (by decide) | exact xc_ (by decide) | exact x31_ (by decide) | omega) ht ⟨hR.1, hR.2.1, hR.2.2⟩ hG.1 hG.2.1 (fun ρ15 Rρ15 => ?_)
            refine r_aload_n hC dX6_come_69 rfl ?_
            refine r_iload_n hC dX6_come_70 rfl ?_
            refine r_iload_n hC dX6_come_71 rfl ?_
            refine r_iload_n hC dX6_come_72 rfl ?_
            refine z_inv3 hM dX6_come_73 vl_RX6_253 rfl rfl rfl (Nat.le_of_ble_eq_true rfl) (Nat.le_of_ble_eq_true rfl) ?_
            have u3_73 : (gvM V l z) 7 l 3 = (V 7 l 3) := ((gv_7 hG.1 (by first | assumption | decide | exact xs_ (by decide) | exact xc_ (by decide) | exact x31_ (by decide) | omega) (by first | assumption | decide | exact xs_ (by decide) | exact xc_ (by decide) | exact x31_ (by decide) | omega)).trans (rfl))
            have u6_73 : (gvM V l z) 7 l 6 = (V 7 l 6) := ((gv_7 hG.1 (by first | assumption | decide | exact xs_ (by decide) | exact xc_ (by decide) | exact x31_ (by decide) | omega) (by first | assumption | decide | exact xs_ (by decide) | exact xc_ (by decide) | exact x31_ (by decide) | omega)).trans (rfl))
            have nf_73 : ¬ fuV (gvM V l z) l := by unfold fuV; omega
            have c_73 : CI (gvM V l z) := (CI.gv hG.1)
            have j_73 : GJ (gvM V l z) := (GJ.gv hG.2.1 hG.1 (by first | assumption | decide | exact xs_ (by decide) | exact xc_ (by decide) | exact x31_ (by decide) | omega) (by first | assumption | decide | exact xs_ (by decide) | exact xc_ (by decide) | exact x31_ (by decide) | omega))
            refine y_enter (V := (gvM V l z)) (l := l) (z := z) (v := v) (by first | assumption | decide | exact xs_ (by decide) | exact xc_ (by decide) | exact x31_ (by decide) | omega) (by first | assumption | decide | exact xs_ (by decide) | exact xc_ (by decide) | exact x31_ (by decide) | omega) (by first | assumption | decide | exact xs_ (by decide) | exact xc_ (by decide) | exact x31_ (by decide) | omega) ht ⟨Rρ15.1, Rρ15.2.1, Rρ15.2.2⟩ (by first | assumption | decide | exact xs_ (by decide) | exact xc_ (by decide) | exact x31_ (by decide) | omega) (j_73.lk c_73 (by first | assumption | decide | exact xs_ (by decide) | exact xc_ (by decide) | exact x31_ (by decide) | omega) (by first | assumption | decide | exact xs_ (by decide) | exact xc_ (by decide) | exact x31_ (by decide) | omega)) (c_73.2.1 l (by first | assumption | decide | exact xs_ (by decide) | exact xc_ (by decide) | exact x31_ (by decide) | omega) (by first | assumption | decide | exact xs_ (by decide) | exact xc_ (by decide) | exact x31_ (by decide) | omega)) (j_73.1 l (by first | assumption | decide | exact xs_ (by decide) | exact xc_ (by decide) | exact x31_ (by decide) | omega) (by first | assumption | decide | exact xs_ (by decide) | exact xc_ (by decide) | exact x31_ (by decide) | omega)) (c_73.h7 (by first | assumption | decide | exact xs_ (by decide) | exact xc_ (by decide) | exact x31_ (by decide) | omega) (by first | assumption | decide | exact xs_ (by decide) | exact xc_ (by decide) | exact x31_ (by decide) | omega)).2 (fun q => by have := c_73.size (i := l) (by first | assumption | decide | exact xs_ (by decide) | exact xc_ (by decide) | exact x31_ (by decide) | omega) (by first | assumption | decide | exact xs_ (by decide) | exact xc_ (by decide) | exact x31_ (by decide) | omega) q; omega) (fun ρ16 Rρ16 => ?_)
            refine r_aload_n hC dX6_come_76 rfl ?_
            refine r_iload_n hC dX6_come_77 rfl ?_
            refine z_inv1 hM dX6_come_78 vl_RX6_259 rfl rfl rfl (Nat.le_of_ble_eq_true rfl) (Nat.le_of_ble_eq_true rfl) ?_
            have e13 : (plM (gvM V l z) l z v) 13 l 0 = V 13 l 0 := (plM_nx (by unfold PS; omega)).trans (gvM_nx (by unfold PS; omega) (by first | assumption | decide | exact xs_ (by decide) | exact xc_ (by decide) | exact x31_ (by decide) | omega))
            have hms : ∀ x : Int, 0 ≤ x → x ≤ 3 → x ≠ l → x ≠ V 13 l 0 → (plM (gvM V l z) l z v) 7 x 6 ≤ (plM (gvM V l z) l z v) 7 x 15 := fun x a b c d => by
              rw [plM_nx (by unfold PS; omega), plM_nx (by unfold PS; omega), gvM_nx (by unfold PS; omega) (by first | assumption | decide | exact xs_ (by decide) | exact xc_ (by decide) | exact x31_ (by decide) | omega), gvM_nx (by unfold PS; omega) (by first | assumption | decide | exact xs_ (by decide) | exact xc_ (by decide) | exact x31_ (by decide) | omega)]
              exact hG.2.2 x a (by first | assumption | decide | exact xs_ (by decide) | exact xc_ (by decide) | exact x31_ (by decide) | omega)
            refine y_behindCall (V := (plM (gvM V l z) l z v)) (by first | assumption | decide | exact xs_ (by decide) | exact xc_ (by decide) | exact x31_ (by decide) | omega) ht ⟨Rρ16.1, Rρ16.2.1, Rρ16.2.2⟩ (by rw [e13]; omega) (by rw [e13]; omega) (fun x a b c d => hms x a b c (by rw [e13] at d; exact d)) (fun ρ17 Rρ17 => ?_)
            refine y_iret hK rfl dX6_come_81 ?_
            have hM : coM V l z v = (ntM (plM (gvM V l z) l z v)) := by
              unfold coM
              first | exact if_pos (by first | assumption | decide | exact xs_ (by decide) | exact xc_ (by decide) | exact x31_ (by decide) | omega) | exact if_neg (by first | assumption | decide | exact xs_ (by decide) | exact xc_ (by decide) | exact x31_ (by decide) | omega)
            have hRr : coR V l z v = ((plM (gvM V l z) l z v) 7 l 6) := by
              unfold coR
              first | (rw [if_pos (by first | assumption | decide | exact xs_ (by decide) | exact xc_ (by decide) | exact x31_ (by decide) | omega)]; done) | (rw [if_neg (by first | assumption | decide | exact xs_ (by decide) | exact xc_ (by decide) | exact x31_ (by decide) | omega), if_pos (by first | assumption | decide | exact xs_ (by decide) | exact xc_ (by decide) | exact x31_ (by decide) | omega)]; done) | (rw [if_neg (by first | assumption | decide | exact xs_ (by decide) | exact xc_ (by decide) | exact x31_ (by decide) | omega), if_neg (by first | assumption | decide | exact xs_ (by decide) | exact xc_ (by decide) | exact x31_ (by decide) | omega), if_pos (by first | assumption | decide | exact xs_ (by decide) | exact xc_ (by decide) | exact x31_ (by decide) | omega)]; done) | (rw [if_neg (by first | assumption | decide | exact xs_ (by decide) | exact xc_ (by decide) | exact x31_ (by decide) | omega), if_neg (by first | assumption | decide | exact xs_ (by decide) | exact xc_ (by decide) | exact x31_ (by decide) | omega), if_neg (by first | assumption | decide | exact xs_ (by decide) | exact xc_ (by decide) | exact x31_ (by decide) | omega), hM]; exact ntM_ne (by first | assumption | decide | exact xs_ (by decide) | exact xc_ (by decide) | exact x31_ (by decide) | omega))
            rw [hM] at k
            rw [hRr] at k
            exact k _ ⟨Rρ17.1, Rρ17.2.1, Rρ17.2.2⟩
      · refine r_if_ne (tgt := 33) hC dX6_come_28 rfl (fun h18 => by omega) (fun h18 => ?_)
        refine r_iconst hC dX6_come_31 rfl ?_
        refine y_iret hK rfl dX6_come_32 ?_
        have hM : coM V l z v = V := by
          unfold coM
          first | exact if_pos (by first | assumption | decide | exact xs_ (by decide) | exact xc_ (by decide) | exact x31_ (by decide) | omega) | exact if_neg (by first | assumption | decide | exact xs_ (by decide) | exact xc_ (by decide) | exact x31_ (by decide) | omega)
        have hRr : coR V l z v = (-1) := by
          unfold coR
          first | (rw [if_pos (by first | assumption | decide | exact xs_ (by decide) | exact xc_ (by decide) | exact x31_ (by decide) | omega)]; done) | (rw [if_neg (by first | assumption | decide | exact xs_ (by decide) | exact xc_ (by decide) | exact x31_ (by decide) | omega), if_pos (by first | assumption | decide | exact xs_ (by decide) | exact xc_ (by decide) | exact x31_ (by decide) | omega)]; done) | (rw [if_neg (by first | assumption | decide | exact xs_ (by decide) | exact xc_ (by decide) | exact x31_ (by decide) | omega), if_neg (by first | assumption | decide | exact xs_ (by decide) | exact xc_ (by decide) | exact x31_ (by decide) | omega), if_pos (by first | assumption | decide | exact xs_ (by decide) | exact xc_ (by decide) | exact x31_ (by decide) | omega)]; done) | (rw [if_neg (by first | assumption | decide | exact xs_ (by decide) | exact xc_ (by decide) | exact x31_ (by decide) | omega), if_neg (by first | assumption | decide | exact xs_ (by decide) | exact xc_ (by decide) | exact x31_ (by decide) | omega), if_neg (by first | assumption | decide | exact xs_ (by decide) | exact xc_ (by decide) | exact x31_ (by decide) | omega), hM]; exact ntM_ne (by first | assumption | decide | exact xs_ (by decide) | exact xc_ (by decide) | exact x31_ (by decide) | omega))
        rw [hM] at k
        rw [hRr] at k
        exact k _ ⟨hR.1, hR.2.1, hR.2.2⟩
    · refine r_if_eq (tgt := 31) hC dX6_come_15 rfl (fun h19 => ?_) (fun h19 => by omega)
      refine r_iconst hC dX6_come_31 rfl ?_
      refine y_iret hK rfl dX6_come_32 ?_
      have hM : coM V l z v = V := by
        unfold coM
        first | exact if_pos (by first | assumption | decide | exact xs_ (by decide) | exact xc_ (by decide) | exact x31_ (by decide) | omega) | exact if_neg (by first | assumption | decide | exact xs_ (by decide) | exact xc_ (by decide) | exact x31_ (by decide) | omega)
      have hRr : coR V l z v = (-1) := by
        unfold coR
        first | (rw [if_pos (by first | assumption | decide | exact xs_ (by decide) | exact xc_ (by decide) | exact x31_ (by decide) | omega)]; done) | (rw [if_neg (by first | assumption | decide | exact xs_ (by decide) | exact xc_ (by decide) | exact x31_ (by decide) | omega), if_pos (by first | assumption | decide | exact xs_ (by decide) | exact xc_ (by decide) | exact x31_ (by decide) | omega)]; done) | (rw [if_neg (by first | assumption | decide | exact xs_ (by decide) | exact xc_ (by decide) | exact x31_ (by decide) | omega), if_neg (by first | assumption | decide | exact xs_ (by decide) | exact xc_ (by decide) | exact x31_ (by decide) | omega), if_pos (by first | assumption | decide | exact xs_ (by decide) | exact xc_ (by decide) | exact x31_ (by decide) | omega)]; done) | (rw [if_neg (by first | assumption | decide | exact xs_ (by decide) | exact xc_ (by decide) | exact x31_ (by decide) | omega), if_neg (by first | assumption | decide | exact xs_ (by decide) | exact xc_ (by decide) | exact x31_ (by decide) | omega), if_neg (by first | assumption | decide | exact xs_ (by decide) | exact xc_ (by decide) | exact x31_ (by decide) | omega), hM]; exact ntM_ne (by first | assumption | decide | exact xs_ (by decide) | exact xc_ (by decide) | exact x31_ (by decide) | omega))
      rw [hM] at k
      rw [hRr] at k
      exact k _ ⟨hR.1, hR.2.1, hR.2.2⟩
  · unfold opV at h1
    refine r_if_eq (tgt := 31) hC dX6_come_5 rfl (fun h20 => ?_) (fun h20 => by omega)
    refine r_iconst hC dX6_come_31 rfl ?_
    refine y_iret hK rfl dX6_come_32 ?_
    have hM : coM V l z v = V := by
      unfold coM
      first | exact if_pos (by first | assumption | decide | exact xs_ (by decide) | exact xc_ (by decide) | exact x31_ (by decide) | omega) | exact if_neg (by first | assumption | decide | exact xs_ (by decide) | exact xc_ (by decide) | exact x31_ (by decide) | omega)
    have hRr : coR V l z v = (-1) := by
      unfold coR
      first | (rw [if_pos (by first | assumption | decide | exact xs_ (by decide) | exact xc_ (by decide) | exact x31_ (by decide) | omega)]; done) | (rw [if_neg (by first | assumption | decide | exact xs_ (by decide) | exact xc_ (by decide) | exact x31_ (by decide) | omega), if_pos (by first | assumption | decide | exact xs_ (by decide) | exact xc_ (by decide) | exact x31_ (by decide) | omega)]; done) | (rw [if_neg (by first | assumption | decide | exact xs_ (by decide) | exact xc_ (by decide) | exact x31_ (by decide) | omega), if_neg (by first | assumption | decide | exact xs_ (by decide) | exact xc_ (by decide) | exact x31_ (by decide) | omega), if_pos (by first | assumption | decide | exact xs_ (by decide) | exact xc_ (by decide) | exact x31_ (by decide) | omega)]; done) | (rw [if_neg (by first | assumption | decide | exact xs_ (by decide) | exact xc_ (by decide) | exact x31_ (by decide) | omega), if_neg (by first | assumption | decide | exact xs_ (by decide) | exact xc_ (by decide) | exact x31_ (by decide) | omega), if_neg (by first | assumption | decide | exact xs_ (by decide) | exact xc_ (by decide) | exact x31_ (by decide) | omega), hM]; exact ntM_ne (by first | assumption | decide | exact xs_ (by decide) | exact xc_ (by decide) | exact x31_ (by decide) | omega))
    rw [hM] at k
    rw [hRr] at k
    exact k _ ⟨hR.1, hR.2.1, hR.2.2⟩
-- B: the reference: burst, leave, until, take, alter
theorem y_burst {eb : Bool} {t : Int} {V : Mm} {d : Nat} {P : Option Vl → Mm → Prop} {σ : Mm} {l m v z : Int}  {σ0 : Mm} (ht : 6 ≤ t ∧ t ≤ 7) (hR : RS t σ0 V σ) (hG : GI V)  (k : ∀ ρ : Mm, RS t σ0 (buM V l m v z) ρ → P (some (vI (buR V l m v z))) ρ) : WT (true, eb, true) (d + 11) 206 [vR 30 0, vI l, vI m, vI v, vI z] σ P := by
  refine WT_in fun K hK => ?_
  have hK : StpY (true, eb, true) cX6_burst RX6 (some .int) (WT (true, eb, true) (d + 10)) P K := hK
  have hM := hK.1
  have hC := hK.1.1
  show K 0 [some (vR 30 0), some (vI l), some (vI m), some (vI v), some (vI z), none, none] [] σ
  refine r_rngz hC (fun g0 => ?_)
  have r_l : -2147483648 ≤ l ∧ l ≤ 2147483647 := inR_le (g0 (vI l) (by simp))
  have r_m : -2147483648 ≤ m ∧ m ≤ 2147483647 := inR_le (g0 (vI m) (by simp))
  have r_v : -2147483648 ≤ v ∧ v ≤ 2147483647 := inR_le (g0 (vI v) (by simp))
  have r_z : -2147483648 ≤ z ∧ z ≤ 2147483647 := inR_le (g0 (vI z) (by simp))
  refine r_aload_n hC dX6_burst_0 rfl ?_
  refine r_iload_n hC dX6_burst_1 rfl ?_
  refine z_inv1 hM dX6_burst_2 vl_RX6_124 rfl rfl rfl (Nat.le_of_ble_eq_true rfl) (Nat.le_of_ble_eq_true rfl) ?_
  refine y_isLane (V := V) ht ⟨hR.1, hR.2.1, hR.2.2⟩ (fun h1 => ?_) (fun h1 => ?_)
  · unfold opV at h1
    refine r_if_eq (tgt := 32) hC dX6_burst_5 rfl (fun h2 => by omega) (fun h2 => ?_)
    have h6 := hG.1.h7 (l := l) (by first | assumption | decide | exact xs_ (by decide) | exact xc_ (by decide) | exact x31_ (by decide) | omega) (by first | assumption | decide | exact xs_ (by decide) | exact xc_ (by decide) | exact x31_ (by decide) | omega)
    have h10 := hG.2.1.2.1 l (by first | assumption | decide | exact xs_ (by decide) | exact xc_ (by decide) | exact x31_ (by decide) | omega) (by first | assumption | decide | exact xs_ (by decide) | exact xc_ (by decide) | exact x31_ (by decide) | omega)
    have hlk := hG.2.1.2.2.2.2.2.1 l (by first | assumption | decide | exact xs_ (by decide) | exact xc_ (by decide) | exact x31_ (by decide) | omega) (by first | assumption | decide | exact xs_ (by decide) | exact xc_ (by decide) | exact x31_ (by decide) | omega)
    unfold opV at hlk
    have hk13 : -1 ≤ V 13 l 0 ∧ V 13 l 0 ≤ 3 := by omega
    have hkn := hG.1.2.2.2 l (by first | assumption | decide | exact xs_ (by decide) | exact xc_ (by decide) | exact x31_ (by decide) | omega) (by first | assumption | decide | exact xs_ (by decide) | exact xc_ (by decide) | exact x31_ (by decide) | omega)
    have ew : -40 ≤ m → m ≤ 41 → wr (V 7 l 10 + m) = V 7 l 10 + m := fun a b => wr_id ⟨by omega, by omega⟩
    have ecm1 := Int.mul_comm z (m - 1)
    refine r_iload_n hC dX6_burst_8 rfl ?_
    refine r_iconst hC dX6_burst_9 rfl ?_
    refine r_bipush hC dX6_burst_10 rfl ?_
    refine z_ins3 hM dX6_burst_12 tl_RX6_76 rfl (Nat.le_of_ble_eq_true rfl) (Nat.le_of_ble_eq_true rfl) ?_
    refine m_isIn (fun h4 => ?_) (fun h4 => ?_)
    · refine r_if_eq (tgt := 32) hC dX6_burst_15 rfl (fun h5 => by omega) (fun h5 => ?_)
      refine r_iload hC dX6_burst_18 rfl ?_
      refine r_sipush hC dX6_burst_20 rfl ?_
      refine r_sipush hC dX6_burst_23 rfl ?_
      refine z_ins3 hM dX6_burst_26 tl_RX6_76 rfl (Nat.le_of_ble_eq_true rfl) (Nat.le_of_ble_eq_true rfl) ?_
      refine m_isIn (fun h7 => ?_) (fun h7 => ?_)
      · refine r_if_ne (tgt := 34) hC dX6_burst_29 rfl (fun h8 => ?_) (fun h8 => by omega)
        refine r_iload_n hC dX6_burst_34 rfl ?_
        refine r_sipush hC dX6_burst_35 rfl ?_
        refine r_sipush hC dX6_burst_38 rfl ?_
        refine z_ins3 hM dX6_burst_41 tl_RX6_76 rfl (Nat.le_of_ble_eq_true rfl) (Nat.le_of_ble_eq_true rfl) ?_
        refine m_isIn (fun h10 => ?_) (fun h10 => ?_)
        · refine r_if_eq (tgt := 81) hC dX6_burst_44 rfl (fun h11 => by omega) (fun h11 => ?_)
          refine r_iload_n hC dX6_burst_47 rfl ?_
          refine r_iload hC dX6_burst_48 rfl ?_
          refine r_iload_n hC dX6_burst_50 rfl ?_
          refine r_iconst hC dX6_burst_51 rfl ?_
          refine r_isubE hC ((m - 1)) dX6_burst_52 (by first | assumption | decide | exact xs_ (by decide) | exact xc_ (by decide) | exact x31_ (by decide) | omega) (by unfold inR; omega) ?_
          have m12 := mul_bd2 (a := (m - 1)) (b := z) (A := 39) (B := 1000) (by first | assumption | decide | exact xs_ (by decide) | exact xc_ (by decide) | exact x31_ (by decide) | omega) (by first | assumption | decide | exact xs_ (by decide) | exact xc_ (by decide) | exact x31_ (by decide) | omega) (by first | assumption | decide | exact xs_ (by decide) | exact xc_ (by decide) | exact x31_ (by decide) | omega) (by first | assumption | decide | exact xs_ (by decide) | exact xc_ (by decide) | exact x31_ (by decide) | omega)
          refine r_imulE hC ((z * (m - 1))) dX6_burst_53 (by first | assumption | decide | exact xs_ (by decide) | exact xc_ (by decide) | exact x31_ (by decide) | omega) (by unfold inR; omega) ?_
          refine r_iaddE hC ((v + (z * (m - 1)))) dX6_burst_54 (by first | assumption | decide | exact xs_ (by decide) | exact xc_ (by decide) | exact x31_ (by decide) | omega) (by unfold inR; omega) ?_
          refine r_sipush hC dX6_burst_55 rfl ?_
          refine r_sipush hC dX6_burst_58 rfl ?_
          refine z_ins3 hM dX6_burst_61 tl_RX6_76 rfl (Nat.le_of_ble_eq_true rfl) (Nat.le_of_ble_eq_true rfl) ?_
          refine m_isIn (fun h14 => ?_) (fun h14 => ?_)
          · refine r_if_eq (tgt := 81) hC dX6_burst_64 rfl (fun h15 => by omega) (fun h15 => ?_)
            refine r_aload_n hC dX6_burst_67 rfl ?_
            refine r_iload_n hC dX6_burst_68 rfl ?_
            refine r_bipush hC dX6_burst_69 rfl ?_
            refine z_inv2 hM dX6_burst_71 vl_RX6_80 rfl rfl rfl (Nat.le_of_ble_eq_true rfl) (Nat.le_of_ble_eq_true rfl) ?_
            refine y_of (by first | assumption | decide | exact xs_ (by decide) | exact xc_ (by decide) | exact x31_ (by decide) | omega) (by first | assumption | decide | exact xs_ (by decide) | exact xc_ (by decide) | exact x31_ (by decide) | omega) (by first | assumption | decide | exact xs_ (by decide) | exact xc_ (by decide) | exact x31_ (by decide) | omega) (fun o16 => ?_)
            have e17 : σ 31 0 (22 * l + 6) = (V 7 l 10) := (hR.1.a7 (s := 10) (f := 6) (by first | assumption | decide | exact xs_ (by decide) | exact xc_ (by decide) | exact x31_ (by decide) | omega) (by first | assumption | decide | exact xs_ (by decide) | exact xc_ (by decide) | exact x31_ (by decide) | omega) (by first | assumption | decide | exact xs_ (by decide) | exact xc_ (by decide) | exact x31_ (by decide) | omega)).trans (rfl)
            rw [e17] at o16 ⊢
            refine r_iload_n hC dX6_burst_74 rfl ?_
            refine r_iaddE hC (((V 7 l 10) + m)) dX6_burst_75 (by first | assumption | decide | exact xs_ (by decide) | exact xc_ (by decide) | exact x31_ (by decide) | omega) (by unfold inR; omega) ?_
            refine r_ldc hC dX6_burst_76 co_RX6_239 rfl ?_
            refine r_icmp_le (tgt := 83) hC dX6_burst_78 rfl (fun h18 => ?_) (fun h18 => ?_)
            · refine r_aload_n hC dX6_burst_83 rfl ?_
              refine r_iload_n hC dX6_burst_84 rfl ?_
              refine r_iconst hC dX6_burst_85 rfl ?_
              refine z_inv2 hM dX6_burst_86 vl_RX6_80 rfl rfl rfl (Nat.le_of_ble_eq_true rfl) (Nat.le_of_ble_eq_true rfl) ?_
              refine y_of (by first | assumption | decide | exact xs_ (by decide) | exact xc_ (by decide) | exact x31_ (by decide) | omega) (by first | assumption | decide | exact xs_ (by decide) | exact xc_ (by decide) | exact x31_ (by decide) | omega) (by first | assumption | decide | exact xs_ (by decide) | exact xc_ (by decide) | exact x31_ (by decide) | omega) (fun o19 => ?_)
              have e20 : σ 31 0 (22 * l + 2) = (V 7 l 3) := (hR.1.a7 (s := 3) (f := 2) (by first | assumption | decide | exact xs_ (by decide) | exact xc_ (by decide) | exact x31_ (by decide) | omega) (by first | assumption | decide | exact xs_ (by decide) | exact xc_ (by decide) | exact x31_ (by decide) | omega) (by first | assumption | decide | exact xs_ (by decide) | exact xc_ (by decide) | exact x31_ (by decide) | omega)).trans (rfl)
              rw [e20] at o19 ⊢
              refine r_iconst hC dX6_burst_89 rfl ?_
              refine r_icmp_eq (tgt := 107) hC dX6_burst_90 rfl (fun h21 => ?_) (fun h21 => ?_)
              · refine r_aload_n hC dX6_burst_107 rfl ?_
                refine r_iload_n hC dX6_burst_108 rfl ?_
                refine r_bipush hC dX6_burst_109 rfl ?_
                refine z_inv2 hM dX6_burst_111 vl_RX6_80 rfl rfl rfl (Nat.le_of_ble_eq_true rfl) (Nat.le_of_ble_eq_true rfl) ?_
                refine y_of (by first | assumption | decide | exact xs_ (by decide) | exact xc_ (by decide) | exact x31_ (by decide) | omega) (by first | assumption | decide | exact xs_ (by decide) | exact xc_ (by decide) | exact x31_ (by decide) | omega) (by first | assumption | decide | exact xs_ (by decide) | exact xc_ (by decide) | exact x31_ (by decide) | omega) (fun o22 => ?_)
                have e23 : σ 31 0 (22 * l + 6) = (V 7 l 10) := (hR.1.a7 (s := 10) (f := 6) (by first | assumption | decide | exact xs_ (by decide) | exact xc_ (by decide) | exact x31_ (by decide) | omega) (by first | assumption | decide | exact xs_ (by decide) | exact xc_ (by decide) | exact x31_ (by decide) | omega) (by first | assumption | decide | exact xs_ (by decide) | exact xc_ (by decide) | exact x31_ (by decide) | omega)).trans (rfl)
                rw [e23] at o22 ⊢
                refine r_iconst hC dX6_burst_114 rfl ?_
                refine r_iaddE hC (((V 7 l 10) + 1)) dX6_burst_115 (by first | assumption | decide | exact xs_ (by decide) | exact xc_ (by decide) | exact x31_ (by decide) | omega) (by unfold inR; omega) ?_
                refine r_istore hC dX6_burst_116 rfl ?_
                refine r_iconst hC dX6_burst_118 rfl ?_
                refine r_istore hC dX6_burst_119 rfl ?_
                have L121 : ∀ (n121 : Nat) (w24 : Int) (ρ25 W25 : Mm), 0 ≤ w24 ∧ w24 ≤ 40 → ((w24) ≤ m) → 40 - w24 < (n121 : Int) → (RS t σ0 W25 ρ25) → (CI W25) → (GJ W25) → (bst l z (m - (w24)).toNat (v + (w24) * z) W25 = bst l z m.toNat v V) → (W25 7 l 10 = V 7 l 10 + (w24)) → (W25 7 l 3 = V 7 l 3) → (V 7 l 3 ≠ 1 → W25 7 l 6 + m - (w24) ≤ 120) → (W25 13 l 0 = V 13 l 0) → (∀ x : Int, 0 ≤ x → x ≤ 3 → x ≠ l → x ≠ V 13 l 0 → W25 7 x 6 = V 7 x 6 ∧ W25 7 x 15 = V 7 x 15) → K 121 [some (vR 30 0), some (vI l), some (vI m), some (vI v), some (vI z), some (vI ((V 7 l 10) + 1)), some (vI w24)] [] ρ25 := by
                  intro n121
                  induction n121 with
                  | zero => intro w24 ρ25 W25 f_w24 i0_121 hm  m0_121 m1_121 m2_121 m3_121 m4_121 m5_121 m6_121 m7_121 m8_121; omega
                  | succ n121 ih121 =>
                    intro w24 ρ25 W25 f_w24 i0_121 hm121  m0_121 m1_121 m2_121 m3_121 m4_121 m5_121 m6_121 m7_121 m8_121
                    refine r_iload hC dX6_burst_121 rfl ?_
                    refine r_iload_n hC dX6_burst_123 rfl ?_
                    refine r_icmp_ge (tgt := 160) hC dX6_burst_124 rfl (fun h26 => ?_) (fun h26 => ?_)
                    · refine r_aload_n hC dX6_burst_160 rfl ?_
                      refine r_iload_n hC dX6_burst_161 rfl ?_
                      refine z_inv1 hM dX6_burst_162 vl_RX6_259 rfl rfl rfl (Nat.le_of_ble_eq_true rfl) (Nat.le_of_ble_eq_true rfl) ?_
                      have e13 := m7_121
                      have hms : ∀ x : Int, 0 ≤ x → x ≤ 3 → x ≠ l → x ≠ V 13 l 0 → W25 7 x 6 ≤ W25 7 x 15 := fun x a b c d => by
                        rw [(m8_121 x a b c d).1, (m8_121 x a b c d).2]
                        exact hG.2.2 x a (by first | assumption | decide | exact xs_ (by decide) | exact xc_ (by decide) | exact x31_ (by decide) | omega)
                      refine y_behindCall (V := W25) (by first | assumption | decide | exact xs_ (by decide) | exact xc_ (by decide) | exact x31_ (by decide) | omega) ht ⟨m0_121.1, m0_121.2.1, m0_121.2.2⟩ (by rw [e13]; omega) (by rw [e13]; omega) (fun x a b c d => hms x a b c (by rw [e13] at d; exact d)) (fun ρ27 Rρ27 => ?_)
                      refine y_iret hK rfl dX6_burst_165 ?_
                      have hM : buM V l m v z = (ntM W25) := by
                        have e0 : bst l z m.toNat v V = W25 := by
                          rw [← m3_121, show (m - w24).toNat = 0 from by omega]
                          rfl
                        unfold buM
                        rw [if_pos ⟨by omega, by omega, by omega, by omega, by omega, by rw [ew (by first | assumption | decide | exact xs_ (by decide) | exact xc_ (by decide) | exact x31_ (by decide) | omega) (by first | assumption | decide | exact xs_ (by decide) | exact xc_ (by decide) | exact x31_ (by decide) | omega)]; omega, by omega⟩, e0]
                      have hRr : buR V l m v z = (W25 7 l 6) := by
                        unfold buR
                        rw [if_pos ⟨by omega, by omega, by omega, by omega, by omega, by rw [ew (by first | assumption | decide | exact xs_ (by decide) | exact xc_ (by decide) | exact x31_ (by decide) | omega) (by first | assumption | decide | exact xs_ (by decide) | exact xc_ (by decide) | exact x31_ (by decide) | omega)]; omega, by omega⟩, hM]
                        exact ntM_ne (by first | assumption | decide | exact xs_ (by decide) | exact xc_ (by decide) | exact x31_ (by decide) | omega)
                      rw [hM] at k
                      rw [hRr] at k
                      exact k _ ⟨Rρ27.1, Rρ27.2.1, Rρ27.2.2⟩
                    · have hW10 := m4_121
                      have hW3 := m5_121
                      have hW6 := m1_121.h7 (l := l) (by first | assumption | decide | exact xs_ (by decide) | exact xc_ (by decide) | exact x31_ (by decide) | omega) (by first | assumption | decide | exact xs_ (by decide) | exact xc_ (by decide) | exact x31_ (by decide) | omega)
                      have ecm := Int.mul_comm z w24
                      have lb := lin_btw (v := v) (s := z) (i := w24) (m := (m - 1)) (by first | assumption | decide | exact xs_ (by decide) | exact xc_ (by decide) | exact x31_ (by decide) | omega) (by first | assumption | decide | exact xs_ (by decide) | exact xc_ (by decide) | exact x31_ (by decide) | omega) (by first | assumption | decide | exact xs_ (by decide) | exact xc_ (by decide) | exact x31_ (by decide) | omega) (by have := Int.mul_comm z (m - 1); omega)
                      have et_ : wr (W25 7 l 10 + 1) = (((V 7 l 10) + 1) + w24) := by rw [m4_121, wr_id ⟨by omega, by omega⟩]; omega
                      refine r_aload_n hC dX6_burst_127 rfl ?_
                      refine r_iload_n hC dX6_burst_128 rfl ?_
                      refine r_iload hC dX6_burst_129 rfl ?_
                      refine r_iload hC dX6_burst_131 rfl ?_
                      refine r_iaddE hC ((((V 7 l 10) + 1) + w24)) dX6_burst_133 (by first | assumption | decide | exact xs_ (by decide) | exact xc_ (by decide) | exact x31_ (by decide) | omega) (by unfold inR; omega) ?_
                      refine z_inv2 hM dX6_burst_134 vl_RX6_256 rfl rfl rfl (Nat.le_of_ble_eq_true rfl) (Nat.le_of_ble_eq_true rfl) ?_
                      refine y_give (V := W25) (by first | assumption | decide | exact xs_ (by decide) | exact xc_ (by decide) | exact x31_ (by decide) | omega) (by first | assumption | decide | exact xs_ (by decide) | exact xc_ (by decide) | exact x31_ (by decide) | omega) ht ⟨m0_121.1, m0_121.2.1, m0_121.2.2⟩ m1_121 m2_121 (fun ρ28 Rρ28 => ?_)
                      refine r_aload_n hC dX6_burst_137 rfl ?_
                      refine r_iload_n hC dX6_burst_138 rfl ?_
                      refine r_iload hC dX6_burst_139 rfl ?_
                      refine r_iload hC dX6_burst_141 rfl ?_
                      refine r_iaddE hC ((((V 7 l 10) + 1) + w24)) dX6_burst_143 (by first | assumption | decide | exact xs_ (by decide) | exact xc_ (by decide) | exact x31_ (by decide) | omega) (by unfold inR; omega) ?_
                      refine r_iload_n hC dX6_burst_144 rfl ?_
                      refine r_iload hC dX6_burst_145 rfl ?_
                      refine r_iload hC dX6_burst_147 rfl ?_
                      have m29 := mul_bd2 (a := w24) (b := z) (A := 39) (B := 1000) (by first | assumption | decide | exact xs_ (by decide) | exact xc_ (by decide) | exact x31_ (by decide) | omega) (by first | assumption | decide | exact xs_ (by decide) | exact xc_ (by decide) | exact x31_ (by decide) | omega) (by first | assumption | decide | exact xs_ (by decide) | exact xc_ (by decide) | exact x31_ (by decide) | omega) (by first | assumption | decide | exact xs_ (by decide) | exact xc_ (by decide) | exact x31_ (by decide) | omega)
                      refine r_imulE hC ((z * w24)) dX6_burst_149 (by first | assumption | decide | exact xs_ (by decide) | exact xc_ (by decide) | exact x31_ (by decide) | omega) (by unfold inR; omega) ?_
                      refine r_iaddE hC ((v + (z * w24))) dX6_burst_150 (by first | assumption | decide | exact xs_ (by decide) | exact xc_ (by decide) | exact x31_ (by decide) | omega) (by unfold inR; omega) ?_
                      refine z_inv3 hM dX6_burst_151 vl_RX6_253 rfl rfl rfl (Nat.le_of_ble_eq_true rfl) (Nat.le_of_ble_eq_true rfl) ?_
                      -- a value between
                      have u3_151 : (gvM W25 l (((V 7 l 10) + 1) + w24)) 7 l 3 = (W25 7 l 3) := ((gv_7 m1_121 (by first | assumption | decide | exact xs_ (by decide) | exact xc_ (by decide) | exact x31_ (by decide) | omega) (by first | assumption | decide | exact xs_ (by decide) | exact xc_ (by decide) | exact x31_ (by decide) | omega)).trans (rfl))
                      have u6_151 : (gvM W25 l (((V 7 l 10) + 1) + w24)) 7 l 6 = (W25 7 l 6) := ((gv_7 m1_121 (by first | assumption | decide | exact xs_ (by decide) | exact xc_ (by decide) | exact x31_ (by decide) | omega) (by first | assumption | decide | exact xs_ (by decide) | exact xc_ (by decide) | exact x31_ (by decide) | omega)).trans (rfl))
                      have nf_151 : ¬ fuV (gvM W25 l (((V 7 l 10) + 1) + w24)) l := by unfold fuV; omega
                      have c_151 : CI (gvM W25 l (((V 7 l 10) + 1) + w24)) := (CI.gv m1_121)
                      have j_151 : GJ (gvM W25 l (((V 7 l 10) + 1) + w24)) := (GJ.gv m2_121 m1_121 (by first | assumption | decide | exact xs_ (by decide) | exact xc_ (by decide) | exact x31_ (by decide) | omega) (by first | assumption | decide | exact xs_ (by decide) | exact xc_ (by decide) | exact x31_ (by decide) | omega))
                      refine y_enter (V := (gvM W25 l (((V 7 l 10) + 1) + w24))) (l := l) (z := (((V 7 l 10) + 1) + w24)) (v := (v + (z * w24))) (by first | assumption | decide | exact xs_ (by decide) | exact xc_ (by decide) | exact x31_ (by decide) | omega) (by first | assumption | decide | exact xs_ (by decide) | exact xc_ (by decide) | exact x31_ (by decide) | omega) (by first | assumption | decide | exact xs_ (by decide) | exact xc_ (by decide) | exact x31_ (by decide) | omega) ht ⟨Rρ28.1, Rρ28.2.1, Rρ28.2.2⟩ (by first | assumption | decide | exact xs_ (by decide) | exact xc_ (by decide) | exact x31_ (by decide) | omega) (j_151.lk c_151 (by first | assumption | decide | exact xs_ (by decide) | exact xc_ (by decide) | exact x31_ (by decide) | omega) (by first | assumption | decide | exact xs_ (by decide) | exact xc_ (by decide) | exact x31_ (by decide) | omega)) (c_151.2.1 l (by first | assumption | decide | exact xs_ (by decide) | exact xc_ (by decide) | exact x31_ (by decide) | omega) (by first | assumption | decide | exact xs_ (by decide) | exact xc_ (by decide) | exact x31_ (by decide) | omega)) (j_151.1 l (by first | assumption | decide | exact xs_ (by decide) | exact xc_ (by decide) | exact x31_ (by decide) | omega) (by first | assumption | decide | exact xs_ (by decide) | exact xc_ (by decide) | exact x31_ (by decide) | omega)) (c_151.h7 (by first | assumption | decide | exact xs_ (by decide) | exact xc_ (by decide) | exact x31_ (by decide) | omega) (by first | assumption | decide | exact xs_ (by decide) | exact xc_ (by decide) | exact x31_ (by decide) | omega)).2 (fun q => by have := c_151.size (i := l) (by first | assumption | decide | exact xs_ (by decide) | exact xc_ (by decide) | exact x31_ (by decide) | omega) (by first | assumption | decide | exact xs_ (by decide) | exact xc_ (by decide) | exact x31_ (by decide) | omega) q; omega) (fun ρ30 Rρ30 => ?_)
                      refine r_iincE hC ((w24 + 1)) dX6_burst_154 rfl rfl (by first | assumption | decide | exact xs_ (by decide) | exact xc_ (by decide) | exact x31_ (by decide) | omega) (by unfold inR; omega) ?_
                      refine r_goto (tgt := 121) hC dX6_burst_157 rfl ?_
                      exact ih121 ((w24 + 1)) ρ30 (plM (gvM W25 l (((V 7 l 10) + 1) + w24)) l (((V 7 l 10) + 1) + w24) (v + (z * w24))) (by first | assumption | decide | exact xs_ (by decide) | exact xc_ (by decide) | exact x31_ (by decide) | omega) (by first | assumption | decide | exact xs_ (by decide) | exact xc_ (by decide) | exact x31_ (by decide) | omega) (by first | assumption | decide | exact xs_ (by decide) | exact xc_ (by decide) | exact x31_ (by decide) | omega)  (⟨Rρ30.1, Rρ30.2.1, Rρ30.2.2⟩) ((CI.pl c_151 (by first | assumption | decide | exact xs_ (by decide) | exact xc_ (by decide) | exact x31_ (by decide) | omega) (by first | assumption | decide | exact xs_ (by decide) | exact xc_ (by decide) | exact x31_ (by decide) | omega) nf_151)) ((GJ.pl j_151 (by first | assumption | decide | exact xs_ (by decide) | exact xc_ (by decide) | exact x31_ (by decide) | omega) (by first | assumption | decide | exact xs_ (by decide) | exact xc_ (by decide) | exact x31_ (by decide) | omega) (c_151.h7 (by first | assumption | decide | exact xs_ (by decide) | exact xc_ (by decide) | exact x31_ (by decide) | omega) (by first | assumption | decide | exact xs_ (by decide) | exact xc_ (by decide) | exact x31_ (by decide) | omega)) (by first | assumption | decide | exact xs_ (by decide) | exact xc_ (by decide) | exact x31_ (by decide) | omega) (by first | assumption | decide | exact xs_ (by decide) | exact xc_ (by decide) | exact x31_ (by decide) | omega))) (by have q := m3_121; rw [show (m - w24).toNat = (m - (w24 + 1)).toNat + 1 from by omega, bst_s, et_] at q; rw [show v + (w24 + 1) * z = v + w24 * z + z from by rw [Int.add_mul]; omega, show v + z * w24 = v + w24 * z from by rw [Int.mul_comm]]; exact q) (by rw [pl_10, gv_7 m1_121 (by first | assumption | decide | exact xs_ (by decide) | exact xc_ (by decide) | exact x31_ (by decide) | omega) (by first | assumption | decide | exact xs_ (by decide) | exact xc_ (by decide) | exact x31_ (by decide) | omega)]; omega) ((plM_nx (by unfold PS; omega)).trans ((gv_7 m1_121 (by first | assumption | decide | exact xs_ (by decide) | exact xc_ (by decide) | exact x31_ (by decide) | omega) (by first | assumption | decide | exact xs_ (by decide) | exact xc_ (by decide) | exact x31_ (by decide) | omega)).trans m5_121)) (fun q => by have hp := pl_6 (CI.gv m1_121 (i := l) (t := (((V 7 l 10) + 1) + w24))) (i := l) (t := (((V 7 l 10) + 1) + w24)) (v := (v + (z * w24))) (by first | assumption | decide | exact xs_ (by decide) | exact xc_ (by decide) | exact x31_ (by decide) | omega) (by first | assumption | decide | exact xs_ (by decide) | exact xc_ (by decide) | exact x31_ (by decide) | omega); rw [gv_7 m1_121 (by first | assumption | decide | exact xs_ (by decide) | exact xc_ (by decide) | exact x31_ (by decide) | omega) (by first | assumption | decide | exact xs_ (by decide) | exact xc_ (by decide) | exact x31_ (by decide) | omega)] at hp; have := m6_121 q; omega) ((plM_nx (by unfold PS; omega)).trans ((gvM_nx (by unfold PS; omega) (by first | assumption | decide | exact xs_ (by decide) | exact xc_ (by decide) | exact x31_ (by decide) | omega)).trans m7_121)) (fun x a b c d => by rw [plM_nx (by unfold PS; omega), plM_nx (by unfold PS; omega), gvM_nx (by rw [m7_121]; unfold PS; omega) (by first | assumption | decide | exact xs_ (by decide) | exact xc_ (by decide) | exact x31_ (by decide) | omega), gvM_nx (by rw [m7_121]; unfold PS; omega) (by first | assumption | decide | exact xs_ (by decide) | exact xc_ (by decide) | exact x31_ (by decide) | omega)]; exact m8_121 x a b c d)
                exact L121 42 (0) σ V (by first | assumption | decide | exact xs_ (by decide) | exact xc_ (by decide) | exact x31_ (by decide) | omega) (by first | assumption | decide | exact xs_ (by decide) | exact xc_ (by decide) | exact x31_ (by decide) | omega) (by first | assumption | decide | exact xs_ (by decide) | exact xc_ (by decide) | exact x31_ (by decide) | omega)  (⟨hR.1, hR.2.1, hR.2.2⟩) (hG.1) (hG.2.1) (by rw [show (m - 0).toNat = m.toNat from by omega, show v + 0 * z = v from by omega]) (by first | assumption | decide | exact xs_ (by decide) | exact xc_ (by decide) | exact x31_ (by decide) | omega) (rfl) (fun _ => by omega) (rfl) (fun x a b c d => ⟨rfl, rfl⟩)
              · refine r_aload_n hC dX6_burst_93 rfl ?_
                refine r_iload_n hC dX6_burst_94 rfl ?_
                refine z_inv1 hM dX6_burst_95 vl_RX6_116 rfl rfl rfl (Nat.le_of_ble_eq_true rfl) (Nat.le_of_ble_eq_true rfl) ?_
                refine y_heldOf (by first | assumption | decide | exact xs_ (by decide) | exact xc_ (by decide) | exact x31_ (by decide) | omega) (fun o31 => ?_)
                have e32 : σ 31 0 (22 * l + 5) = (V 7 l 6) := (hR.1.a7 (s := 6) (f := 5) (by first | assumption | decide | exact xs_ (by decide) | exact xc_ (by decide) | exact x31_ (by decide) | omega) (by first | assumption | decide | exact xs_ (by decide) | exact xc_ (by decide) | exact x31_ (by decide) | omega) (by first | assumption | decide | exact xs_ (by decide) | exact xc_ (by decide) | exact x31_ (by decide) | omega)).trans (rfl)
                rw [e32] at o31 ⊢
                have qo31 : 0 ≤ (V 7 l 6) ∧ (V 7 l 6) ≤ 121 := o31.1 (by first | assumption | decide | exact xs_ (by decide) | exact xc_ (by decide) | exact x31_ (by decide) | omega)
                refine r_iload_n hC dX6_burst_98 rfl ?_
                refine r_iaddE hC (((V 7 l 6) + m)) dX6_burst_99 (by first | assumption | decide | exact xs_ (by decide) | exact xc_ (by decide) | exact x31_ (by decide) | omega) (by unfold inR; omega) ?_
                refine r_bipush hC dX6_burst_100 rfl ?_
                refine r_icmp_le (tgt := 107) hC dX6_burst_102 rfl (fun h33 => ?_) (fun h33 => ?_)
                · refine r_aload_n hC dX6_burst_107 rfl ?_
                  refine r_iload_n hC dX6_burst_108 rfl ?_
                  refine r_bipush hC dX6_burst_109 rfl ?_
                  refine z_inv2 hM dX6_burst_111 vl_RX6_80 rfl rfl rfl (Nat.le_of_ble_eq_true rfl) (Nat.le_of_ble_eq_true rfl) ?_
                  refine y_of (by first | assumption | decide | exact xs_ (by decide) | exact xc_ (by decide) | exact x31_ (by decide) | omega) (by first | assumption | decide | exact xs_ (by decide) | exact xc_ (by decide) | exact x31_ (by decide) | omega) (by first | assumption | decide | exact xs_ (by decide) | exact xc_ (by decide) | exact x31_ (by decide) | omega) (fun o34 => ?_)
                  have e35 : σ 31 0 (22 * l + 6) = (V 7 l 10) := (hR.1.a7 (s := 10) (f := 6) (by first | assumption | decide | exact xs_ (by decide) | exact xc_ (by decide) | exact x31_ (by decide) | omega) (by first | assumption | decide | exact xs_ (by decide) | exact xc_ (by decide) | exact x31_ (by decide) | omega) (by first | assumption | decide | exact xs_ (by decide) | exact xc_ (by decide) | exact x31_ (by decide) | omega)).trans (rfl)
                  rw [e35] at o34 ⊢
                  refine r_iconst hC dX6_burst_114 rfl ?_
                  refine r_iaddE hC (((V 7 l 10) + 1)) dX6_burst_115 (by first | assumption | decide | exact xs_ (by decide) | exact xc_ (by decide) | exact x31_ (by decide) | omega) (by unfold inR; omega) ?_
                  refine r_istore hC dX6_burst_116 rfl ?_
                  refine r_iconst hC dX6_burst_118 rfl ?_
                  refine r_istore hC dX6_burst_119 rfl ?_
                  have L121 : ∀ (n121 : Nat) (w36 : Int) (ρ37 W37 : Mm), 0 ≤ w36 ∧ w36 ≤ 40 → ((w36) ≤ m) → 40 - w36 < (n121 : Int) → (RS t σ0 W37 ρ37) → (CI W37) → (GJ W37) → (bst l z (m - (w36)).toNat (v + (w36) * z) W37 = bst l z m.toNat v V) → (W37 7 l 10 = V 7 l 10 + (w36)) → (W37 7 l 3 = V 7 l 3) → (V 7 l 3 ≠ 1 → W37 7 l 6 + m - (w36) ≤ 120) → (W37 13 l 0 = V 13 l 0) → (∀ x : Int, 0 ≤ x → x ≤ 3 → x ≠ l → x ≠ V 13 l 0 → W37 7 x 6 = V 7 x 6 ∧ W37 7 x 15 = V 7 x 15) → K 121 [some (vR 30 0), some (vI l), some (vI m), some (vI v), some (vI z), some (vI ((V 7 l 10) + 1)), some (vI w36)] [] ρ37 := by
                    intro n121
                    induction n121 with
                    | zero => intro w36 ρ37 W37 f_w36 i0_121 hm  m0_121 m1_121 m2_121 m3_121 m4_121 m5_121 m6_121 m7_121 m8_121; omega
                    | succ n121 ih121 =>
                      intro w36 ρ37 W37 f_w36 i0_121 hm121  m0_121 m1_121 m2_121 m3_121 m4_121 m5_121 m6_121 m7_121 m8_121
                      refine r_iload hC dX6_burst_121 rfl ?_
                      refine r_iload_n hC dX6_burst_123 rfl ?_
                      refine r_icmp_ge (tgt := 160) hC dX6_burst_124 rfl (fun h38 => ?_) (fun h38 => ?_)
                      · refine r_aload_n hC dX6_burst_160 rfl ?_
                        refine r_iload_n hC dX6_burst_161 rfl ?_
                        refine z_inv1 hM dX6_burst_162 vl_RX6_259 rfl rfl rfl (Nat.le_of_ble_eq_true rfl) (Nat.le_of_ble_eq_true rfl) ?_
                        have e13 := m7_121
                        have hms : ∀ x : Int, 0 ≤ x → x ≤ 3 → x ≠ l → x ≠ V 13 l 0 → W37 7 x 6 ≤ W37 7 x 15 := fun x a b c d => by
                          rw [(m8_121 x a b c d).1, (m8_121 x a b c d).2]
                          exact hG.2.2 x a (by first | assumption | decide | exact xs_ (by decide) | exact xc_ (by decide) | exact x31_ (by decide) | omega)
                        refine y_behindCall (V := W37) (by first | assumption | decide | exact xs_ (by decide) | exact xc_ (by decide) | exact x31_ (by decide) | omega) ht ⟨m0_121.1, m0_121.2.1, m0_121.2.2⟩ (by rw [e13]; omega) (by rw [e13]; omega) (fun x a b c d => hms x a b c (by rw [e13] at d; exact d)) (fun ρ39 Rρ39 => ?_)
                        refine y_iret hK rfl dX6_burst_165 ?_
                        have hM : buM V l m v z = (ntM W37) := by
                          have e0 : bst l z m.toNat v V = W37 := by
                            rw [← m3_121, show (m - w36).toNat = 0 from by omega]
                            rfl
                          unfold buM
                          rw [if_pos ⟨by omega, by omega, by omega, by omega, by omega, by rw [ew (by first | assumption | decide | exact xs_ (by decide) | exact xc_ (by decide) | exact x31_ (by decide) | omega) (by first | assumption | decide | exact xs_ (by decide) | exact xc_ (by decide) | exact x31_ (by decide) | omega)]; omega, by omega⟩, e0]
                        have hRr : buR V l m v z = (W37 7 l 6) := by
                          unfold buR
                          rw [if_pos ⟨by omega, by omega, by omega, by omega, by omega, by rw [ew (by first | assumption | decide | exact xs_ (by decide) | exact xc_ (by decide) | exact x31_ (by decide) | omega) (by first | assumption | decide | exact xs_ (by decide) | exact xc_ (by decide) | exact x31_ (by decide) | omega)]; omega, by omega⟩, hM]
                          exact ntM_ne (by first | assumption | decide | exact xs_ (by decide) | exact xc_ (by decide) | exact x31_ (by decide) | omega)
                        rw [hM] at k
                        rw [hRr] at k
                        exact k _ ⟨Rρ39.1, Rρ39.2.1, Rρ39.2.2⟩
                      · have hW10 := m4_121
                        have hW3 := m5_121
                        have hW6 := m1_121.h7 (l := l) (by first | assumption | decide | exact xs_ (by decide) | exact xc_ (by decide) | exact x31_ (by decide) | omega) (by first | assumption | decide | exact xs_ (by decide) | exact xc_ (by decide) | exact x31_ (by decide) | omega)
                        have ecm := Int.mul_comm z w36
                        have lb := lin_btw (v := v) (s := z) (i := w36) (m := (m - 1)) (by first | assumption | decide | exact xs_ (by decide) | exact xc_ (by decide) | exact x31_ (by decide) | omega) (by first | assumption | decide | exact xs_ (by decide) | exact xc_ (by decide) | exact x31_ (by decide) | omega) (by first | assumption | decide | exact xs_ (by decide) | exact xc_ (by decide) | exact x31_ (by decide) | omega) (by have := Int.mul_comm z (m - 1); omega)
                        have et_ : wr (W37 7 l 10 + 1) = (((V 7 l 10) + 1) + w36) := by rw [m4_121, wr_id ⟨by omega, by omega⟩]; omega
                        refine r_aload_n hC dX6_burst_127 rfl ?_
                        refine r_iload_n hC dX6_burst_128 rfl ?_
                        refine r_iload hC dX6_burst_129 rfl ?_
                        refine r_iload hC dX6_burst_131 rfl ?_
                        refine r_iaddE hC ((((V 7 l 10) + 1) + w36)) dX6_burst_133 (by first | assumption | decide | exact xs_ (by decide) | exact xc_ (by decide) | exact x31_ (by decide) | omega) (by unfold inR; omega) ?_
                        refine z_inv2 hM dX6_burst_134 vl_RX6_256 rfl rfl rfl (Nat.le_of_ble_eq_true rfl) (Nat.le_of_ble_eq_true rfl) ?_
                        refine y_give (V := W37) (by first | assumption | decide | exact xs_ (by decide) | exact xc_ (by decide) | exact x31_ (by decide) | omega) (by first | assumption | decide | exact xs_ (by decide) | exact xc_ (by decide) | exact x31_ (by decide) | omega) ht ⟨m0_121.1, m0_121.2.1, m0_121.2.2⟩ m1_121 m2_121 (fun ρ40 Rρ40 => ?_)
                        refine r_aload_n hC dX6_burst_137 rfl ?_
                        refine r_iload_n hC dX6_burst_138 rfl ?_
                        refine r_iload hC dX6_burst_139 rfl ?_
                        refine r_iload hC dX6_burst_141 rfl ?_
                        refine r_iaddE hC ((((V 7 l 10) + 1) + w36)) dX6_burst_143 (by first | assumption | decide | exact xs_ (by decide) | exact xc_ (by decide) | exact x31_ (by decide) | omega) (by unfold inR; omega) ?_
                        refine r_iload_n hC dX6_burst_144 rfl ?_
                        refine r_iload hC dX6_burst_145 rfl ?_
                        refine r_iload hC dX6_burst_147 rfl ?_
                        have m41 := mul_bd2 (a := w36) (b := z) (A := 39) (B := 1000) (by first | assumption | decide | exact xs_ (by decide) | exact xc_ (by decide) | exact x31_ (by decide) | omega) (by first | assumption | decide | exact xs_ (by decide) | exact xc_ (by decide) | exact x31_ (by decide) | omega) (by first | assumption | decide | exact xs_ (by decide) | exact xc_ (by decide) | exact x31_ (by decide) | omega) (by first | assumption | decide | exact xs_ (by decide) | exact xc_ (by decide) | exact x31_ (by decide) | omega)
                        refine r_imulE hC ((z * w36)) dX6_burst_149 (by first | assumption | decide | exact xs_ (by decide) | exact xc_ (by decide) | exact x31_ (by decide) | omega) (by unfold inR; omega) ?_
                        refine r_iaddE hC ((v + (z * w36))) dX6_burst_150 (by first | assumption | decide | exact xs_ (by decide) | exact xc_ (by decide) | exact x31_ (by decide) | omega) (by unfold inR; omega) ?_
                        refine z_inv3 hM dX6_burst_151 vl_RX6_253 rfl rfl rfl (Nat.le_of_ble_eq_true rfl) (Nat.le_of_ble_eq_true rfl) ?_
                        -- a value between
                        have u3_151 : (gvM W37 l (((V 7 l 10) + 1) + w36)) 7 l 3 = (W37 7 l 3) := ((gv_7 m1_121 (by first | assumption | decide | exact xs_ (by decide) | exact xc_ (by decide) | exact x31_ (by decide) | omega) (by first | assumption | decide | exact xs_ (by decide) | exact xc_ (by decide) | exact x31_ (by decide) | omega)).trans (rfl))
                        have u6_151 : (gvM W37 l (((V 7 l 10) + 1) + w36)) 7 l 6 = (W37 7 l 6) := ((gv_7 m1_121 (by first | assumption | decide | exact xs_ (by decide) | exact xc_ (by decide) | exact x31_ (by decide) | omega) (by first | assumption | decide | exact xs_ (by decide) | exact xc_ (by decide) | exact x31_ (by decide) | omega)).trans (rfl))
                        have nf_151 : ¬ fuV (gvM W37 l (((V 7 l 10) + 1) + w36)) l := by unfold fuV; omega
                        have c_151 : CI (gvM W37 l (((V 7 l 10) + 1) + w36)) := (CI.gv m1_121)
                        have j_151 : GJ (gvM W37 l (((V 7 l 10) + 1) + w36)) := (GJ.gv m2_121 m1_121 (by first | assumption | decide | exact xs_ (by decide) | exact xc_ (by decide) | exact x31_ (by decide) | omega) (by first | assumption | decide | exact xs_ (by decide) | exact xc_ (by decide) | exact x31_ (by decide) | omega))
                        refine y_enter (V := (gvM W37 l (((V 7 l 10) + 1) + w36))) (l := l) (z := (((V 7 l 10) + 1) + w36)) (v := (v + (z * w36))) (by first | assumption | decide | exact xs_ (by decide) | exact xc_ (by decide) | exact x31_ (by decide) | omega) (by first | assumption | decide | exact xs_ (by decide) | exact xc_ (by decide) | exact x31_ (by decide) | omega) (by first | assumption | decide | exact xs_ (by decide) | exact xc_ (by decide) | exact x31_ (by decide) | omega) ht ⟨Rρ40.1, Rρ40.2.1, Rρ40.2.2⟩ (by first | assumption | decide | exact xs_ (by decide) | exact xc_ (by decide) | exact x31_ (by decide) | omega) (j_151.lk c_151 (by first | assumption | decide | exact xs_ (by decide) | exact xc_ (by decide) | exact x31_ (by decide) | omega) (by first | assumption | decide | exact xs_ (by decide) | exact xc_ (by decide) | exact x31_ (by decide) | omega)) (c_151.2.1 l (by first | assumption | decide | exact xs_ (by decide) | exact xc_ (by decide) | exact x31_ (by decide) | omega) (by first | assumption | decide | exact xs_ (by decide) | exact xc_ (by decide) | exact x31_ (by decide) | omega)) (j_151.1 l (by first | assumption | decide | exact xs_ (by decide) | exact xc_ (by decide) | exact x31_ (by decide) | omega) (by first | assumption | decide | exact xs_ (by decide) | exact xc_ (by decide) | exact x31_ (by decide) | omega)) (c_151.h7 (by first | assumption | decide | exact xs_ (by decide) | exact xc_ (by decide) | exact x31_ (by decide) | omega) (by first | assumption | decide | exact xs_ (by decide) | exact xc_ (by decide) | exact x31_ (by decide) | omega)).2 (fun q => by have := c_151.size (i := l) (by first | assumption | decide | exact xs_ (by decide) | exact xc_ (by decide) | exact x31_ (by decide) | omega) (by first | assumption | decide | exact xs_ (by decide) | exact xc_ (by decide) | exact x31_ (by decide) | omega) q; omega) (fun ρ42 Rρ42 => ?_)
                        refine r_iincE hC ((w36 + 1)) dX6_burst_154 rfl rfl (by first | assumption | decide | exact xs_ (by decide) | exact xc_ (by decide) | exact x31_ (by decide) | omega) (by unfold inR; omega) ?_
                        refine r_goto (tgt := 121) hC dX6_burst_157 rfl ?_
                        exact ih121 ((w36 + 1)) ρ42 (plM (gvM W37 l (((V 7 l 10) + 1) + w36)) l (((V 7 l 10) + 1) + w36) (v + (z * w36))) (by first | assumption | decide | exact xs_ (by decide) | exact xc_ (by decide) | exact x31_ (by decide) | omega) (by first | assumption | decide | exact xs_ (by decide) | exact xc_ (by decide) | exact x31_ (by decide) | omega) (by first | assumption | decide | exact xs_ (by decide) | exact xc_ (by decide) | exact x31_ (by decide) | omega)  (⟨Rρ42.1, Rρ42.2.1, Rρ42.2.2⟩) ((CI.pl c_151 (by first | assumption | decide | exact xs_ (by decide) | exact xc_ (by decide) | exact x31_ (by decide) | omega) (by first | assumption | decide | exact xs_ (by decide) | exact xc_ (by decide) | exact x31_ (by decide) | omega) nf_151)) ((GJ.pl j_151 (by first | assumption | decide | exact xs_ (by decide) | exact xc_ (by decide) | exact x31_ (by decide) | omega) (by first | assumption | decide | exact xs_ (by decide) | exact xc_ (by decide) | exact x31_ (by decide) | omega) (c_151.h7 (by first | assumption | decide | exact xs_ (by decide) | exact xc_ (by decide) | exact x31_ (by decide) | omega) (by first | assumption | decide | exact xs_ (by decide) | exact xc_ (by decide) | exact x31_ (by decide) | omega)) (by first | assumption | decide | exact xs_ (by decide) | exact xc_ (by decide) | exact x31_ (by decide) | omega) (by first | assumption | decide | exact xs_ (by decide) | exact xc_ (by decide) | exact x31_ (by decide) | omega))) (by have q := m3_121; rw [show (m - w36).toNat = (m - (w36 + 1)).toNat + 1 from by omega, bst_s, et_] at q; rw [show v + (w36 + 1) * z = v + w36 * z + z from by rw [Int.add_mul]; omega, show v + z * w36 = v + w36 * z from by rw [Int.mul_comm]]; exact q) (by rw [pl_10, gv_7 m1_121 (by first | assumption | decide | exact xs_ (by decide) | exact xc_ (by decide) | exact x31_ (by decide) | omega) (by first | assumption | decide | exact xs_ (by decide) | exact xc_ (by decide) | exact x31_ (by decide) | omega)]; omega) ((plM_nx (by unfold PS; omega)).trans ((gv_7 m1_121 (by first | assumption | decide | exact xs_ (by decide) | exact xc_ (by decide) | exact x31_ (by decide) | omega) (by first | assumption | decide | exact xs_ (by decide) | exact xc_ (by decide) | exact x31_ (by decide) | omega)).trans m5_121)) (fun q => by have hp := pl_6 (CI.gv m1_121 (i := l) (t := (((V 7 l 10) + 1) + w36))) (i := l) (t := (((V 7 l 10) + 1) + w36)) (v := (v + (z * w36))) (by first | assumption | decide | exact xs_ (by decide) | exact xc_ (by decide) | exact x31_ (by decide) | omega) (by first | assumption | decide | exact xs_ (by decide) | exact xc_ (by decide) | exact x31_ (by decide) | omega); rw [gv_7 m1_121 (by first | assumption | decide | exact xs_ (by decide) | exact xc_ (by decide) | exact x31_ (by decide) | omega) (by first | assumption | decide | exact xs_ (by decide) | exact xc_ (by decide) | exact x31_ (by decide) | omega)] at hp; have := m6_121 q; omega) ((plM_nx (by unfold PS; omega)).trans ((gvM_nx (by unfold PS; omega) (by first | assumption | decide | exact xs_ (by decide) | exact xc_ (by decide) | exact x31_ (by decide) | omega)).trans m7_121)) (fun x a b c d => by rw [plM_nx (by unfold PS; omega), plM_nx (by unfold PS; omega), gvM_nx (by rw [m7_121]; unfold PS; omega) (by first | assumption | decide | exact xs_ (by decide) | exact xc_ (by decide) | exact x31_ (by decide) | omega), gvM_nx (by rw [m7_121]; unfold PS; omega) (by first | assumption | decide | exact xs_ (by decide) | exact xc_ (by decide) | exact x31_ (by decide) | omega)]; exact m8_121 x a b c d)
                  exact L121 42 (0) σ V (by first | assumption | decide | exact xs_ (by decide) | exact xc_ (by decide) | exact x31_ (by decide) | omega) (by first | assumption | decide | exact xs_ (by decide) | exact xc_ (by decide) | exact x31_ (by decide) | omega) (by first | assumption | decide | exact xs_ (by decide) | exact xc_ (by decide) | exact x31_ (by decide) | omega)  (⟨hR.1, hR.2.1, hR.2.2⟩) (hG.1) (hG.2.1) (by rw [show (m - 0).toNat = m.toNat from by omega, show v + 0 * z = v from by omega]) (by first | assumption | decide | exact xs_ (by decide) | exact xc_ (by decide) | exact x31_ (by decide) | omega) (rfl) (fun _ => by omega) (rfl) (fun x a b c d => ⟨rfl, rfl⟩)
                · refine r_iconst hC dX6_burst_105 rfl ?_
                  refine y_iret hK rfl dX6_burst_106 ?_
                  have hM : buM V l m v z = V := by
                    exact if_neg (by intro q; have q2 := q.2.1; have q3 := q.2.2.1; have q4 := q.2.2.2.1; have q5 := q.2.2.2.2.1; have q6 := q.2.2.2.2.2.1; have q7 := q.2.2.2.2.2.2; have q1 := q.1; first | omega | (rw [ew (by first | assumption | decide | exact xs_ (by decide) | exact xc_ (by decide) | exact x31_ (by decide) | omega) (by first | assumption | decide | exact xs_ (by decide) | exact xc_ (by decide) | exact x31_ (by decide) | omega)] at q6; omega))
                  have hRr : buR V l m v z = (-1) := by
                    exact if_neg (by intro q; have q2 := q.2.1; have q3 := q.2.2.1; have q4 := q.2.2.2.1; have q5 := q.2.2.2.2.1; have q6 := q.2.2.2.2.2.1; have q7 := q.2.2.2.2.2.2; have q1 := q.1; first | omega | (rw [ew (by first | assumption | decide | exact xs_ (by decide) | exact xc_ (by decide) | exact x31_ (by decide) | omega) (by first | assumption | decide | exact xs_ (by decide) | exact xc_ (by decide) | exact x31_ (by decide) | omega)] at q6; omega))
                  rw [hM] at k
                  rw [hRr] at k
                  exact k _ ⟨hR.1, hR.2.1, hR.2.2⟩
            · refine r_iconst hC dX6_burst_81 rfl ?_
              refine y_iret hK rfl dX6_burst_82 ?_
              have hM : buM V l m v z = V := by
                exact if_neg (by intro q; have q2 := q.2.1; have q3 := q.2.2.1; have q4 := q.2.2.2.1; have q5 := q.2.2.2.2.1; have q6 := q.2.2.2.2.2.1; have q7 := q.2.2.2.2.2.2; have q1 := q.1; first | omega | (rw [ew (by first | assumption | decide | exact xs_ (by decide) | exact xc_ (by decide) | exact x31_ (by decide) | omega) (by first | assumption | decide | exact xs_ (by decide) | exact xc_ (by decide) | exact x31_ (by decide) | omega)] at q6; omega))
              have hRr : buR V l m v z = (-1) := by
                exact if_neg (by intro q; have q2 := q.2.1; have q3 := q.2.2.1; have q4 := q.2.2.2.1; have q5 := q.2.2.2.2.1; have q6 := q.2.2.2.2.2.1; have q7 := q.2.2.2.2.2.2; have q1 := q.1; first | omega | (rw [ew (by first | assumption | decide | exact xs_ (by decide) | exact xc_ (by decide) | exact x31_ (by decide) | omega) (by first | assumption | decide | exact xs_ (by decide) | exact xc_ (by decide) | exact x31_ (by decide) | omega)] at q6; omega))
              rw [hM] at k
              rw [hRr] at k
              exact k _ ⟨hR.1, hR.2.1, hR.2.2⟩
          · refine r_if_eq (tgt := 81) hC dX6_burst_64 rfl (fun h43 => ?_) (fun h43 => by omega)
            refine r_iconst hC dX6_burst_81 rfl ?_
            refine y_iret hK rfl dX6_burst_82 ?_
            have hM : buM V l m v z = V := by
              exact if_neg (by intro q; have q2 := q.2.1; have q3 := q.2.2.1; have q4 := q.2.2.2.1; have q5 := q.2.2.2.2.1; have q6 := q.2.2.2.2.2.1; have q7 := q.2.2.2.2.2.2; have q1 := q.1; first | omega | (rw [ew (by first | assumption | decide | exact xs_ (by decide) | exact xc_ (by decide) | exact x31_ (by decide) | omega) (by first | assumption | decide | exact xs_ (by decide) | exact xc_ (by decide) | exact x31_ (by decide) | omega)] at q6; omega))
            have hRr : buR V l m v z = (-1) := by
              exact if_neg (by intro q; have q2 := q.2.1; have q3 := q.2.2.1; have q4 := q.2.2.2.1; have q5 := q.2.2.2.2.1; have q6 := q.2.2.2.2.2.1; have q7 := q.2.2.2.2.2.2; have q1 := q.1; first | omega | (rw [ew (by first | assumption | decide | exact xs_ (by decide) | exact xc_ (by decide) | exact x31_ (by decide) | omega) (by first | assumption | decide | exact xs_ (by decide) | exact xc_ (by decide) | exact x31_ (by decide) | omega)] at q6; omega))
            rw [hM] at k
            rw [hRr] at k
            exact k _ ⟨hR.1, hR.2.1, hR.2.2⟩
        · refine r_if_eq (tgt := 81) hC dX6_burst_44 rfl (fun h44 => ?_) (fun h44 => by omega)
          refine r_iconst hC dX6_burst_81 rfl ?_
          refine y_iret hK rfl dX6_burst_82 ?_
          have hM : buM V l m v z = V := by
            exact if_neg (by intro q; have q2 := q.2.1; have q3 := q.2.2.1; have q4 := q.2.2.2.1; have q5 := q.2.2.2.2.1; have q6 := q.2.2.2.2.2.1; have q7 := q.2.2.2.2.2.2; have q1 := q.1; first | omega | (rw [ew (by first | assumption | decide | exact xs_ (by decide) | exact xc_ (by decide) | exact x31_ (by decide) | omega) (by first | assumption | decide | exact xs_ (by decide) | exact xc_ (by decide) | exact x31_ (by decide) | omega)] at q6; omega))
          have hRr : buR V l m v z = (-1) := by
            exact if_neg (by intro q; have q2 := q.2.1; have q3 := q.2.2.1; have q4 := q.2.2.2.1; have q5 := q.2.2.2.2.1; have q6 := q.2.2.2.2.2.1; have q7 := q.2.2.2.2.2.2; have q1 := q.1; first | omega | (rw [ew (by first | assumption | decide | exact xs_ (by decide) | exact xc_ (by decide) | exact x31_ (by decide) | omega) (by first | assumption | decide | exact xs_ (by decide) | exact xc_ (by decide) | exact x31_ (by decide) | omega)] at q6; omega))
          rw [hM] at k
          rw [hRr] at k
          exact k _ ⟨hR.1, hR.2.1, hR.2.2⟩
      · refine r_if_ne (tgt := 34) hC dX6_burst_29 rfl (fun h45 => by omega) (fun h45 => ?_)
        refine r_iconst hC dX6_burst_32 rfl ?_
        refine y_iret hK rfl dX6_burst_33 ?_
        have hM : buM V l m v z = V := by
          exact if_neg (by intro q; have q2 := q.2.1; have q3 := q.2.2.1; have q4 := q.2.2.2.1; have q5 := q.2.2.2.2.1; have q6 := q.2.2.2.2.2.1; have q7 := q.2.2.2.2.2.2; have q1 := q.1; first | omega | (rw [ew (by first | assumption | decide | exact xs_ (by decide) | exact xc_ (by decide) | exact x31_ (by decide) | omega) (by first | assumption | decide | exact xs_ (by decide) | exact xc_ (by decide) | exact x31_ (by decide) | omega)] at q6; omega))
        have hRr : buR V l m v z = (-1) := by
          exact if_neg (by intro q; have q2 := q.2.1; have q3 := q.2.2.1; have q4 := q.2.2.2.1; have q5 := q.2.2.2.2.1; have q6 := q.2.2.2.2.2.1; have q7 := q.2.2.2.2.2.2; have q1 := q.1; first | omega | (rw [ew (by first | assumption | decide | exact xs_ (by decide) | exact xc_ (by decide) | exact x31_ (by decide) | omega) (by first | assumption | decide | exact xs_ (by decide) | exact xc_ (by decide) | exact x31_ (by decide) | omega)] at q6; omega))
        rw [hM] at k
        rw [hRr] at k
        exact k _ ⟨hR.1, hR.2.1, hR.2.2⟩
    · refine r_if_eq (tgt := 32) hC dX6_burst_15 rfl (fun h46 => ?_) (fun h46 => by omega)
      refine r_iconst hC dX6_burst_32 rfl ?_
      refine y_iret hK rfl dX6_burst_33 ?_
      have hM : buM V l m v z = V := by
        exact if_neg (by intro q; have q2 := q.2.1; have q3 := q.2.2.1; have q4 := q.2.2.2.1; have q5 := q.2.2.2.2.1; have q6 := q.2.2.2.2.2.1; have q7 := q.2.2.2.2.2.2; have q1 := q.1; first | omega | (rw [ew (by first | assumption | decide | exact xs_ (by decide) | exact xc_ (by decide) | exact x31_ (by decide) | omega) (by first | assumption | decide | exact xs_ (by decide) | exact xc_ (by decide) | exact x31_ (by decide) | omega)] at q6; omega))
      have hRr : buR V l m v z = (-1) := by
        exact if_neg (by intro q; have q2 := q.2.1; have q3 := q.2.2.1; have q4 := q.2.2.2.1; have q5 := q.2.2.2.2.1; have q6 := q.2.2.2.2.2.1; have q7 := q.2.2.2.2.2.2; have q1 := q.1; first | omega | (rw [ew (by first | assumption | decide | exact xs_ (by decide) | exact xc_ (by decide) | exact x31_ (by decide) | omega) (by first | assumption | decide | exact xs_ (by decide) | exact xc_ (by decide) | exact x31_ (by decide) | omega)] at q6; omega))
      rw [hM] at k
      rw [hRr] at k
      exact k _ ⟨hR.1, hR.2.1, hR.2.2⟩
  · unfold opV at h1
    refine r_if_eq (tgt := 32) hC dX6_burst_5 rfl (fun h47 => ?_) (fun h47 => by omega)
    refine r_iconst hC dX6_burst_32 rfl ?_
    refine y_iret hK rfl dX6_burst_33 ?_
    have hM : buM V l m v z = V := by
      exact if_neg (by intro q; have q2 := q.2.1; have q3 := q.2.2.1; have q4 := q.2.2.2.1; have q5 := q.2.2.2.2.1; have q6 := q.2.2.2.2.2.1; have q7 := q.2.2.2.2.2.2; have q1 := q.1; first | omega | (rw [ew (by first | assumption | decide | exact xs_ (by decide) | exact xc_ (by decide) | exact x31_ (by decide) | omega) (by first | assumption | decide | exact xs_ (by decide) | exact xc_ (by decide) | exact x31_ (by decide) | omega)] at q6; omega))
    have hRr : buR V l m v z = (-1) := by
      exact if_neg (by intro q; have q2 := q.2.1; have q3 := q.2.2.1; have q4 := q.2.2.2.1; have q5 := q.2.2.2.2.1; have q6 := q.2.2.2.2.2.1; have q7 := q.2.2.2.2.2.2; have q1 := q.1; first | omega | (rw [ew (by first | assumption | decide | exact xs_ (by decide) | exact xc_ (by decide) | exact x31_ (by decide) | omega) (by first | assumption | decide | exact xs_ (by decide) | exact xc_ (by decide) | exact x31_ (by decide) | omega)] at q6; omega))
    rw [hM] at k
    rw [hRr] at k
    exact k _ ⟨hR.1, hR.2.1, hR.2.2⟩
theorem y_leave {eb : Bool} {t : Int} {V : Mm} {d : Nat} {P : Option Vl → Mm → Prop} {σ : Mm} {l m : Int}  {σ0 : Mm} (ht : 6 ≤ t ∧ t ≤ 7) (hR : RS t σ0 V σ) (hG : GI V)  (k : ∀ ρ : Mm, RS t σ0 (leM V l m) ρ → P (some (vI (leR V l m))) ρ) : WT (true, eb, true) (d + 9) 207 [vR 30 0, vI l, vI m] σ P := by
  refine WT_in fun K hK => ?_
  have hK : StpY (true, eb, true) cX6_leave RX6 (some .int) (WT (true, eb, true) (d + 8)) P K := hK
  have hM := hK.1
  have hC := hK.1.1
  show K 0 [some (vR 30 0), some (vI l), some (vI m), none] [] σ
  refine r_rngz hC (fun g0 => ?_)
  have r_l : -2147483648 ≤ l ∧ l ≤ 2147483647 := inR_le (g0 (vI l) (by simp))
  have r_m : -2147483648 ≤ m ∧ m ≤ 2147483647 := inR_le (g0 (vI m) (by simp))
  refine r_aload_n hC dX6_leave_0 rfl ?_
  refine r_iload_n hC dX6_leave_1 rfl ?_
  refine z_inv1 hM dX6_leave_2 vl_RX6_124 rfl rfl rfl (Nat.le_of_ble_eq_true rfl) (Nat.le_of_ble_eq_true rfl) ?_
  refine y_isLane (V := V) ht ⟨hR.1, hR.2.1, hR.2.2⟩ (fun h1 => ?_) (fun h1 => ?_)
  · unfold opV at h1
    refine r_if_eq (tgt := 21) hC dX6_leave_5 rfl (fun h2 => by omega) (fun h2 => ?_)
    have h6 := hG.1.h7 (l := l) (by first | assumption | decide | exact xs_ (by decide) | exact xc_ (by decide) | exact x31_ (by decide) | omega) (by first | assumption | decide | exact xs_ (by decide) | exact xc_ (by decide) | exact x31_ (by decide) | omega)
    have h10 := hG.2.1.2.1 l (by first | assumption | decide | exact xs_ (by decide) | exact xc_ (by decide) | exact x31_ (by decide) | omega) (by first | assumption | decide | exact xs_ (by decide) | exact xc_ (by decide) | exact x31_ (by decide) | omega)
    have hlk := hG.2.1.2.2.2.2.2.1 l (by first | assumption | decide | exact xs_ (by decide) | exact xc_ (by decide) | exact x31_ (by decide) | omega) (by first | assumption | decide | exact xs_ (by decide) | exact xc_ (by decide) | exact x31_ (by decide) | omega)
    unfold opV at hlk
    have hk13 : -1 ≤ V 13 l 0 ∧ V 13 l 0 ≤ 3 := by omega
    have hkn := hG.1.2.2.2 l (by first | assumption | decide | exact xs_ (by decide) | exact xc_ (by decide) | exact x31_ (by decide) | omega) (by first | assumption | decide | exact xs_ (by decide) | exact xc_ (by decide) | exact x31_ (by decide) | omega)
    refine r_iload_n hC dX6_leave_8 rfl ?_
    refine r_iconst hC dX6_leave_9 rfl ?_
    refine r_aload_n hC dX6_leave_10 rfl ?_
    refine r_iload_n hC dX6_leave_11 rfl ?_
    refine z_inv1 hM dX6_leave_12 vl_RX6_116 rfl rfl rfl (Nat.le_of_ble_eq_true rfl) (Nat.le_of_ble_eq_true rfl) ?_
    refine y_heldOf (by first | assumption | decide | exact xs_ (by decide) | exact xc_ (by decide) | exact x31_ (by decide) | omega) (fun o3 => ?_)
    have e4 : σ 31 0 (22 * l + 5) = (V 7 l 6) := (hR.1.a7 (s := 6) (f := 5) (by first | assumption | decide | exact xs_ (by decide) | exact xc_ (by decide) | exact x31_ (by decide) | omega) (by first | assumption | decide | exact xs_ (by decide) | exact xc_ (by decide) | exact x31_ (by decide) | omega) (by first | assumption | decide | exact xs_ (by decide) | exact xc_ (by decide) | exact x31_ (by decide) | omega)).trans (rfl)
    rw [e4] at o3 ⊢
    have qo3 : 0 ≤ (V 7 l 6) ∧ (V 7 l 6) ≤ 121 := o3.1 (by first | assumption | decide | exact xs_ (by decide) | exact xc_ (by decide) | exact x31_ (by decide) | omega)
    refine z_ins3 hM dX6_leave_15 tl_RX6_76 rfl (Nat.le_of_ble_eq_true rfl) (Nat.le_of_ble_eq_true rfl) ?_
    refine m_isIn (fun h6 => ?_) (fun h6 => ?_)
    · refine r_if_ne (tgt := 23) hC dX6_leave_18 rfl (fun h7 => ?_) (fun h7 => by omega)
      refine r_iconst hC dX6_leave_23 rfl ?_
      refine r_istore_n hC dX6_leave_24 rfl ?_
      have L25 : ∀ (n25 : Nat) (w8 : Int) (ρ9 W9 : Mm), 0 ≤ w8 ∧ w8 ≤ 121 → ((w8) ≤ m) → 121 - w8 < (n25 : Int) → (RS t σ0 W9 ρ9) → (CI W9) → (GJ W9) → (dpN l (m - (w8)).toNat W9 = dpN l (m).toNat V) → (W9 7 l 6 = V 7 l 6 - (w8)) → K 25 [some (vR 30 0), some (vI l), some (vI m), some (vI w8)] [] ρ9 := by
        intro n25
        induction n25 with
        | zero => intro w8 ρ9 W9 f_w8 i0_25 hm  m0_25 m1_25 m2_25 m3_25 m4_25; omega
        | succ n25 ih25 =>
          intro w8 ρ9 W9 f_w8 i0_25 hm25  m0_25 m1_25 m2_25 m3_25 m4_25
          have hW6 := m4_25
          refine r_iload_n hC dX6_leave_25 rfl ?_
          refine r_iload_n hC dX6_leave_26 rfl ?_
          refine r_icmp_ge (tgt := 41) hC dX6_leave_27 rfl (fun h10 => ?_) (fun h10 => ?_)
          · refine r_aload_n hC dX6_leave_41 rfl ?_
            refine r_iload_n hC dX6_leave_42 rfl ?_
            refine z_inv1 hM dX6_leave_43 vl_RX6_116 rfl rfl rfl (Nat.le_of_ble_eq_true rfl) (Nat.le_of_ble_eq_true rfl) ?_
            refine y_heldOf (by first | assumption | decide | exact xs_ (by decide) | exact xc_ (by decide) | exact x31_ (by decide) | omega) (fun o11 => ?_)
            have e12 : ρ9 31 0 (22 * l + 5) = (W9 7 l 6) := (m0_25.1.a7 (s := 6) (f := 5) (by first | assumption | decide | exact xs_ (by decide) | exact xc_ (by decide) | exact x31_ (by decide) | omega) (by first | assumption | decide | exact xs_ (by decide) | exact xc_ (by decide) | exact x31_ (by decide) | omega) (by first | assumption | decide | exact xs_ (by decide) | exact xc_ (by decide) | exact x31_ (by decide) | omega)).trans (rfl)
            rw [e12] at o11 ⊢
            have qo11 : 0 ≤ (W9 7 l 6) ∧ (W9 7 l 6) ≤ 121 := o11.1 (by first | assumption | decide | exact xs_ (by decide) | exact xc_ (by decide) | exact x31_ (by decide) | omega)
            refine y_iret hK rfl dX6_leave_46 ?_
            have hM : leM V l m = W9 := by
              have e0 : dpN l (m).toNat V = W9 := by
                rw [← m3_25, show (m - w8).toNat = 0 from by omega]
                rfl
              unfold leM
              rw [if_pos (by first | assumption | decide | exact xs_ (by decide) | exact xc_ (by decide) | exact x31_ (by decide) | omega), e0]
            have hRr : leR V l m = (W9 7 l 6) := by
              unfold leR
              rw [if_pos (by first | assumption | decide | exact xs_ (by decide) | exact xc_ (by decide) | exact x31_ (by decide) | omega), hM]
            rw [hM] at k
            rw [hRr] at k
            exact k _ ⟨m0_25.1, m0_25.2.1, m0_25.2.2⟩
          · refine r_aload_n hC dX6_leave_30 rfl ?_
            refine r_iload_n hC dX6_leave_31 rfl ?_
            refine z_inv1 hM dX6_leave_32 vl_RX6_233 rfl rfl rfl (Nat.le_of_ble_eq_true rfl) (Nat.le_of_ble_eq_true rfl) ?_
            have hW1 : 1 ≤ W9 7 l 6 := by omega
            refine y_drop (V := W9) (by first | assumption | decide | exact xs_ (by decide) | exact xc_ (by decide) | exact x31_ (by decide) | omega) ht ⟨m0_25.1, m0_25.2.1, m0_25.2.2⟩ (by first | assumption | decide | exact xs_ (by decide) | exact xc_ (by decide) | exact x31_ (by decide) | omega) (m2_25.lk m1_25 (by first | assumption | decide | exact xs_ (by decide) | exact xc_ (by decide) | exact x31_ (by decide) | omega) (by first | assumption | decide | exact xs_ (by decide) | exact xc_ (by decide) | exact x31_ (by decide) | omega)) (m1_25.2.1 l (by first | assumption | decide | exact xs_ (by decide) | exact xc_ (by decide) | exact x31_ (by decide) | omega) (by first | assumption | decide | exact xs_ (by decide) | exact xc_ (by decide) | exact x31_ (by decide) | omega)) hW1 (fun ρ13 Rρ13 => ?_)
            refine r_iincE hC ((w8 + 1)) dX6_leave_35 rfl rfl (by first | assumption | decide | exact xs_ (by decide) | exact xc_ (by decide) | exact x31_ (by decide) | omega) (by unfold inR; omega) ?_
            refine r_goto (tgt := 25) hC dX6_leave_38 rfl ?_
            exact ih25 ((w8 + 1)) ρ13 (dpM W9 l) (by first | assumption | decide | exact xs_ (by decide) | exact xc_ (by decide) | exact x31_ (by decide) | omega) (by first | assumption | decide | exact xs_ (by decide) | exact xc_ (by decide) | exact x31_ (by decide) | omega) (by first | assumption | decide | exact xs_ (by decide) | exact xc_ (by decide) | exact x31_ (by decide) | omega)  (⟨Rρ13.1, Rρ13.2.1, Rρ13.2.2⟩) ((CI.dp m1_25 (by first | assumption | decide | exact xs_ (by decide) | exact xc_ (by decide) | exact x31_ (by decide) | omega) (by first | assumption | decide | exact xs_ (by decide) | exact xc_ (by decide) | exact x31_ (by decide) | omega) hW1)) ((GJ.dp m2_25 (by first | assumption | decide | exact xs_ (by decide) | exact xc_ (by decide) | exact x31_ (by decide) | omega) (by first | assumption | decide | exact xs_ (by decide) | exact xc_ (by decide) | exact x31_ (by decide) | omega) (by have := m1_25.h7 (l := l) (by first | assumption | decide | exact xs_ (by decide) | exact xc_ (by decide) | exact x31_ (by decide) | omega) (by first | assumption | decide | exact xs_ (by decide) | exact xc_ (by decide) | exact x31_ (by decide) | omega); omega))) (by have q := m3_25; rw [show (m - w8).toNat = (m - (w8 + 1)).toNat + 1 from by omega, dpN_s] at q; exact q) (by rw [dpM_6]; omega)
      exact L25 123 (0) σ V (by first | assumption | decide | exact xs_ (by decide) | exact xc_ (by decide) | exact x31_ (by decide) | omega) (by first | assumption | decide | exact xs_ (by decide) | exact xc_ (by decide) | exact x31_ (by decide) | omega) (by first | assumption | decide | exact xs_ (by decide) | exact xc_ (by decide) | exact x31_ (by decide) | omega)  (⟨hR.1, hR.2.1, hR.2.2⟩) (hG.1) (hG.2.1) (by rw [show (m - 0).toNat = (m).toNat from by omega]) (by first | assumption | decide | exact xs_ (by decide) | exact xc_ (by decide) | exact x31_ (by decide) | omega)
    · refine r_if_ne (tgt := 23) hC dX6_leave_18 rfl (fun h14 => by omega) (fun h14 => ?_)
      refine r_iconst hC dX6_leave_21 rfl ?_
      refine y_iret hK rfl dX6_leave_22 ?_
      have hM : leM V l m = V := by
        exact if_neg (by first | assumption | decide | exact xs_ (by decide) | exact xc_ (by decide) | exact x31_ (by decide) | omega)
      have hRr : leR V l m = (-1) := by
        exact if_neg (by first | assumption | decide | exact xs_ (by decide) | exact xc_ (by decide) | exact x31_ (by decide) | omega)
      rw [hM] at k
      rw [hRr] at k
      exact k _ ⟨hR.1, hR.2.1, hR.2.2⟩
  · unfold opV at h1
    refine r_if_eq (tgt := 21) hC dX6_leave_5 rfl (fun h15 => ?_) (fun h15 => by omega)
    refine r_iconst hC dX6_leave_21 rfl ?_
    refine y_iret hK rfl dX6_leave_22 ?_
    have hM : leM V l m = V := by
      exact if_neg (by first | assumption | decide | exact xs_ (by decide) | exact xc_ (by decide) | exact x31_ (by decide) | omega)
    have hRr : leR V l m = (-1) := by
      exact if_neg (by first | assumption | decide | exact xs_ (by decide) | exact xc_ (by decide) | exact x31_ (by decide) | omega)
    rw [hM] at k
    rw [hRr] at k
    exact k _ ⟨hR.1, hR.2.1, hR.2.2⟩
theorem y_until {eb : Bool} {t : Int} {V : Mm} {d : Nat} {P : Option Vl → Mm → Prop} {σ : Mm} {l z : Int}  {σ0 : Mm} (ht : 6 ≤ t ∧ t ≤ 7) (hR : RS t σ0 V σ) (hG : GI V)  (k : ∀ ρ : Mm, RS t σ0 (unM V l z) ρ → P (some (vI (unR V l z))) ρ) : WT (true, eb, true) (d + 9) 208 [vR 30 0, vI l, vI z] σ P := by
  refine WT_in fun K hK => ?_
  have hK : StpY (true, eb, true) cX6_until RX6 (some .int) (WT (true, eb, true) (d + 8)) P K := hK
  have hM := hK.1
  have hC := hK.1.1
  show K 0 [some (vR 30 0), some (vI l), some (vI z), none, none] [] σ
  refine r_rngz hC (fun g0 => ?_)
  have r_l : -2147483648 ≤ l ∧ l ≤ 2147483647 := inR_le (g0 (vI l) (by simp))
  have r_z : -2147483648 ≤ z ∧ z ≤ 2147483647 := inR_le (g0 (vI z) (by simp))
  refine r_aload_n hC dX6_until_0 rfl ?_
  refine r_iload_n hC dX6_until_1 rfl ?_
  refine z_inv1 hM dX6_until_2 vl_RX6_124 rfl rfl rfl (Nat.le_of_ble_eq_true rfl) (Nat.le_of_ble_eq_true rfl) ?_
  refine y_isLane (V := V) ht ⟨hR.1, hR.2.1, hR.2.2⟩ (fun h1 => ?_) (fun h1 => ?_)
  · unfold opV at h1
    refine r_if_ne (tgt := 10) hC dX6_until_5 rfl (fun h2 => ?_) (fun h2 => by omega)
    have h6 := hG.1.h7 (l := l) (by first | assumption | decide | exact xs_ (by decide) | exact xc_ (by decide) | exact x31_ (by decide) | omega) (by first | assumption | decide | exact xs_ (by decide) | exact xc_ (by decide) | exact x31_ (by decide) | omega)
    have h10 := hG.2.1.2.1 l (by first | assumption | decide | exact xs_ (by decide) | exact xc_ (by decide) | exact x31_ (by decide) | omega) (by first | assumption | decide | exact xs_ (by decide) | exact xc_ (by decide) | exact x31_ (by decide) | omega)
    have hlk := hG.2.1.2.2.2.2.2.1 l (by first | assumption | decide | exact xs_ (by decide) | exact xc_ (by decide) | exact x31_ (by decide) | omega) (by first | assumption | decide | exact xs_ (by decide) | exact xc_ (by decide) | exact x31_ (by decide) | omega)
    unfold opV at hlk
    have hk13 : -1 ≤ V 13 l 0 ∧ V 13 l 0 ≤ 3 := by omega
    have hkn := hG.1.2.2.2 l (by first | assumption | decide | exact xs_ (by decide) | exact xc_ (by decide) | exact x31_ (by decide) | omega) (by first | assumption | decide | exact xs_ (by decide) | exact xc_ (by decide) | exact x31_ (by decide) | omega)
    refine r_aload_n hC dX6_until_10 rfl ?_
    refine r_iload_n hC dX6_until_11 rfl ?_
    refine r_iload_n hC dX6_until_12 rfl ?_
    refine z_inv2 hM dX6_until_13 vl_RX6_224 rfl rfl rfl (Nat.le_of_ble_eq_true rfl) (Nat.le_of_ble_eq_true rfl) ?_
    refine y_placeOf (by first | assumption | decide | exact xs_ (by decide) | exact xc_ (by decide) | exact x31_ (by decide) | omega) ht ⟨hR.1, hR.2.1, hR.2.2⟩ (by first | assumption | decide | exact xs_ (by decide) | exact xc_ (by decide) | exact x31_ (by decide) | omega) (hG.2.1.1 l (by first | assumption | decide | exact xs_ (by decide) | exact xc_ (by decide) | exact x31_ (by decide) | omega) (by first | assumption | decide | exact xs_ (by decide) | exact xc_ (by decide) | exact x31_ (by decide) | omega)) (by first | assumption | decide | exact xs_ (by decide) | exact xc_ (by decide) | exact x31_ (by decide) | omega) (fun h3 => ?_)
    refine r_istore_n hC dX6_until_16 rfl ?_
    refine r_iconst hC dX6_until_17 rfl ?_
    refine r_istore hC dX6_until_18 rfl ?_
    have L20 : ∀ (n20 : Nat) (w4 : Int) (ρ5 W5 : Mm), 0 ≤ w4 ∧ w4 ≤ 121 → ((w4) ≤ hU V l z) → 121 - w4 < (n20 : Int) → (RS t σ0 W5 ρ5) → (CI W5) → (GJ W5) → (dpN l (hU V l z - (w4)).toNat W5 = dpN l (hU V l z).toNat V) → (W5 7 l 6 = V 7 l 6 - (w4)) → K 20 [some (vR 30 0), some (vI l), some (vI z), some (vI (hU V l z)), some (vI w4)] [] ρ5 := by
      intro n20
      induction n20 with
      | zero => intro w4 ρ5 W5 f_w4 i0_20 hm  m0_20 m1_20 m2_20 m3_20 m4_20; omega
      | succ n20 ih20 =>
        intro w4 ρ5 W5 f_w4 i0_20 hm20  m0_20 m1_20 m2_20 m3_20 m4_20
        have hW6 := m4_20
        refine r_iload hC dX6_until_20 rfl ?_
        refine r_iload_n hC dX6_until_22 rfl ?_
        refine r_icmp_ge (tgt := 37) hC dX6_until_23 rfl (fun h6 => ?_) (fun h6 => ?_)
        · refine r_iload_n hC dX6_until_37 rfl ?_
          refine y_iret hK rfl dX6_until_38 ?_
          have hM : unM V l z = W5 := by
            have e0 : dpN l (hU V l z).toNat V = W5 := by
              rw [← m3_20, show (hU V l z - w4).toNat = 0 from by omega]
              rfl
            unfold unM
            rw [if_pos (by first | assumption | decide | exact xs_ (by decide) | exact xc_ (by decide) | exact x31_ (by decide) | omega), e0]
          have hRr : unR V l z = (hU V l z) := by
            unfold unR
            rw [if_pos (by first | assumption | decide | exact xs_ (by decide) | exact xc_ (by decide) | exact x31_ (by decide) | omega)]
          rw [hM] at k
          rw [hRr] at k
          exact k _ ⟨m0_20.1, m0_20.2.1, m0_20.2.2⟩
        · refine r_aload_n hC dX6_until_26 rfl ?_
          refine r_iload_n hC dX6_until_27 rfl ?_
          refine z_inv1 hM dX6_until_28 vl_RX6_233 rfl rfl rfl (Nat.le_of_ble_eq_true rfl) (Nat.le_of_ble_eq_true rfl) ?_
          have hW1 : 1 ≤ W5 7 l 6 := by omega
          refine y_drop (V := W5) (by first | assumption | decide | exact xs_ (by decide) | exact xc_ (by decide) | exact x31_ (by decide) | omega) ht ⟨m0_20.1, m0_20.2.1, m0_20.2.2⟩ (by first | assumption | decide | exact xs_ (by decide) | exact xc_ (by decide) | exact x31_ (by decide) | omega) (m2_20.lk m1_20 (by first | assumption | decide | exact xs_ (by decide) | exact xc_ (by decide) | exact x31_ (by decide) | omega) (by first | assumption | decide | exact xs_ (by decide) | exact xc_ (by decide) | exact x31_ (by decide) | omega)) (m1_20.2.1 l (by first | assumption | decide | exact xs_ (by decide) | exact xc_ (by decide) | exact x31_ (by decide) | omega) (by first | assumption | decide | exact xs_ (by decide) | exact xc_ (by decide) | exact x31_ (by decide) | omega)) hW1 (fun ρ7 Rρ7 => ?_)
          refine r_iincE hC ((w4 + 1)) dX6_until_31 rfl rfl (by first | assumption | decide | exact xs_ (by decide) | exact xc_ (by decide) | exact x31_ (by decide) | omega) (by unfold inR; omega) ?_
          refine r_goto (tgt := 20) hC dX6_until_34 rfl ?_
          exact ih20 ((w4 + 1)) ρ7 (dpM W5 l) (by first | assumption | decide | exact xs_ (by decide) | exact xc_ (by decide) | exact x31_ (by decide) | omega) (by first | assumption | decide | exact xs_ (by decide) | exact xc_ (by decide) | exact x31_ (by decide) | omega) (by first | assumption | decide | exact xs_ (by decide) | exact xc_ (by decide) | exact x31_ (by decide) | omega)  (⟨Rρ7.1, Rρ7.2.1, Rρ7.2.2⟩) ((CI.dp m1_20 (by first | assumption | decide | exact xs_ (by decide) | exact xc_ (by decide) | exact x31_ (by decide) | omega) (by first | assumption | decide | exact xs_ (by decide) | exact xc_ (by decide) | exact x31_ (by decide) | omega) hW1)) ((GJ.dp m2_20 (by first | assumption | decide | exact xs_ (by decide) | exact xc_ (by decide) | exact x31_ (by decide) | omega) (by first | assumption | decide | exact xs_ (by decide) | exact xc_ (by decide) | exact x31_ (by decide) | omega) (by have := m1_20.h7 (l := l) (by first | assumption | decide | exact xs_ (by decide) | exact xc_ (by decide) | exact x31_ (by decide) | omega) (by first | assumption | decide | exact xs_ (by decide) | exact xc_ (by decide) | exact x31_ (by decide) | omega); omega))) (by have q := m3_20; rw [show (hU V l z - w4).toNat = (hU V l z - (w4 + 1)).toNat + 1 from by omega, dpN_s] at q; exact q) (by rw [dpM_6]; omega)
    exact L20 123 (0) σ V (by first | assumption | decide | exact xs_ (by decide) | exact xc_ (by decide) | exact x31_ (by decide) | omega) (by first | assumption | decide | exact xs_ (by decide) | exact xc_ (by decide) | exact x31_ (by decide) | omega) (by first | assumption | decide | exact xs_ (by decide) | exact xc_ (by decide) | exact x31_ (by decide) | omega)  (⟨hR.1, hR.2.1, hR.2.2⟩) (hG.1) (hG.2.1) (by rw [show (hU V l z - 0).toNat = (hU V l z).toNat from by omega]) (by first | assumption | decide | exact xs_ (by decide) | exact xc_ (by decide) | exact x31_ (by decide) | omega)
  · unfold opV at h1
    refine r_if_ne (tgt := 10) hC dX6_until_5 rfl (fun h8 => by omega) (fun h8 => ?_)
    refine r_iconst hC dX6_until_8 rfl ?_
    refine y_iret hK rfl dX6_until_9 ?_
    have hM : unM V l z = V := by
      exact if_neg (by first | assumption | decide | exact xs_ (by decide) | exact xc_ (by decide) | exact x31_ (by decide) | omega)
    have hRr : unR V l z = (-1) := by
      exact if_neg (by first | assumption | decide | exact xs_ (by decide) | exact xc_ (by decide) | exact x31_ (by decide) | omega)
    rw [hM] at k
    rw [hRr] at k
    exact k _ ⟨hR.1, hR.2.1, hR.2.2⟩
theorem y_isEvent {eb : Bool} {t : Int} {V : Mm} {d : Nat} {P : Option Vl → Mm → Prop} {σ : Mm} {l x : Int}  {σ0 : Mm} (ht : 6 ≤ t ∧ t ≤ 7) (hR : RS t σ0 V σ)  (k1 : evC V l x → P (some (vI 1)) σ) (k0 : ¬ evC V l x → P (some (vI 0)) σ) : WT (true, eb, true) (d + 3) 209 [vR 30 0, vI l, vI x] σ P := by
  refine WT_in fun K hK => ?_
  have hK : StpY (true, eb, true) cX6_isEvent RX6 (some .boolean) (WT (true, eb, true) (d + 2)) P K := hK
  have hM := hK.1
  have hC := hK.1.1
  show K 0 [some (vR 30 0), some (vI l), some (vI x)] [] σ
  refine r_rngz hC (fun g0 => ?_)
  have r_l : -2147483648 ≤ l ∧ l ≤ 2147483647 := inR_le (g0 (vI l) (by simp))
  have r_x : -2147483648 ≤ x ∧ x ≤ 2147483647 := inR_le (g0 (vI x) (by simp))
  refine r_aload_n hC dX6_isEvent_0 rfl ?_
  refine r_iload_n hC dX6_isEvent_1 rfl ?_
  refine z_inv1 hM dX6_isEvent_2 vl_RX6_124 rfl rfl rfl (Nat.le_of_ble_eq_true rfl) (Nat.le_of_ble_eq_true rfl) ?_
  refine y_isLane (V := V) ht ⟨hR.1, hR.2.1, hR.2.2⟩ (fun h1 => ?_) (fun h1 => ?_)
  · unfold opV at h1
    refine r_if_eq (tgt := 27) hC dX6_isEvent_5 rfl (fun h2 => by omega) (fun h2 => ?_)
    refine r_iload_n hC dX6_isEvent_8 rfl ?_
    refine r_iconst hC dX6_isEvent_9 rfl ?_
    refine r_aload_n hC dX6_isEvent_10 rfl ?_
    refine r_iload_n hC dX6_isEvent_11 rfl ?_
    refine z_inv1 hM dX6_isEvent_12 vl_RX6_116 rfl rfl rfl (Nat.le_of_ble_eq_true rfl) (Nat.le_of_ble_eq_true rfl) ?_
    refine y_heldOf (by first | assumption | decide | exact xs_ (by decide) | exact xc_ (by decide) | exact x31_ (by decide) | omega) (fun o3 => ?_)
    have e4 : σ 31 0 (22 * l + 5) = (V 7 l 6) := (hR.1.a7 (s := 6) (f := 5) (by first | assumption | decide | exact xs_ (by decide) | exact xc_ (by decide) | exact x31_ (by decide) | omega) (by first | assumption | decide | exact xs_ (by decide) | exact xc_ (by decide) | exact x31_ (by decide) | omega) (by first | assumption | decide | exact xs_ (by decide) | exact xc_ (by decide) | exact x31_ (by decide) | omega)).trans (rfl)
    rw [e4] at o3 ⊢
    have qo3 : 0 ≤ (V 7 l 6) ∧ (V 7 l 6) ≤ 121 := o3.1 (by first | assumption | decide | exact xs_ (by decide) | exact xc_ (by decide) | exact x31_ (by decide) | omega)
    refine r_iconst hC dX6_isEvent_15 rfl ?_
    refine r_isubE hC (((V 7 l 6) - 1)) dX6_isEvent_16 (by first | assumption | decide | exact xs_ (by decide) | exact xc_ (by decide) | exact x31_ (by decide) | omega) (by unfold inR; omega) ?_
    refine z_ins3 hM dX6_isEvent_17 tl_RX6_76 rfl (Nat.le_of_ble_eq_true rfl) (Nat.le_of_ble_eq_true rfl) ?_
    refine m_isIn (fun h6 => ?_) (fun h6 => ?_)
    · refine r_if_eq (tgt := 27) hC dX6_isEvent_20 rfl (fun h7 => by omega) (fun h7 => ?_)
      refine r_iconst hC dX6_isEvent_23 rfl ?_
      refine r_goto (tgt := 28) hC dX6_isEvent_24 rfl ?_
      refine y_zret hK rfl dX6_isEvent_28 (by first | assumption | decide | exact xs_ (by decide) | exact xc_ (by decide) | exact x31_ (by decide) | omega) ?_
      exact k1 (by first | assumption | decide | exact xs_ (by decide) | exact xc_ (by decide) | exact x31_ (by decide) | omega)
    · refine r_if_eq (tgt := 27) hC dX6_isEvent_20 rfl (fun h8 => ?_) (fun h8 => by omega)
      refine r_iconst hC dX6_isEvent_27 rfl ?_
      refine y_zret hK rfl dX6_isEvent_28 (by first | assumption | decide | exact xs_ (by decide) | exact xc_ (by decide) | exact x31_ (by decide) | omega) ?_
      exact k0 (by first | assumption | decide | exact xs_ (by decide) | exact xc_ (by decide) | exact x31_ (by decide) | omega)
  · unfold opV at h1
    refine r_if_eq (tgt := 27) hC dX6_isEvent_5 rfl (fun h9 => ?_) (fun h9 => by omega)
    refine r_iconst hC dX6_isEvent_27 rfl ?_
    refine y_zret hK rfl dX6_isEvent_28 (by first | assumption | decide | exact xs_ (by decide) | exact xc_ (by decide) | exact x31_ (by decide) | omega) ?_
    exact k0 (by first | assumption | decide | exact xs_ (by decide) | exact xc_ (by decide) | exact x31_ (by decide) | omega)
theorem y_take {eb : Bool} {t : Int} {V : Mm} {d : Nat} {P : Option Vl → Mm → Prop} {σ : Mm} {l x : Int}  {σ0 : Mm} (ht : 6 ≤ t ∧ t ≤ 7) (hR : RS t σ0 V σ) (hG : GI V)  (k : ∀ ρ : Mm, RS t σ0 (taM V l x) ρ → P (some (vI (taR V l x))) ρ) : WT (true, eb, true) (d + 8) 210 [vR 30 0, vI l, vI x] σ P := by
  refine WT_in fun K hK => ?_
  have hK : StpY (true, eb, true) cX6_take RX6 (some .int) (WT (true, eb, true) (d + 7)) P K := hK
  have hM := hK.1
  have hC := hK.1.1
  show K 0 [some (vR 30 0), some (vI l), some (vI x), none] [] σ
  refine r_rngz hC (fun g0 => ?_)
  have r_l : -2147483648 ≤ l ∧ l ≤ 2147483647 := inR_le (g0 (vI l) (by simp))
  have r_x : -2147483648 ≤ x ∧ x ≤ 2147483647 := inR_le (g0 (vI x) (by simp))
  refine r_aload_n hC dX6_take_0 rfl ?_
  refine r_iload_n hC dX6_take_1 rfl ?_
  refine r_iload_n hC dX6_take_2 rfl ?_
  refine z_inv2 hM dX6_take_3 vl_RX6_262 rfl rfl rfl (Nat.le_of_ble_eq_true rfl) (Nat.le_of_ble_eq_true rfl) ?_
  refine y_isEvent (V := V) ht ⟨hR.1, hR.2.1, hR.2.2⟩ (fun h1 => ?_) (fun h1 => ?_)
  · have h6 := hG.1.h7 (l := l) (by first | assumption | decide | exact xs_ (by decide) | exact xc_ (by decide) | exact x31_ (by decide) | omega) (by first | assumption | decide | exact xs_ (by decide) | exact xc_ (by decide) | exact x31_ (by decide) | omega)
    refine r_if_ne (tgt := 12) hC dX6_take_6 rfl (fun h2 => ?_) (fun h2 => by omega)
    refine r_aload_n hC dX6_take_12 rfl ?_
    refine z_getR hM dX6_take_13 fl_RX6_16 rfl rfl (vld_of (n := 1) rfl (by first | assumption | decide | exact xs_ (by decide) | exact xc_ (by decide) | exact x31_ (by decide) | omega) (by first | assumption | decide | exact xs_ (by decide) | exact xc_ (by decide) | exact x31_ (by decide) | omega)) ?_
    refine r_bipush hC dX6_take_16 rfl ?_
    refine r_iload_n hC dX6_take_18 rfl ?_
    refine r_imulE hC ((121 * l)) dX6_take_19 (by first | assumption | decide | exact xs_ (by decide) | exact xc_ (by decide) | exact x31_ (by decide) | omega) (by unfold inR; omega) ?_
    refine r_iload_n hC dX6_take_20 rfl ?_
    refine r_iaddE hC (((121 * l) + x)) dX6_take_21 (by first | assumption | decide | exact xs_ (by decide) | exact xc_ (by decide) | exact x31_ (by decide) | omega) (by unfold inR; omega) ?_
    refine z_iald hM dX6_take_22 rfl (by first | assumption | decide | exact xs_ (by decide) | exact xc_ (by decide) | exact x31_ (by decide) | omega) (by first | assumption | decide | exact xs_ (by decide) | exact xc_ (by decide) | exact x31_ (by decide) | omega) (fun v3 h_v3 o_v3 t_v3 => ?_)
    have w_v3 := ((t_v3 (Or.inl trivial)).trans ((show σ 33 0 ((121 * l) + x) = V 9 l x from by rw [show ((121 * l) + x) = 121 * l + x from by omega]; exact hR.1.a9 (y := x) (by first | assumption | decide | exact xs_ (by decide) | exact xc_ (by decide) | exact x31_ (by decide) | omega) (by first | assumption | decide | exact xs_ (by decide) | exact xc_ (by decide) | exact x31_ (by decide) | omega) (by first | assumption | decide | exact xs_ (by decide) | exact xc_ (by decide) | exact x31_ (by decide) | omega) (by first | assumption | decide | exact xs_ (by decide) | exact xc_ (by decide) | exact x31_ (by decide) | omega)).trans (rfl))).symm
    subst w_v3
    refine r_istore_n hC dX6_take_23 rfl ?_
    refine r_aload_n hC dX6_take_24 rfl ?_
    refine r_iload_n hC dX6_take_25 rfl ?_
    refine r_iload_n hC dX6_take_26 rfl ?_
    refine r_iconst hC dX6_take_27 rfl ?_
    refine z_inv3 hM dX6_take_28 vl_RX6_217 rfl rfl rfl (Nat.le_of_ble_eq_true rfl) (Nat.le_of_ble_eq_true rfl) ?_
    have z6_28 : V 7 l 6 = (V 7 l 6) := (rfl)
    refine y_shiftDn (V := V) (by first | assumption | decide | exact xs_ (by decide) | exact xc_ (by decide) | exact x31_ (by decide) | omega) (by first | assumption | decide | exact xs_ (by decide) | exact xc_ (by decide) | exact x31_ (by decide) | omega) ht ⟨hR.1, hR.2.1, hR.2.2⟩ (by first | assumption | decide | exact xs_ (by decide) | exact xc_ (by decide) | exact x31_ (by decide) | omega) (by first | assumption | decide | exact xs_ (by decide) | exact xc_ (by decide) | exact x31_ (by decide) | omega) (by first | assumption | decide | exact xs_ (by decide) | exact xc_ (by decide) | exact x31_ (by decide) | omega) (fun ρ4 Rρ4 => ?_)
    refine r_aload_n hC dX6_take_31 rfl ?_
    refine r_iload_n hC dX6_take_32 rfl ?_
    refine r_iconst hC dX6_take_33 rfl ?_
    refine r_iconst hC dX6_take_34 rfl ?_
    refine z_inv3 hM dX6_take_35 vl_RX6_188 rfl rfl rfl (Nat.le_of_ble_eq_true rfl) (Nat.le_of_ble_eq_true rfl) ?_
    refine y_moreE (a := (V 7 l 6)) (by first | assumption | decide | exact xs_ (by decide) | exact xc_ (by decide) | exact x31_ (by decide) | omega) (by first | assumption | decide | exact xs_ (by decide) | exact xc_ (by decide) | exact x31_ (by decide) | omega) (by first | assumption | decide | exact xs_ (by decide) | exact xc_ (by decide) | exact x31_ (by decide) | omega) ⟨fun h => by omega, by omega⟩ ((Rρ4.1.a7 (s := 6) (f := 5) (by first | assumption | decide | exact xs_ (by decide) | exact xc_ (by decide) | exact x31_ (by decide) | omega) (by first | assumption | decide | exact xs_ (by decide) | exact xc_ (by decide) | exact x31_ (by decide) | omega) (by first | assumption | decide | exact xs_ (by decide) | exact xc_ (by decide) | exact x31_ (by decide) | omega)).trans ((sdM_ne (by first | assumption | decide | exact xs_ (by decide) | exact xc_ (by decide) | exact x31_ (by decide) | omega)).trans (rfl))) (by first | assumption | decide | exact xs_ (by decide) | exact xc_ (by decide) | exact x31_ (by decide) | omega) ?_
    rw [show (V 7 l 6) + (-1) = ((V 7 l 6) - 1) from by omega]
    obtain ⟨ρ5, e_ρ5⟩ : ∃ zz_, zz_ = mu ρ4 31 0 ((22 * l) + 5) ((V 7 l 6) - 1) := ⟨_, rfl⟩
    rw [← e_ρ5]
    have Sρ5 : SB t σ0 (mu (sdM V l x (V 7 l 6 - 1)) 7 l 6 ((V 7 l 6) - 1)) ρ5 := by rw [e_ρ5, show ((22 * l) + 5) = 22 * l + 5 from by omega]; exact Rρ4.1.p7 (by first | assumption | decide | exact xs_ (by decide) | exact xc_ (by decide) | exact x31_ (by decide) | omega) (by first | assumption | decide | exact xs_ (by decide) | exact xc_ (by decide) | exact x31_ (by decide) | omega) (by first | assumption | decide | exact xs_ (by decide) | exact xc_ (by decide) | exact x31_ (by decide) | omega)
    have Kρ5 : KF t (mu (sdM V l x (V 7 l 6 - 1)) 7 l 6 ((V 7 l 6) - 1)) ρ5 := by rw [e_ρ5]; exact (Rρ4.2.1).e (fun l a b => ⟨mu_ne (by first | assumption | decide | exact xs_ (by decide) | exact xc_ (by decide) | exact x31_ (by decide) | omega), mu_ne (by first | assumption | decide | exact xs_ (by decide) | exact xc_ (by decide) | exact x31_ (by decide) | omega)⟩) |>.v (fun l => mu_ne (by first | assumption | decide | exact xs_ (by decide) | exact xc_ (by decide) | exact x31_ (by decide) | omega))
    have Fρ5 : FB (mu (sdM V l x (V 7 l 6 - 1)) 7 l 6 ((V 7 l 6) - 1)) ρ5 := by rw [e_ρ5]; exact (Rρ4.2.2).e (fun l a b => mu_ne (by first | assumption | decide | exact xs_ (by decide) | exact xc_ (by decide) | exact x31_ (by decide) | omega)) |>.v (fun l y a b c => mu_ne (by first | assumption | decide | exact xs_ (by decide) | exact xc_ (by decide) | exact x31_ (by decide) | omega))
    refine r_aload_n hC dX6_take_38 rfl ?_
    refine r_iload_n hC dX6_take_39 rfl ?_
    refine z_inv1 hM dX6_take_40 vl_RX6_227 rfl rfl rfl (Nat.le_of_ble_eq_true rfl) (Nat.le_of_ble_eq_true rfl) ?_
    have hRm : (mu (sdM V l x (V 7 l 6 - 1)) 7 l 6 ((V 7 l 6) - 1)) = remM V l x := rem_sd.symm
    have tS := Sρ5
    have tK := Kρ5
    have tF := Fρ5
    rw [hRm] at tS tK tF
    refine y_layAnew (V := remM V l x) (by first | assumption | decide | exact xs_ (by decide) | exact xc_ (by decide) | exact x31_ (by decide) | omega) ht ⟨tS, tK, tF⟩ (by first | assumption | decide | exact xs_ (by decide) | exact xc_ (by decide) | exact x31_ (by decide) | omega) (LK_rem (hG.2.1.lk hG.1 (by first | assumption | decide | exact xs_ (by decide) | exact xc_ (by decide) | exact x31_ (by decide) | omega) (by first | assumption | decide | exact xs_ (by decide) | exact xc_ (by decide) | exact x31_ (by decide) | omega)) (by first | assumption | decide | exact xs_ (by decide) | exact xc_ (by decide) | exact x31_ (by decide) | omega)) (fun ρ6 Rρ6 => ?_)
    rw [remM_6] at Rρ6
    refine r_iload_n hC dX6_take_43 rfl ?_
    refine y_iret hK rfl dX6_take_44 ?_
    have hM : taM V l x = (rgM (lyM (remM V l x) l (V 7 l 6 - 1)) l) := by
      exact if_pos (by first | assumption | decide | exact xs_ (by decide) | exact xc_ (by decide) | exact x31_ (by decide) | omega)
    have hRr : taR V l x = (V 9 l x) := by
      exact if_pos (by first | assumption | decide | exact xs_ (by decide) | exact xc_ (by decide) | exact x31_ (by decide) | omega)
    rw [hM] at k
    rw [hRr] at k
    exact k _ ⟨Rρ6.1, Rρ6.2.1, Rρ6.2.2⟩
  · refine r_if_ne (tgt := 12) hC dX6_take_6 rfl (fun h7 => by omega) (fun h7 => ?_)
    refine r_ldc hC dX6_take_9 co_RX6_160 rfl ?_
    refine y_iret hK rfl dX6_take_11 ?_
    have hM : taM V l x = V := by
      exact if_neg (by first | assumption | decide | exact xs_ (by decide) | exact xc_ (by decide) | exact x31_ (by decide) | omega)
    have hRr : taR V l x = (-2147483648) := by
      exact if_neg (by first | assumption | decide | exact xs_ (by decide) | exact xc_ (by decide) | exact x31_ (by decide) | omega)
    rw [hM] at k
    rw [hRr] at k
    exact k _ ⟨hR.1, hR.2.1, hR.2.2⟩
theorem y_alter {eb : Bool} {t : Int} {V : Mm} {d : Nat} {P : Option Vl → Mm → Prop} {σ : Mm} {l x v : Int}  {σ0 : Mm} (ht : 6 ≤ t ∧ t ≤ 7) (hR : RS t σ0 V σ) (hG : GI V)  (k : ∀ ρ : Mm, RS t σ0 (alM V l x v) ρ → P (some (vI (alR V l x v))) ρ) : WT (true, eb, true) (d + 8) 211 [vR 30 0, vI l, vI x, vI v] σ P := by
  refine WT_in fun K hK => ?_
  have hK : StpY (true, eb, true) cX6_alter RX6 (some .boolean) (WT (true, eb, true) (d + 7)) P K := hK
  have hM := hK.1
  have hC := hK.1.1
  show K 0 [some (vR 30 0), some (vI l), some (vI x), some (vI v)] [] σ
  refine r_rngz hC (fun g0 => ?_)
  have r_l : -2147483648 ≤ l ∧ l ≤ 2147483647 := inR_le (g0 (vI l) (by simp))
  have r_x : -2147483648 ≤ x ∧ x ≤ 2147483647 := inR_le (g0 (vI x) (by simp))
  have r_v : -2147483648 ≤ v ∧ v ≤ 2147483647 := inR_le (g0 (vI v) (by simp))
  refine r_aload_n hC dX6_alter_0 rfl ?_
  refine r_iload_n hC dX6_alter_1 rfl ?_
  refine r_iload_n hC dX6_alter_2 rfl ?_
  refine z_inv2 hM dX6_alter_3 vl_RX6_262 rfl rfl rfl (Nat.le_of_ble_eq_true rfl) (Nat.le_of_ble_eq_true rfl) ?_
  refine y_isEvent (V := V) ht ⟨hR.1, hR.2.1, hR.2.2⟩ (fun h1 => ?_) (fun h1 => ?_)
  · have h6 := hG.1.h7 (l := l) (by first | assumption | decide | exact xs_ (by decide) | exact xc_ (by decide) | exact x31_ (by decide) | omega) (by first | assumption | decide | exact xs_ (by decide) | exact xc_ (by decide) | exact x31_ (by decide) | omega)
    refine r_if_eq (tgt := 22) hC dX6_alter_6 rfl (fun h2 => by omega) (fun h2 => ?_)
    refine r_iload_n hC dX6_alter_9 rfl ?_
    refine r_sipush hC dX6_alter_10 rfl ?_
    refine r_sipush hC dX6_alter_13 rfl ?_
    refine z_ins3 hM dX6_alter_16 tl_RX6_76 rfl (Nat.le_of_ble_eq_true rfl) (Nat.le_of_ble_eq_true rfl) ?_
    refine m_isIn (fun h4 => ?_) (fun h4 => ?_)
    · refine r_if_ne (tgt := 24) hC dX6_alter_19 rfl (fun h5 => ?_) (fun h5 => by omega)
      refine r_aload_n hC dX6_alter_24 rfl ?_
      refine z_getR hM dX6_alter_25 fl_RX6_16 rfl rfl (vld_of (n := 1) rfl (by first | assumption | decide | exact xs_ (by decide) | exact xc_ (by decide) | exact x31_ (by decide) | omega) (by first | assumption | decide | exact xs_ (by decide) | exact xc_ (by decide) | exact x31_ (by decide) | omega)) ?_
      refine r_bipush hC dX6_alter_28 rfl ?_
      refine r_iload_n hC dX6_alter_30 rfl ?_
      refine r_imulE hC ((121 * l)) dX6_alter_31 (by first | assumption | decide | exact xs_ (by decide) | exact xc_ (by decide) | exact x31_ (by decide) | omega) (by unfold inR; omega) ?_
      refine r_iload_n hC dX6_alter_32 rfl ?_
      refine r_iaddE hC (((121 * l) + x)) dX6_alter_33 (by first | assumption | decide | exact xs_ (by decide) | exact xc_ (by decide) | exact x31_ (by decide) | omega) (by unfold inR; omega) ?_
      refine r_iload_n hC dX6_alter_34 rfl ?_
      refine z_iastT hM dX6_alter_35 rfl (by first | assumption | decide | exact xs_ (by decide) | exact xc_ (by decide) | exact x31_ (by decide) | omega) (by first | assumption | decide | exact xs_ (by decide) | exact xc_ (by decide) | exact x31_ (by decide) | omega) ⟨Or.inr (by simp [DL]), Or.inr (by simp [DF])⟩ (by first | trivial | (simp only [Okv]; omega) | (simp [Okv]; try omega)) ?_
      obtain ⟨ρ6, e_ρ6⟩ : ∃ zz_, zz_ = mu σ 33 0 ((121 * l) + x) v := ⟨_, rfl⟩
      rw [← e_ρ6]
      have Sρ6 : SB t σ0 (mu V 9 l x v) ρ6 := by rw [e_ρ6, show ((121 * l) + x) = 121 * l + x from by omega]; exact hR.1.p9 (by first | assumption | decide | exact xs_ (by decide) | exact xc_ (by decide) | exact x31_ (by decide) | omega) (by first | assumption | decide | exact xs_ (by decide) | exact xc_ (by decide) | exact x31_ (by decide) | omega) (by first | assumption | decide | exact xs_ (by decide) | exact xc_ (by decide) | exact x31_ (by decide) | omega) (by first | assumption | decide | exact xs_ (by decide) | exact xc_ (by decide) | exact x31_ (by decide) | omega)
      have Kρ6 : KF t (mu V 9 l x v) ρ6 := by rw [e_ρ6]; exact (hR.2.1).e (fun l a b => ⟨mu_ne (by first | assumption | decide | exact xs_ (by decide) | exact xc_ (by decide) | exact x31_ (by decide) | omega), mu_ne (by first | assumption | decide | exact xs_ (by decide) | exact xc_ (by decide) | exact x31_ (by decide) | omega)⟩) |>.v (fun l => mu_ne (by first | assumption | decide | exact xs_ (by decide) | exact xc_ (by decide) | exact x31_ (by decide) | omega))
      have Fρ6 : FB (mu V 9 l x v) ρ6 := by rw [e_ρ6]; exact (hR.2.2).e (fun l a b => mu_ne (by first | assumption | decide | exact xs_ (by decide) | exact xc_ (by decide) | exact x31_ (by decide) | omega)) |>.v (fun l y a b c => mu_ne (by first | assumption | decide | exact xs_ (by decide) | exact xc_ (by decide) | exact x31_ (by decide) | omega))
      refine r_aload_n hC dX6_alter_36 rfl ?_
      refine r_iload_n hC dX6_alter_37 rfl ?_
      refine z_inv1 hM dX6_alter_38 vl_RX6_227 rfl rfl rfl (Nat.le_of_ble_eq_true rfl) (Nat.le_of_ble_eq_true rfl) ?_
      have h6m : (mu V 9 l x v) 7 l 6 = V 7 l 6 := mu_ne (by first | assumption | decide | exact xs_ (by decide) | exact xc_ (by decide) | exact x31_ (by decide) | omega)
      refine y_layAnew (V := (mu V 9 l x v)) (by first | assumption | decide | exact xs_ (by decide) | exact xc_ (by decide) | exact x31_ (by decide) | omega) ht ⟨Sρ6, Kρ6, Fρ6⟩ (by first | assumption | decide | exact xs_ (by decide) | exact xc_ (by decide) | exact x31_ (by decide) | omega) (LK_6 (hG.2.1.lk hG.1 (by first | assumption | decide | exact xs_ (by decide) | exact xc_ (by decide) | exact x31_ (by decide) | omega) (by first | assumption | decide | exact xs_ (by decide) | exact xc_ (by decide) | exact x31_ (by decide) | omega)) (by first | assumption | decide | exact xs_ (by decide) | exact xc_ (by decide) | exact x31_ (by decide) | omega) (fun j a b => by
        by_cases e : j = x
        · subst e; rw [mu_self]; omega
        · rw [mu_ne (by first | assumption | decide | exact xs_ (by decide) | exact xc_ (by decide) | exact x31_ (by decide) | omega)]; exact (hG.2.1.2.2.1 l j (by first | assumption | decide | exact xs_ (by decide) | exact xc_ (by decide) | exact x31_ (by decide) | omega) (by first | assumption | decide | exact xs_ (by decide) | exact xc_ (by decide) | exact x31_ (by decide) | omega) a b).2) (fun c2 x2 y2 h => mu_ne (by first | assumption | decide | exact xs_ (by decide) | exact xc_ (by decide) | exact x31_ (by decide) | omega))) (fun ρ7 Rρ7 => ?_)
      rw [h6m] at Rρ7
      refine r_iconst hC dX6_alter_41 rfl ?_
      refine y_zret hK rfl dX6_alter_42 (by first | assumption | decide | exact xs_ (by decide) | exact xc_ (by decide) | exact x31_ (by decide) | omega) ?_
      have hM : alM V l x v = (rgM (lyM (mu V 9 l x v) l (V 7 l 6)) l) := by
        exact if_pos (by first | assumption | decide | exact xs_ (by decide) | exact xc_ (by decide) | exact x31_ (by decide) | omega)
      have hRr : alR V l x v = 1 := by
        exact if_pos (by first | assumption | decide | exact xs_ (by decide) | exact xc_ (by decide) | exact x31_ (by decide) | omega)
      rw [hM] at k
      rw [hRr] at k
      exact k _ ⟨Rρ7.1, Rρ7.2.1, Rρ7.2.2⟩
    · refine r_if_ne (tgt := 24) hC dX6_alter_19 rfl (fun h8 => by omega) (fun h8 => ?_)
      refine r_iconst hC dX6_alter_22 rfl ?_
      refine y_zret hK rfl dX6_alter_23 (by first | assumption | decide | exact xs_ (by decide) | exact xc_ (by decide) | exact x31_ (by decide) | omega) ?_
      have hM : alM V l x v = V := by
        exact if_neg (by first | assumption | decide | exact xs_ (by decide) | exact xc_ (by decide) | exact x31_ (by decide) | omega)
      have hRr : alR V l x v = 0 := by
        exact if_neg (by first | assumption | decide | exact xs_ (by decide) | exact xc_ (by decide) | exact x31_ (by decide) | omega)
      rw [hM] at k
      rw [hRr] at k
      exact k _ ⟨hR.1, hR.2.1, hR.2.2⟩
  · refine r_if_eq (tgt := 22) hC dX6_alter_6 rfl (fun h9 => ?_) (fun h9 => by omega)
    refine r_iconst hC dX6_alter_22 rfl ?_
    refine y_zret hK rfl dX6_alter_23 (by first | assumption | decide | exact xs_ (by decide) | exact xc_ (by decide) | exact x31_ (by decide) | omega) ?_
    have hM : alM V l x v = V := by
      exact if_neg (by first | assumption | decide | exact xs_ (by decide) | exact xc_ (by decide) | exact x31_ (by decide) | omega)
    have hRr : alR V l x v = 0 := by
      exact if_neg (by first | assumption | decide | exact xs_ (by decide) | exact xc_ (by decide) | exact x31_ (by decide) | omega)
    rw [hM] at k
    rw [hRr] at k
    exact k _ ⟨hR.1, hR.2.1, hR.2.2⟩
-- B: ties ended as the reference ends them
def etC (V : Mm) (l n : Int) : Mm := fun c x y => if c = 13 ∧ (0 ≤ x ∧ x ≤ 3) ∧ y = 0 ∧ (x = l ∨ (x < n ∧ V 13 x 0 = l)) then -1 else V c x y
theorem etC_0 {V : Mm} {l : Int} (h0 : 0 ≤ l) (h1 : l ≤ 3) : mu V 13 l 0 (-1) = etC V l 0 := by
  funext c x y
  by_cases e : c = 13 ∧ x = l ∧ y = 0
  · obtain ⟨rfl, rfl, rfl⟩ := e
    rw [mu_self]
    exact (if_pos ⟨rfl, ⟨h0, h1⟩, rfl, Or.inl rfl⟩).symm
  · rw [mu_ne e]
    exact (if_neg (by omega)).symm
theorem etC_4 {V : Mm} {l : Int} : etC V l 4 = etB V l 4 := by
  funext c x y
  unfold etC etB
  by_cases e : c = 13 ∧ (0 ≤ x ∧ x ≤ 3) ∧ y = 0 ∧ (x = l ∨ (x < 4 ∧ V 13 x 0 = l))
  · rw [if_pos e, if_pos (by omega)]
  · rw [if_neg e, if_neg (by omega)]
theorem etC_no {V : Mm} {l n : Int} (h : etC V l n 13 n 0 ≠ l) : etC V l (n + 1) = etC V l n := by
  funext c x y
  unfold etC
  by_cases e : c = 13 ∧ (0 ≤ x ∧ x ≤ 3) ∧ y = 0 ∧ (x = l ∨ (x < n ∧ V 13 x 0 = l))
  · rw [if_pos e, if_pos (by omega)]
  · rw [if_neg e, if_neg ?_]
    rintro ⟨rfl, a, rfl, b⟩
    rcases b with b | b
    · exact e ⟨rfl, a, rfl, Or.inl b⟩
    · by_cases ex : x = n
      · subst ex
        refine h ?_
        unfold etC
        rw [if_neg (by omega)]
        exact b.2
      · exact e ⟨rfl, a, rfl, Or.inr ⟨by omega, b.2⟩⟩
theorem etC_yes {V : Mm} {l n : Int} (h0 : 0 ≤ n) (h3 : n ≤ 3) (hl : l ≠ -1) (h : etC V l n 13 n 0 = l) : mu (etC V l n) 13 n 0 (-1) = etC V l (n + 1) := by
  have hn : ¬ (n = l ∨ (n < n ∧ V 13 n 0 = l)) := fun q => by
    have : etC V l n 13 n 0 = -1 := if_pos ⟨rfl, ⟨h0, h3⟩, rfl, q⟩
    omega
  have hv : V 13 n 0 = l := by
    have e : etC V l n 13 n 0 = V 13 n 0 := if_neg (fun q => hn q.2.2.2)
    omega
  funext c x y
  by_cases e : c = 13 ∧ x = n ∧ y = 0
  · obtain ⟨rfl, rfl, rfl⟩ := e
    rw [mu_self]
    exact (if_pos ⟨rfl, ⟨h0, h3⟩, rfl, Or.inr ⟨by omega, hv⟩⟩).symm
  · rw [mu_ne e]
    unfold etC
    by_cases q : c = 13 ∧ (0 ≤ x ∧ x ≤ 3) ∧ y = 0 ∧ (x = l ∨ (x < n ∧ V 13 x 0 = l))
    · rw [if_pos q, if_pos (by omega)]
    · rw [if_neg q, if_neg (by omega)]
-- B: the reference: ties, LINKS, WATCHES, TABLE, LETTERS
theorem y_endWatches {eb : Bool} {t : Int} {V : Mm} {d : Nat} {P : Option Vl → Mm → Prop} {σ : Mm} {l : Int} (b_l : 0 ≤ l ∧ l ≤ 3) {σ0 : Mm} (ht : 6 ≤ t ∧ t ≤ 7) (hR : RS t σ0 V σ)  (k : ∀ ρ : Mm, RS t σ0 (etA V l 8) ρ → P none ρ) : WT (true, eb, true) (d + 1) 182 [vR 30 0, vI l] σ P := by
  refine WT_in fun K hK => ?_
  have hK : StpY (true, eb, true) cX6_endWatches RX6 (none) (WT (true, eb, true) (d + 0)) P K := hK
  have hM := hK.1
  have hC := hK.1.1
  show K 0 [some (vR 30 0), some (vI l), none] [] σ
  refine r_iconst hC dX6_endWatches_0 rfl ?_
  refine r_istore_n hC dX6_endWatches_1 rfl ?_
  have L2 : ∀ (n2 : Nat) (w1 : Int) (ρ2 W2 : Mm), 0 ≤ w1 ∧ w1 ≤ 8 → 8 - w1 < (n2 : Int) → (RS t σ0 W2 ρ2) → (W2 = etA V l (w1)) → K 2 [some (vR 30 0), some (vI l), some (vI w1)] [] ρ2 := by
    intro n2
    induction n2 with
    | zero => intro w1 ρ2 W2 f_w1  hm  m0_2 m1_2; omega
    | succ n2 ih2 =>
      intro w1 ρ2 W2 f_w1  hm2  m0_2 m1_2
      refine r_iload_n hC dX6_endWatches_2 rfl ?_
      refine r_bipush hC dX6_endWatches_3 rfl ?_
      refine r_icmp_ge (tgt := 31) hC dX6_endWatches_5 rfl (fun h3 => ?_) (fun h3 => ?_)
      · refine y_vret hK rfl dX6_endWatches_31 ?_
        have q := m0_2
        rw [m1_2, show w1 = (8 : Int) from by omega] at q
        exact k _ q
      · have e12 : W2 12 w1 0 = V 12 w1 0 := by rw [m1_2]; exact etA_up (by first | assumption | decide | exact xs_ (by decide) | exact xc_ (by decide) | exact x31_ (by decide) | omega)
        refine r_aload_n hC dX6_endWatches_8 rfl ?_
        refine z_getR hM dX6_endWatches_9 fl_RX6_34 rfl rfl (vld_of (n := 1) rfl (by first | assumption | decide | exact xs_ (by decide) | exact xc_ (by decide) | exact x31_ (by decide) | omega) (by first | assumption | decide | exact xs_ (by decide) | exact xc_ (by decide) | exact x31_ (by decide) | omega)) ?_
        refine r_iload_n hC dX6_endWatches_12 rfl ?_
        refine z_iald hM dX6_endWatches_13 rfl (by first | assumption | decide | exact xs_ (by decide) | exact xc_ (by decide) | exact x31_ (by decide) | omega) (by first | assumption | decide | exact xs_ (by decide) | exact xc_ (by decide) | exact x31_ (by decide) | omega) (fun v4 h_v4 o_v4 t_v4 => ?_)
        have w_v4 := ((t_v4 (Or.inl (by simp [Tb]))).trans ((m0_2.1.w0 (by first | assumption | decide | exact xs_ (by decide) | exact xc_ (by decide) | exact x31_ (by decide) | omega) (by first | assumption | decide | exact xs_ (by decide) | exact xc_ (by decide) | exact x31_ (by decide) | omega)).trans (rfl))).symm
        subst w_v4
        refine r_iload_n hC dX6_endWatches_14 rfl ?_
        refine r_icmp_ne (tgt := 25) hC dX6_endWatches_15 rfl (fun h5 => ?_) (fun h5 => ?_)
        · refine r_iincE hC ((w1 + 1)) dX6_endWatches_25 rfl rfl (by first | assumption | decide | exact xs_ (by decide) | exact xc_ (by decide) | exact x31_ (by decide) | omega) (by unfold inR; omega) ?_
          refine r_goto (tgt := 2) hC dX6_endWatches_28 rfl ?_
          exact ih2 ((w1 + 1)) ρ2 W2 (by first | assumption | decide | exact xs_ (by decide) | exact xc_ (by decide) | exact x31_ (by decide) | omega)  (by first | assumption | decide | exact xs_ (by decide) | exact xc_ (by decide) | exact x31_ (by decide) | omega)  (⟨m0_2.1, m0_2.2.1, m0_2.2.2⟩) (by rw [etA_no (by first | assumption | decide | exact xs_ (by decide) | exact xc_ (by decide) | exact x31_ (by decide) | omega)]; exact m1_2)
        · refine r_aload_n hC dX6_endWatches_18 rfl ?_
          refine z_getR hM dX6_endWatches_19 fl_RX6_34 rfl rfl (vld_of (n := 1) rfl (by first | assumption | decide | exact xs_ (by decide) | exact xc_ (by decide) | exact x31_ (by decide) | omega) (by first | assumption | decide | exact xs_ (by decide) | exact xc_ (by decide) | exact x31_ (by decide) | omega)) ?_
          refine r_iload_n hC dX6_endWatches_22 rfl ?_
          refine r_iconst hC dX6_endWatches_23 rfl ?_
          refine z_iastT hM dX6_endWatches_24 rfl (by first | assumption | decide | exact xs_ (by decide) | exact xc_ (by decide) | exact x31_ (by decide) | omega) (by first | assumption | decide | exact xs_ (by decide) | exact xc_ (by decide) | exact x31_ (by decide) | omega) ⟨Or.inr (by simp [DL]), Or.inr (by simp [DF])⟩ (by first | trivial | (simp only [Okv]; omega) | (simp [Okv]; try omega)) ?_
          obtain ⟨ρ6, e_ρ6⟩ : ∃ zz_, zz_ = mu ρ2 39 0 w1 (-1) := ⟨_, rfl⟩
          rw [← e_ρ6]
          have Sρ6 : SB t σ0 (mu W2 12 w1 0 (-1)) ρ6 := by rw [e_ρ6]; exact m0_2.1.pw0 (by first | assumption | decide | exact xs_ (by decide) | exact xc_ (by decide) | exact x31_ (by decide) | omega) (by first | assumption | decide | exact xs_ (by decide) | exact xc_ (by decide) | exact x31_ (by decide) | omega)
          have Kρ6 : KF t (mu W2 12 w1 0 (-1)) ρ6 := by rw [e_ρ6]; exact (m0_2.2.1).e (fun l a b => ⟨mu_ne (by first | assumption | decide | exact xs_ (by decide) | exact xc_ (by decide) | exact x31_ (by decide) | omega), mu_ne (by first | assumption | decide | exact xs_ (by decide) | exact xc_ (by decide) | exact x31_ (by decide) | omega)⟩) |>.v (fun l => mu_ne (by first | assumption | decide | exact xs_ (by decide) | exact xc_ (by decide) | exact x31_ (by decide) | omega))
          have Fρ6 : FB (mu W2 12 w1 0 (-1)) ρ6 := by rw [e_ρ6]; exact (m0_2.2.2).e (fun l a b => mu_ne (by first | assumption | decide | exact xs_ (by decide) | exact xc_ (by decide) | exact x31_ (by decide) | omega)) |>.v (fun l y a b c => mu_ne (by first | assumption | decide | exact xs_ (by decide) | exact xc_ (by decide) | exact x31_ (by decide) | omega))
          refine r_iincE hC ((w1 + 1)) dX6_endWatches_25 rfl rfl (by first | assumption | decide | exact xs_ (by decide) | exact xc_ (by decide) | exact x31_ (by decide) | omega) (by unfold inR; omega) ?_
          refine r_goto (tgt := 2) hC dX6_endWatches_28 rfl ?_
          exact ih2 ((w1 + 1)) ρ6 (mu W2 12 w1 0 (-1)) (by first | assumption | decide | exact xs_ (by decide) | exact xc_ (by decide) | exact x31_ (by decide) | omega)  (by first | assumption | decide | exact xs_ (by decide) | exact xc_ (by decide) | exact x31_ (by decide) | omega)  (⟨Sρ6, Kρ6, Fρ6⟩) (by rw [← etA_yes (by first | assumption | decide | exact xs_ (by decide) | exact xc_ (by decide) | exact x31_ (by decide) | omega) (by first | assumption | decide | exact xs_ (by decide) | exact xc_ (by decide) | exact x31_ (by decide) | omega), ← m1_2])
  exact L2 10 (0) σ V (by first | assumption | decide | exact xs_ (by decide) | exact xc_ (by decide) | exact x31_ (by decide) | omega)  (by first | assumption | decide | exact xs_ (by decide) | exact xc_ (by decide) | exact x31_ (by decide) | omega)  (⟨hR.1, hR.2.1, hR.2.2⟩) (etA_0.symm)
theorem y_endLinks {eb : Bool} {t : Int} {V : Mm} {d : Nat} {P : Option Vl → Mm → Prop} {σ : Mm} {l : Int} (b_l : 0 ≤ l ∧ l ≤ 3) {σ0 : Mm} (ht : 6 ≤ t ∧ t ≤ 7) (hR : RS t σ0 V σ)  (k : ∀ ρ : Mm, RS t σ0 (etB V l 4) ρ → P none ρ) : WT (true, eb, true) (d + 1) 198 [vR 30 0, vI l] σ P := by
  refine WT_in fun K hK => ?_
  have hK : StpY (true, eb, true) cX6_endLinks RX6 (none) (WT (true, eb, true) (d + 0)) P K := hK
  have hM := hK.1
  have hC := hK.1.1
  show K 0 [some (vR 30 0), some (vI l), none] [] σ
  refine r_aload_n hC dX6_endLinks_0 rfl ?_
  refine z_getR hM dX6_endLinks_1 fl_RX6_52 rfl rfl (vld_of (n := 1) rfl (by first | assumption | decide | exact xs_ (by decide) | exact xc_ (by decide) | exact x31_ (by decide) | omega) (by first | assumption | decide | exact xs_ (by decide) | exact xc_ (by decide) | exact x31_ (by decide) | omega)) ?_
  refine r_iload_n hC dX6_endLinks_4 rfl ?_
  refine r_iconst hC dX6_endLinks_5 rfl ?_
  refine z_iastT hM dX6_endLinks_6 rfl (by first | assumption | decide | exact xs_ (by decide) | exact xc_ (by decide) | exact x31_ (by decide) | omega) (by first | assumption | decide | exact xs_ (by decide) | exact xc_ (by decide) | exact x31_ (by decide) | omega) ⟨Or.inr (by simp [DL]), Or.inr (by simp [DF])⟩ (by first | trivial | (simp only [Okv]; omega) | (simp [Okv]; try omega)) ?_
  obtain ⟨ρ1, e_ρ1⟩ : ∃ zz_, zz_ = mu σ 45 0 l (-1) := ⟨_, rfl⟩
  rw [← e_ρ1]
  have Sρ1 : SB t σ0 (mu V 13 l 0 (-1)) ρ1 := by rw [e_ρ1]; exact hR.1.pk0 (by first | assumption | decide | exact xs_ (by decide) | exact xc_ (by decide) | exact x31_ (by decide) | omega) (by first | assumption | decide | exact xs_ (by decide) | exact xc_ (by decide) | exact x31_ (by decide) | omega)
  have Kρ1 : KF t (mu V 13 l 0 (-1)) ρ1 := by rw [e_ρ1]; exact (hR.2.1).e (fun l a b => ⟨mu_ne (by first | assumption | decide | exact xs_ (by decide) | exact xc_ (by decide) | exact x31_ (by decide) | omega), mu_ne (by first | assumption | decide | exact xs_ (by decide) | exact xc_ (by decide) | exact x31_ (by decide) | omega)⟩) |>.v (fun l => mu_ne (by first | assumption | decide | exact xs_ (by decide) | exact xc_ (by decide) | exact x31_ (by decide) | omega))
  have Fρ1 : FB (mu V 13 l 0 (-1)) ρ1 := by rw [e_ρ1]; exact (hR.2.2).e (fun l a b => mu_ne (by first | assumption | decide | exact xs_ (by decide) | exact xc_ (by decide) | exact x31_ (by decide) | omega)) |>.v (fun l y a b c => mu_ne (by first | assumption | decide | exact xs_ (by decide) | exact xc_ (by decide) | exact x31_ (by decide) | omega))
  refine r_iconst hC dX6_endLinks_7 rfl ?_
  refine r_istore_n hC dX6_endLinks_8 rfl ?_
  have L9 : ∀ (n9 : Nat) (w2 : Int) (ρ3 W3 : Mm), 0 ≤ w2 ∧ w2 ≤ 4 → 4 - w2 < (n9 : Int) → (RS t σ0 W3 ρ3) → (W3 = etC V l (w2)) → K 9 [some (vR 30 0), some (vI l), some (vI w2)] [] ρ3 := by
    intro n9
    induction n9 with
    | zero => intro w2 ρ3 W3 f_w2  hm  m0_9 m1_9; omega
    | succ n9 ih9 =>
      intro w2 ρ3 W3 f_w2  hm9  m0_9 m1_9
      refine r_iload_n hC dX6_endLinks_9 rfl ?_
      refine r_iconst hC dX6_endLinks_10 rfl ?_
      refine r_icmp_ge (tgt := 37) hC dX6_endLinks_11 rfl (fun h4 => ?_) (fun h4 => ?_)
      · refine y_vret hK rfl dX6_endLinks_37 ?_
        have q := m0_9
        rw [m1_9, show w2 = (4 : Int) from by omega, etC_4] at q
        exact k _ q
      · refine r_aload_n hC dX6_endLinks_14 rfl ?_
        refine z_getR hM dX6_endLinks_15 fl_RX6_52 rfl rfl (vld_of (n := 1) rfl (by first | assumption | decide | exact xs_ (by decide) | exact xc_ (by decide) | exact x31_ (by decide) | omega) (by first | assumption | decide | exact xs_ (by decide) | exact xc_ (by decide) | exact x31_ (by decide) | omega)) ?_
        refine r_iload_n hC dX6_endLinks_18 rfl ?_
        refine z_iald hM dX6_endLinks_19 rfl (by first | assumption | decide | exact xs_ (by decide) | exact xc_ (by decide) | exact x31_ (by decide) | omega) (by first | assumption | decide | exact xs_ (by decide) | exact xc_ (by decide) | exact x31_ (by decide) | omega) (fun v5 h_v5 o_v5 t_v5 => ?_)
        have w_v5 := ((t_v5 (Or.inl (by simp [Tb]))).trans ((m0_9.1.k0 (by first | assumption | decide | exact xs_ (by decide) | exact xc_ (by decide) | exact x31_ (by decide) | omega) (by first | assumption | decide | exact xs_ (by decide) | exact xc_ (by decide) | exact x31_ (by decide) | omega)).trans (rfl))).symm
        subst w_v5
        have q_v5 : -1 ≤ (W3 13 w2 0) ∧ (W3 13 w2 0) ≤ 3 := o_v5
        refine r_iload_n hC dX6_endLinks_20 rfl ?_
        refine r_icmp_ne (tgt := 31) hC dX6_endLinks_21 rfl (fun h6 => ?_) (fun h6 => ?_)
        · refine r_iincE hC ((w2 + 1)) dX6_endLinks_31 rfl rfl (by first | assumption | decide | exact xs_ (by decide) | exact xc_ (by decide) | exact x31_ (by decide) | omega) (by unfold inR; omega) ?_
          refine r_goto (tgt := 9) hC dX6_endLinks_34 rfl ?_
          exact ih9 ((w2 + 1)) ρ3 W3 (by first | assumption | decide | exact xs_ (by decide) | exact xc_ (by decide) | exact x31_ (by decide) | omega)  (by first | assumption | decide | exact xs_ (by decide) | exact xc_ (by decide) | exact x31_ (by decide) | omega)  (⟨m0_9.1, m0_9.2.1, m0_9.2.2⟩) (by rw [etC_no (by rw [← m1_9]; omega)]; exact m1_9)
        · refine r_aload_n hC dX6_endLinks_24 rfl ?_
          refine z_getR hM dX6_endLinks_25 fl_RX6_52 rfl rfl (vld_of (n := 1) rfl (by first | assumption | decide | exact xs_ (by decide) | exact xc_ (by decide) | exact x31_ (by decide) | omega) (by first | assumption | decide | exact xs_ (by decide) | exact xc_ (by decide) | exact x31_ (by decide) | omega)) ?_
          refine r_iload_n hC dX6_endLinks_28 rfl ?_
          refine r_iconst hC dX6_endLinks_29 rfl ?_
          refine z_iastT hM dX6_endLinks_30 rfl (by first | assumption | decide | exact xs_ (by decide) | exact xc_ (by decide) | exact x31_ (by decide) | omega) (by first | assumption | decide | exact xs_ (by decide) | exact xc_ (by decide) | exact x31_ (by decide) | omega) ⟨Or.inr (by simp [DL]), Or.inr (by simp [DF])⟩ (by first | trivial | (simp only [Okv]; omega) | (simp [Okv]; try omega)) ?_
          obtain ⟨ρ7, e_ρ7⟩ : ∃ zz_, zz_ = mu ρ3 45 0 w2 (-1) := ⟨_, rfl⟩
          rw [← e_ρ7]
          have Sρ7 : SB t σ0 (mu W3 13 w2 0 (-1)) ρ7 := by rw [e_ρ7]; exact m0_9.1.pk0 (by first | assumption | decide | exact xs_ (by decide) | exact xc_ (by decide) | exact x31_ (by decide) | omega) (by first | assumption | decide | exact xs_ (by decide) | exact xc_ (by decide) | exact x31_ (by decide) | omega)
          have Kρ7 : KF t (mu W3 13 w2 0 (-1)) ρ7 := by rw [e_ρ7]; exact (m0_9.2.1).e (fun l a b => ⟨mu_ne (by first | assumption | decide | exact xs_ (by decide) | exact xc_ (by decide) | exact x31_ (by decide) | omega), mu_ne (by first | assumption | decide | exact xs_ (by decide) | exact xc_ (by decide) | exact x31_ (by decide) | omega)⟩) |>.v (fun l => mu_ne (by first | assumption | decide | exact xs_ (by decide) | exact xc_ (by decide) | exact x31_ (by decide) | omega))
          have Fρ7 : FB (mu W3 13 w2 0 (-1)) ρ7 := by rw [e_ρ7]; exact (m0_9.2.2).e (fun l a b => mu_ne (by first | assumption | decide | exact xs_ (by decide) | exact xc_ (by decide) | exact x31_ (by decide) | omega)) |>.v (fun l y a b c => mu_ne (by first | assumption | decide | exact xs_ (by decide) | exact xc_ (by decide) | exact x31_ (by decide) | omega))
          refine r_iincE hC ((w2 + 1)) dX6_endLinks_31 rfl rfl (by first | assumption | decide | exact xs_ (by decide) | exact xc_ (by decide) | exact x31_ (by decide) | omega) (by unfold inR; omega) ?_
          refine r_goto (tgt := 9) hC dX6_endLinks_34 rfl ?_
          exact ih9 ((w2 + 1)) ρ7 (mu W3 13 w2 0 (-1)) (by first | assumption | decide | exact xs_ (by decide) | exact xc_ (by decide) | exact x31_ (by decide) | omega)  (by first | assumption | decide | exact xs_ (by decide) | exact xc_ (by decide) | exact x31_ (by decide) | omega)  (⟨Sρ7, Kρ7, Fρ7⟩) (by rw [← etC_yes (by first | assumption | decide | exact xs_ (by decide) | exact xc_ (by decide) | exact x31_ (by decide) | omega) (by first | assumption | decide | exact xs_ (by decide) | exact xc_ (by decide) | exact x31_ (by decide) | omega) (by first | assumption | decide | exact xs_ (by decide) | exact xc_ (by decide) | exact x31_ (by decide) | omega) (by rw [← m1_9]; omega), ← m1_9])
  exact L9 6 (0) ρ1 (mu V 13 l 0 (-1)) (by first | assumption | decide | exact xs_ (by decide) | exact xc_ (by decide) | exact x31_ (by decide) | omega)  (by first | assumption | decide | exact xs_ (by decide) | exact xc_ (by decide) | exact x31_ (by decide) | omega)  (⟨Sρ1, Kρ1, Fρ1⟩) (etC_0 (by first | assumption | decide | exact xs_ (by decide) | exact xc_ (by decide) | exact x31_ (by decide) | omega) (by first | assumption | decide | exact xs_ (by decide) | exact xc_ (by decide) | exact x31_ (by decide) | omega))
theorem y_howMany {e : Ev} {d : Nat} {P : Option Vl → Mm → Prop} {σ : Mm} {o : Int} (b_o : 0 ≤ o ∧ o ≤ 9)  (k : P (some (vI (numF o))) σ) : WT e (d + 1) 156 [vI o] σ P := by
  refine WT_in fun K hK => ?_
  have hK : StpY e cX6_howMany RX6 (some .int) (WT e (d + 0)) P K := hK
  have hM := hK.1
  have hC := hK.1.1
  show K 0 [some (vI o)] [] σ
  refine r_iload_n hC dX6_howMany_0 rfl ?_
  rcases (by omega : (o < 0 ∨ 8 < o) ∨ o = 0 ∨ o = 1 ∨ o = 2 ∨ o = 3 ∨ o = 4 ∨ o = 5 ∨ o = 6 ∨ o = 7 ∨ o = 8) with h1 | h1 | h1 | h1 | h1 | h1 | h1 | h1 | h1 | h1
  · refine r_tableOut (tgt := 71) hC dX6_howMany_1 h1 rfl ?_
    refine r_iconst hC dX6_howMany_71 rfl ?_
    refine y_iret hK rfl dX6_howMany_72 ?_
    rcases (by omega : o = 0 ∨ o = 1 ∨ o = 2 ∨ o = 3 ∨ o = 4 ∨ o = 5 ∨ o = 6 ∨ o = 7 ∨ o = 8 ∨ o = 9) with rfl | rfl | rfl | rfl | rfl | rfl | rfl | rfl | rfl | rfl <;> first | exact k | (exfalso; omega)
  · refine r_tableIn (tgt := 52) (off := 51) hC dX6_howMany_1 (by first | assumption | decide | exact xs_ (by decide) | exact xc_ (by decide) | exact x31_ (by decide) | omega) (by first | assumption | decide | exact xs_ (by decide) | exact xc_ (by decide) | exact x31_ (by decide) | omega) (by rw [h1]; rfl) rfl ?_
    refine r_iconst hC dX6_howMany_52 rfl ?_
    refine y_iret hK rfl dX6_howMany_53 ?_
    rcases (by omega : o = 0 ∨ o = 1 ∨ o = 2 ∨ o = 3 ∨ o = 4 ∨ o = 5 ∨ o = 6 ∨ o = 7 ∨ o = 8 ∨ o = 9) with rfl | rfl | rfl | rfl | rfl | rfl | rfl | rfl | rfl | rfl <;> first | exact k | (exfalso; omega)
  · refine r_tableIn (tgt := 54) (off := 53) hC dX6_howMany_1 (by first | assumption | decide | exact xs_ (by decide) | exact xc_ (by decide) | exact x31_ (by decide) | omega) (by first | assumption | decide | exact xs_ (by decide) | exact xc_ (by decide) | exact x31_ (by decide) | omega) (by rw [h1]; rfl) rfl ?_
    refine r_iconst hC dX6_howMany_54 rfl ?_
    refine y_iret hK rfl dX6_howMany_55 ?_
    rcases (by omega : o = 0 ∨ o = 1 ∨ o = 2 ∨ o = 3 ∨ o = 4 ∨ o = 5 ∨ o = 6 ∨ o = 7 ∨ o = 8 ∨ o = 9) with rfl | rfl | rfl | rfl | rfl | rfl | rfl | rfl | rfl | rfl <;> first | exact k | (exfalso; omega)
  · refine r_tableIn (tgt := 56) (off := 55) hC dX6_howMany_1 (by first | assumption | decide | exact xs_ (by decide) | exact xc_ (by decide) | exact x31_ (by decide) | omega) (by first | assumption | decide | exact xs_ (by decide) | exact xc_ (by decide) | exact x31_ (by decide) | omega) (by rw [h1]; rfl) rfl ?_
    refine r_iconst hC dX6_howMany_56 rfl ?_
    refine y_iret hK rfl dX6_howMany_57 ?_
    rcases (by omega : o = 0 ∨ o = 1 ∨ o = 2 ∨ o = 3 ∨ o = 4 ∨ o = 5 ∨ o = 6 ∨ o = 7 ∨ o = 8 ∨ o = 9) with rfl | rfl | rfl | rfl | rfl | rfl | rfl | rfl | rfl | rfl <;> first | exact k | (exfalso; omega)
  · refine r_tableIn (tgt := 58) (off := 57) hC dX6_howMany_1 (by first | assumption | decide | exact xs_ (by decide) | exact xc_ (by decide) | exact x31_ (by decide) | omega) (by first | assumption | decide | exact xs_ (by decide) | exact xc_ (by decide) | exact x31_ (by decide) | omega) (by rw [h1]; rfl) rfl ?_
    refine r_iconst hC dX6_howMany_58 rfl ?_
    refine y_iret hK rfl dX6_howMany_59 ?_
    rcases (by omega : o = 0 ∨ o = 1 ∨ o = 2 ∨ o = 3 ∨ o = 4 ∨ o = 5 ∨ o = 6 ∨ o = 7 ∨ o = 8 ∨ o = 9) with rfl | rfl | rfl | rfl | rfl | rfl | rfl | rfl | rfl | rfl <;> first | exact k | (exfalso; omega)
  · refine r_tableIn (tgt := 60) (off := 59) hC dX6_howMany_1 (by first | assumption | decide | exact xs_ (by decide) | exact xc_ (by decide) | exact x31_ (by decide) | omega) (by first | assumption | decide | exact xs_ (by decide) | exact xc_ (by decide) | exact x31_ (by decide) | omega) (by rw [h1]; rfl) rfl ?_
    refine r_iconst hC dX6_howMany_60 rfl ?_
    refine y_iret hK rfl dX6_howMany_61 ?_
    rcases (by omega : o = 0 ∨ o = 1 ∨ o = 2 ∨ o = 3 ∨ o = 4 ∨ o = 5 ∨ o = 6 ∨ o = 7 ∨ o = 8 ∨ o = 9) with rfl | rfl | rfl | rfl | rfl | rfl | rfl | rfl | rfl | rfl <;> first | exact k | (exfalso; omega)
  · refine r_tableIn (tgt := 62) (off := 61) hC dX6_howMany_1 (by first | assumption | decide | exact xs_ (by decide) | exact xc_ (by decide) | exact x31_ (by decide) | omega) (by first | assumption | decide | exact xs_ (by decide) | exact xc_ (by decide) | exact x31_ (by decide) | omega) (by rw [h1]; rfl) rfl ?_
    refine r_iconst hC dX6_howMany_62 rfl ?_
    refine y_iret hK rfl dX6_howMany_63 ?_
    rcases (by omega : o = 0 ∨ o = 1 ∨ o = 2 ∨ o = 3 ∨ o = 4 ∨ o = 5 ∨ o = 6 ∨ o = 7 ∨ o = 8 ∨ o = 9) with rfl | rfl | rfl | rfl | rfl | rfl | rfl | rfl | rfl | rfl <;> first | exact k | (exfalso; omega)
  · refine r_tableIn (tgt := 64) (off := 63) hC dX6_howMany_1 (by first | assumption | decide | exact xs_ (by decide) | exact xc_ (by decide) | exact x31_ (by decide) | omega) (by first | assumption | decide | exact xs_ (by decide) | exact xc_ (by decide) | exact x31_ (by decide) | omega) (by rw [h1]; rfl) rfl ?_
    refine r_bipush hC dX6_howMany_64 rfl ?_
    refine y_iret hK rfl dX6_howMany_66 ?_
    rcases (by omega : o = 0 ∨ o = 1 ∨ o = 2 ∨ o = 3 ∨ o = 4 ∨ o = 5 ∨ o = 6 ∨ o = 7 ∨ o = 8 ∨ o = 9) with rfl | rfl | rfl | rfl | rfl | rfl | rfl | rfl | rfl | rfl <;> first | exact k | (exfalso; omega)
  · refine r_tableIn (tgt := 67) (off := 66) hC dX6_howMany_1 (by first | assumption | decide | exact xs_ (by decide) | exact xc_ (by decide) | exact x31_ (by decide) | omega) (by first | assumption | decide | exact xs_ (by decide) | exact xc_ (by decide) | exact x31_ (by decide) | omega) (by rw [h1]; rfl) rfl ?_
    refine r_iconst hC dX6_howMany_67 rfl ?_
    refine y_iret hK rfl dX6_howMany_68 ?_
    rcases (by omega : o = 0 ∨ o = 1 ∨ o = 2 ∨ o = 3 ∨ o = 4 ∨ o = 5 ∨ o = 6 ∨ o = 7 ∨ o = 8 ∨ o = 9) with rfl | rfl | rfl | rfl | rfl | rfl | rfl | rfl | rfl | rfl <;> first | exact k | (exfalso; omega)
  · refine r_tableIn (tgt := 69) (off := 68) hC dX6_howMany_1 (by first | assumption | decide | exact xs_ (by decide) | exact xc_ (by decide) | exact x31_ (by decide) | omega) (by first | assumption | decide | exact xs_ (by decide) | exact xc_ (by decide) | exact x31_ (by decide) | omega) (by rw [h1]; rfl) rfl ?_
    refine r_iconst hC dX6_howMany_69 rfl ?_
    refine y_iret hK rfl dX6_howMany_70 ?_
    rcases (by omega : o = 0 ∨ o = 1 ∨ o = 2 ∨ o = 3 ∨ o = 4 ∨ o = 5 ∨ o = 6 ∨ o = 7 ∨ o = 8 ∨ o = 9) with rfl | rfl | rfl | rfl | rfl | rfl | rfl | rfl | rfl | rfl <;> first | exact k | (exfalso; omega)
theorem y_isNumber {eb : Bool} {t : Int} {V : Mm} {d : Nat} {P : Option Vl → Mm → Prop} {σ : Mm} {l w : Int}  {σ0 : Mm} (ht : 6 ≤ t ∧ t ≤ 7) (hR : RS t σ0 V σ) (hO : ∀ l : Int, 0 ≤ l → l ≤ 6 → 0 ≤ V 7 l 2 ∧ V 7 l 2 ≤ 9)  (k1 : lwC V l w → P (some (vI 1)) σ) (k0 : ¬ lwC V l w → P (some (vI 0)) σ) : WT (true, eb, true) (d + 3) 157 [vR 30 0, vI l, vI w] σ P := by
  refine WT_in fun K hK => ?_
  have hK : StpY (true, eb, true) cX6_isNumber RX6 (some .boolean) (WT (true, eb, true) (d + 2)) P K := hK
  have hM := hK.1
  have hC := hK.1.1
  show K 0 [some (vR 30 0), some (vI l), some (vI w)] [] σ
  refine r_rngz hC (fun g0 => ?_)
  have r_l : -2147483648 ≤ l ∧ l ≤ 2147483647 := inR_le (g0 (vI l) (by simp))
  have r_w : -2147483648 ≤ w ∧ w ≤ 2147483647 := inR_le (g0 (vI w) (by simp))
  refine r_aload_n hC dX6_isNumber_0 rfl ?_
  refine r_iload_n hC dX6_isNumber_1 rfl ?_
  refine z_inv1 hM dX6_isNumber_2 vl_RX6_124 rfl rfl rfl (Nat.le_of_ble_eq_true rfl) (Nat.le_of_ble_eq_true rfl) ?_
  refine y_isLane (V := V) ht ⟨hR.1, hR.2.1, hR.2.2⟩ (fun h1 => ?_) (fun h1 => ?_)
  · unfold opV at h1
    refine r_if_eq (tgt := 31) hC dX6_isNumber_5 rfl (fun h2 => by omega) (fun h2 => ?_)
    have hop := hO l (by first | assumption | decide | exact xs_ (by decide) | exact xc_ (by decide) | exact x31_ (by decide) | omega) (by first | assumption | decide | exact xs_ (by decide) | exact xc_ (by decide) | exact x31_ (by decide) | omega)
    refine r_iload_n hC dX6_isNumber_8 rfl ?_
    refine r_iconst hC dX6_isNumber_9 rfl ?_
    refine r_aload_n hC dX6_isNumber_10 rfl ?_
    refine r_iload_n hC dX6_isNumber_11 rfl ?_
    refine r_iconst hC dX6_isNumber_12 rfl ?_
    refine z_inv2 hM dX6_isNumber_13 vl_RX6_80 rfl rfl rfl (Nat.le_of_ble_eq_true rfl) (Nat.le_of_ble_eq_true rfl) ?_
    refine y_of (by first | assumption | decide | exact xs_ (by decide) | exact xc_ (by decide) | exact x31_ (by decide) | omega) (by first | assumption | decide | exact xs_ (by decide) | exact xc_ (by decide) | exact x31_ (by decide) | omega) (by first | assumption | decide | exact xs_ (by decide) | exact xc_ (by decide) | exact x31_ (by decide) | omega) (fun o3 => ?_)
    have e4 : σ 31 0 (22 * l + 1) = (V 7 l 2) := (hR.1.a7 (s := 2) (f := 1) (by first | assumption | decide | exact xs_ (by decide) | exact xc_ (by decide) | exact x31_ (by decide) | omega) (by first | assumption | decide | exact xs_ (by decide) | exact xc_ (by decide) | exact x31_ (by decide) | omega) (by first | assumption | decide | exact xs_ (by decide) | exact xc_ (by decide) | exact x31_ (by decide) | omega)).trans (rfl)
    rw [e4] at o3 ⊢
    refine z_ins1 hM dX6_isNumber_16 tl_RX6_127 rfl (Nat.le_of_ble_eq_true rfl) (Nat.le_of_ble_eq_true rfl) ?_
    refine y_howMany (by first | assumption | decide | exact xs_ (by decide) | exact xc_ (by decide) | exact x31_ (by decide) | omega) ?_
    have qN_16 := numF_rng (V 7 l 2)
    refine r_iconst hC dX6_isNumber_19 rfl ?_
    refine r_isubE hC (((numF (V 7 l 2)) - 1)) dX6_isNumber_20 (by first | assumption | decide | exact xs_ (by decide) | exact xc_ (by decide) | exact x31_ (by decide) | omega) (by unfold inR; omega) ?_
    refine z_ins3 hM dX6_isNumber_21 tl_RX6_76 rfl (Nat.le_of_ble_eq_true rfl) (Nat.le_of_ble_eq_true rfl) ?_
    refine m_isIn (fun h6 => ?_) (fun h6 => ?_)
    · refine r_if_eq (tgt := 31) hC dX6_isNumber_24 rfl (fun h7 => by omega) (fun h7 => ?_)
      refine r_iconst hC dX6_isNumber_27 rfl ?_
      refine r_goto (tgt := 32) hC dX6_isNumber_28 rfl ?_
      refine y_zret hK rfl dX6_isNumber_32 (by first | assumption | decide | exact xs_ (by decide) | exact xc_ (by decide) | exact x31_ (by decide) | omega) ?_
      exact k1 (by unfold lwC opV; omega)
    · refine r_if_eq (tgt := 31) hC dX6_isNumber_24 rfl (fun h8 => ?_) (fun h8 => by omega)
      refine r_iconst hC dX6_isNumber_31 rfl ?_
      refine y_zret hK rfl dX6_isNumber_32 (by first | assumption | decide | exact xs_ (by decide) | exact xc_ (by decide) | exact x31_ (by decide) | omega) ?_
      exact k0 (by unfold lwC opV; omega)
  · unfold opV at h1
    refine r_if_eq (tgt := 31) hC dX6_isNumber_5 rfl (fun h9 => ?_) (fun h9 => by omega)
    refine r_iconst hC dX6_isNumber_31 rfl ?_
    refine y_zret hK rfl dX6_isNumber_32 (by first | assumption | decide | exact xs_ (by decide) | exact xc_ (by decide) | exact x31_ (by decide) | omega) ?_
    exact k0 (by unfold lwC opV; omega)
theorem y_unlink {eb : Bool} {t : Int} {V : Mm} {d : Nat} {P : Option Vl → Mm → Prop} {σ : Mm} {l : Int}  {σ0 : Mm} (ht : 6 ≤ t ∧ t ≤ 7) (hR : RS t σ0 V σ) (hG : GI V)  (k : ∀ ρ : Mm, RS t σ0 (ulM V l) ρ → P (some (vI (ulR V l))) ρ) : WT (true, eb, true) (d + 3) 200 [vR 30 0, vI l] σ P := by
  refine WT_in fun K hK => ?_
  have hK : StpY (true, eb, true) cX6_unlink RX6 (some .boolean) (WT (true, eb, true) (d + 2)) P K := hK
  have hM := hK.1
  have hC := hK.1.1
  show K 0 [some (vR 30 0), some (vI l)] [] σ
  refine r_rngz hC (fun g0 => ?_)
  have r_l : -2147483648 ≤ l ∧ l ≤ 2147483647 := inR_le (g0 (vI l) (by simp))
  have hlkA : 0 ≤ l → l ≤ 3 → V 13 l 0 = -1 ∨ V 7 l 1 = 1 := fun a b => by rcases hG.2.1.2.2.2.2.2.1 l a b with q | q; exact Or.inl q; exact Or.inr q.1.2
  refine r_aload_n hC dX6_unlink_0 rfl ?_
  refine r_iload_n hC dX6_unlink_1 rfl ?_
  refine z_inv1 hM dX6_unlink_2 vl_RX6_124 rfl rfl rfl (Nat.le_of_ble_eq_true rfl) (Nat.le_of_ble_eq_true rfl) ?_
  refine y_isLane (V := V) ht ⟨hR.1, hR.2.1, hR.2.2⟩ (fun h1 => ?_) (fun h1 => ?_)
  · unfold opV at h1
    refine r_if_eq (tgt := 17) hC dX6_unlink_5 rfl (fun h2 => by omega) (fun h2 => ?_)
    have h6 := hG.1.h7 (l := l) (by first | assumption | decide | exact xs_ (by decide) | exact xc_ (by decide) | exact x31_ (by decide) | omega) (by first | assumption | decide | exact xs_ (by decide) | exact xc_ (by decide) | exact x31_ (by decide) | omega)
    have h10 := hG.2.1.2.1 l (by first | assumption | decide | exact xs_ (by decide) | exact xc_ (by decide) | exact x31_ (by decide) | omega) (by first | assumption | decide | exact xs_ (by decide) | exact xc_ (by decide) | exact x31_ (by decide) | omega)
    have hlk := hG.2.1.2.2.2.2.2.1 l (by first | assumption | decide | exact xs_ (by decide) | exact xc_ (by decide) | exact x31_ (by decide) | omega) (by first | assumption | decide | exact xs_ (by decide) | exact xc_ (by decide) | exact x31_ (by decide) | omega)
    unfold opV at hlk
    have hk13 : -1 ≤ V 13 l 0 ∧ V 13 l 0 ≤ 3 := by omega
    have hkn := hG.1.2.2.2 l (by first | assumption | decide | exact xs_ (by decide) | exact xc_ (by decide) | exact x31_ (by decide) | omega) (by first | assumption | decide | exact xs_ (by decide) | exact xc_ (by decide) | exact x31_ (by decide) | omega)
    refine r_aload_n hC dX6_unlink_8 rfl ?_
    refine z_getR hM dX6_unlink_9 fl_RX6_52 rfl rfl (vld_of (n := 1) rfl (by first | assumption | decide | exact xs_ (by decide) | exact xc_ (by decide) | exact x31_ (by decide) | omega) (by first | assumption | decide | exact xs_ (by decide) | exact xc_ (by decide) | exact x31_ (by decide) | omega)) ?_
    refine r_iload_n hC dX6_unlink_12 rfl ?_
    refine z_iald hM dX6_unlink_13 rfl (by first | assumption | decide | exact xs_ (by decide) | exact xc_ (by decide) | exact x31_ (by decide) | omega) (by first | assumption | decide | exact xs_ (by decide) | exact xc_ (by decide) | exact x31_ (by decide) | omega) (fun v3 h_v3 o_v3 t_v3 => ?_)
    have w_v3 := ((t_v3 (Or.inl (by simp [Tb]))).trans ((hR.1.k0 (by first | assumption | decide | exact xs_ (by decide) | exact xc_ (by decide) | exact x31_ (by decide) | omega) (by first | assumption | decide | exact xs_ (by decide) | exact xc_ (by decide) | exact x31_ (by decide) | omega)).trans (rfl))).symm
    subst w_v3
    have q_v3 : -1 ≤ (V 13 l 0) ∧ (V 13 l 0) ≤ 3 := o_v3
    refine r_if_ge (tgt := 19) hC dX6_unlink_14 rfl (fun h4 => ?_) (fun h4 => ?_)
    · refine r_aload_n hC dX6_unlink_19 rfl ?_
      refine z_getR hM dX6_unlink_20 fl_RX6_52 rfl rfl (vld_of (n := 1) rfl (by first | assumption | decide | exact xs_ (by decide) | exact xc_ (by decide) | exact x31_ (by decide) | omega) (by first | assumption | decide | exact xs_ (by decide) | exact xc_ (by decide) | exact x31_ (by decide) | omega)) ?_
      refine r_iload_n hC dX6_unlink_23 rfl ?_
      refine r_iconst hC dX6_unlink_24 rfl ?_
      refine z_iastT hM dX6_unlink_25 rfl (by first | assumption | decide | exact xs_ (by decide) | exact xc_ (by decide) | exact x31_ (by decide) | omega) (by first | assumption | decide | exact xs_ (by decide) | exact xc_ (by decide) | exact x31_ (by decide) | omega) ⟨Or.inr (by simp [DL]), Or.inr (by simp [DF])⟩ (by first | trivial | (simp only [Okv]; omega) | (simp [Okv]; try omega)) ?_
      obtain ⟨ρ5, e_ρ5⟩ : ∃ zz_, zz_ = mu σ 45 0 l (-1) := ⟨_, rfl⟩
      rw [← e_ρ5]
      have Sρ5 : SB t σ0 (mu V 13 l 0 (-1)) ρ5 := by rw [e_ρ5]; exact hR.1.pk0 (by first | assumption | decide | exact xs_ (by decide) | exact xc_ (by decide) | exact x31_ (by decide) | omega) (by first | assumption | decide | exact xs_ (by decide) | exact xc_ (by decide) | exact x31_ (by decide) | omega)
      have Kρ5 : KF t (mu V 13 l 0 (-1)) ρ5 := by rw [e_ρ5]; exact (hR.2.1).e (fun l a b => ⟨mu_ne (by first | assumption | decide | exact xs_ (by decide) | exact xc_ (by decide) | exact x31_ (by decide) | omega), mu_ne (by first | assumption | decide | exact xs_ (by decide) | exact xc_ (by decide) | exact x31_ (by decide) | omega)⟩) |>.v (fun l => mu_ne (by first | assumption | decide | exact xs_ (by decide) | exact xc_ (by decide) | exact x31_ (by decide) | omega))
      have Fρ5 : FB (mu V 13 l 0 (-1)) ρ5 := by rw [e_ρ5]; exact (hR.2.2).e (fun l a b => mu_ne (by first | assumption | decide | exact xs_ (by decide) | exact xc_ (by decide) | exact x31_ (by decide) | omega)) |>.v (fun l y a b c => mu_ne (by first | assumption | decide | exact xs_ (by decide) | exact xc_ (by decide) | exact x31_ (by decide) | omega))
      refine r_iconst hC dX6_unlink_26 rfl ?_
      refine y_zret hK rfl dX6_unlink_27 (by first | assumption | decide | exact xs_ (by decide) | exact xc_ (by decide) | exact x31_ (by decide) | omega) ?_
      have hM : ulM V l = (mu V 13 l 0 (-1)) := by
        exact if_pos (by first | assumption | decide | exact xs_ (by decide) | exact xc_ (by decide) | exact x31_ (by decide) | omega)
      have hRr : ulR V l = 1 := by
        exact if_pos (by first | assumption | decide | exact xs_ (by decide) | exact xc_ (by decide) | exact x31_ (by decide) | omega)
      rw [hM] at k
      rw [hRr] at k
      exact k _ ⟨Sρ5, Kρ5, Fρ5⟩
    · refine r_iconst hC dX6_unlink_17 rfl ?_
      refine y_zret hK rfl dX6_unlink_18 (by first | assumption | decide | exact xs_ (by decide) | exact xc_ (by decide) | exact x31_ (by decide) | omega) ?_
      have hM : ulM V l = V := by
        exact if_neg (by first | assumption | decide | exact xs_ (by decide) | exact xc_ (by decide) | exact x31_ (by decide) | omega)
      have hRr : ulR V l = 0 := by
        exact if_neg (by first | assumption | decide | exact xs_ (by decide) | exact xc_ (by decide) | exact x31_ (by decide) | omega)
      rw [hM] at k
      rw [hRr] at k
      exact k _ ⟨hR.1, hR.2.1, hR.2.2⟩
  · unfold opV at h1
    refine r_if_eq (tgt := 17) hC dX6_unlink_5 rfl (fun h6 => ?_) (fun h6 => by omega)
    refine r_iconst hC dX6_unlink_17 rfl ?_
    refine y_zret hK rfl dX6_unlink_18 (by first | assumption | decide | exact xs_ (by decide) | exact xc_ (by decide) | exact x31_ (by decide) | omega) ?_
    have hM : ulM V l = V := by
      exact if_neg (by first | assumption | decide | exact xs_ (by decide) | exact xc_ (by decide) | exact x31_ (by decide) | omega)
    have hRr : ulR V l = 0 := by
      exact if_neg (by first | assumption | decide | exact xs_ (by decide) | exact xc_ (by decide) | exact x31_ (by decide) | omega)
    rw [hM] at k
    rw [hRr] at k
    exact k _ ⟨hR.1, hR.2.1, hR.2.2⟩
theorem y_isLinkedTo {eb : Bool} {t : Int} {V : Mm} {d : Nat} {P : Option Vl → Mm → Prop} {σ : Mm} {l : Int}  {σ0 : Mm} (ht : 6 ≤ t ∧ t ≤ 7) (hR : RS t σ0 V σ)  (k1 : ¬ (∀ j : Int, 0 ≤ j → j < 4 → V 13 j 0 ≠ l) → P (some (vI 1)) σ) (k0 : (∀ j : Int, 0 ≤ j → j < 4 → V 13 j 0 ≠ l) → P (some (vI 0)) σ) : WT (true, eb, true) (d + 1) 197 [vR 30 0, vI l] σ P := by
  refine WT_in fun K hK => ?_
  have hK : StpY (true, eb, true) cX6_isLinkedTo RX6 (some .boolean) (WT (true, eb, true) (d + 0)) P K := hK
  have hM := hK.1
  have hC := hK.1.1
  show K 0 [some (vR 30 0), some (vI l), none] [] σ
  refine r_rngz hC (fun g0 => ?_)
  have r_l : -2147483648 ≤ l ∧ l ≤ 2147483647 := inR_le (g0 (vI l) (by simp))
  refine r_iconst hC dX6_isLinkedTo_0 rfl ?_
  refine r_istore_n hC dX6_isLinkedTo_1 rfl ?_
  have L2 : ∀ (n2 : Nat) (w1 : Int), 0 ≤ w1 ∧ w1 ≤ 4 → (∀ j : Int, 0 ≤ j → j < (w1) → V 13 j 0 ≠ l) → 4 - w1 < (n2 : Int) → K 2 [some (vR 30 0), some (vI l), some (vI w1)] [] σ := by
    intro n2
    induction n2 with
    | zero => intro w1  f_w1 i0_2 hm  ; omega
    | succ n2 ih2 =>
      intro w1  f_w1 i0_2 hm2  
      refine r_iload_n hC dX6_isLinkedTo_2 rfl ?_
      refine r_iconst hC dX6_isLinkedTo_3 rfl ?_
      refine r_icmp_ge (tgt := 25) hC dX6_isLinkedTo_4 rfl (fun h2 => ?_) (fun h2 => ?_)
      · refine r_iconst hC dX6_isLinkedTo_25 rfl ?_
        refine y_zret hK rfl dX6_isLinkedTo_26 (by first | assumption | decide | exact xs_ (by decide) | exact xc_ (by decide) | exact x31_ (by decide) | omega) ?_
        exact k0 (fun j h0 h1 => i0_2 j h0 (by first | assumption | decide | exact xs_ (by decide) | exact xc_ (by decide) | exact x31_ (by decide) | omega))
      · refine r_aload_n hC dX6_isLinkedTo_7 rfl ?_
        refine z_getR hM dX6_isLinkedTo_8 fl_RX6_52 rfl rfl (vld_of (n := 1) rfl (by first | assumption | decide | exact xs_ (by decide) | exact xc_ (by decide) | exact x31_ (by decide) | omega) (by first | assumption | decide | exact xs_ (by decide) | exact xc_ (by decide) | exact x31_ (by decide) | omega)) ?_
        refine r_iload_n hC dX6_isLinkedTo_11 rfl ?_
        refine z_iald hM dX6_isLinkedTo_12 rfl (by first | assumption | decide | exact xs_ (by decide) | exact xc_ (by decide) | exact x31_ (by decide) | omega) (by first | assumption | decide | exact xs_ (by decide) | exact xc_ (by decide) | exact x31_ (by decide) | omega) (fun v3 h_v3 o_v3 t_v3 => ?_)
        have w_v3 := ((t_v3 (Or.inl (by simp [Tb]))).trans ((hR.1.k0 (by first | assumption | decide | exact xs_ (by decide) | exact xc_ (by decide) | exact x31_ (by decide) | omega) (by first | assumption | decide | exact xs_ (by decide) | exact xc_ (by decide) | exact x31_ (by decide) | omega)).trans (rfl))).symm
        subst w_v3
        have q_v3 : -1 ≤ (V 13 w1 0) ∧ (V 13 w1 0) ≤ 3 := o_v3
        refine r_iload_n hC dX6_isLinkedTo_13 rfl ?_
        refine r_icmp_ne (tgt := 19) hC dX6_isLinkedTo_14 rfl (fun h4 => ?_) (fun h4 => ?_)
        · refine r_iincE hC ((w1 + 1)) dX6_isLinkedTo_19 rfl rfl (by first | assumption | decide | exact xs_ (by decide) | exact xc_ (by decide) | exact x31_ (by decide) | omega) (by unfold inR; omega) ?_
          refine r_goto (tgt := 2) hC dX6_isLinkedTo_22 rfl ?_
          exact ih2 ((w1 + 1))  (by first | assumption | decide | exact xs_ (by decide) | exact xc_ (by decide) | exact x31_ (by decide) | omega) (by first | (intro j h0 h1; omega) | (intro j h0 h1; rcases (by omega : j < w1 ∨ j = w1) with h | h; exact i0_2 j h0 h; subst h; assumption)) (by first | assumption | decide | exact xs_ (by decide) | exact xc_ (by decide) | exact x31_ (by decide) | omega)  
        · refine r_iconst hC dX6_isLinkedTo_17 rfl ?_
          refine y_zret hK rfl dX6_isLinkedTo_18 (by first | assumption | decide | exact xs_ (by decide) | exact xc_ (by decide) | exact x31_ (by decide) | omega) ?_
          exact k1 (fun q => by have := q w1 (by first | assumption | decide | exact xs_ (by decide) | exact xc_ (by decide) | exact x31_ (by decide) | omega) (by first | assumption | decide | exact xs_ (by decide) | exact xc_ (by decide) | exact x31_ (by decide) | omega); omega)
  exact L2 6 (0)  (by first | assumption | decide | exact xs_ (by decide) | exact xc_ (by decide) | exact x31_ (by decide) | omega) (by first | (intro j h0 h1; omega) | (intro j h0 h1; rcases (by omega : j < w1 ∨ j = w1) with h | h; exact i0_2 j h0 h; subst h; assumption)) (by first | assumption | decide | exact xs_ (by decide) | exact xc_ (by decide) | exact x31_ (by decide) | omega)  
theorem y_link {eb : Bool} {t : Int} {V : Mm} {d : Nat} {P : Option Vl → Mm → Prop} {σ : Mm} {l o z w : Int}  {σ0 : Mm} (ht : 6 ≤ t ∧ t ≤ 7) (hR : RS t σ0 V σ) (hG : GI V)  (k1 : lkC V l o z w → ∀ ρ : Mm, RS t σ0 (lkM V l o z w) ρ → P (some (vI 1)) ρ) (k0 : ¬ lkC V l o z w → ∀ ρ : Mm, RS t σ0 V ρ → P (some (vI 0)) ρ) : WT (true, eb, true) (d + 4) 199 [vR 30 0, vI l, vI o, vI z, vI w] σ P := by
  refine WT_in fun K hK => ?_
  have hK : StpY (true, eb, true) cX6_link RX6 (some .boolean) (WT (true, eb, true) (d + 3)) P K := hK
  have hM := hK.1
  have hC := hK.1.1
  show K 0 [some (vR 30 0), some (vI l), some (vI o), some (vI z), some (vI w)] [] σ
  refine r_rngz hC (fun g0 => ?_)
  have r_l : -2147483648 ≤ l ∧ l ≤ 2147483647 := inR_le (g0 (vI l) (by simp))
  have r_o : -2147483648 ≤ o ∧ o ≤ 2147483647 := inR_le (g0 (vI o) (by simp))
  have r_z : -2147483648 ≤ z ∧ z ≤ 2147483647 := inR_le (g0 (vI z) (by simp))
  have r_w : -2147483648 ≤ w ∧ w ≤ 2147483647 := inR_le (g0 (vI w) (by simp))
  refine r_aload_n hC dX6_link_0 rfl ?_
  refine r_iload_n hC dX6_link_1 rfl ?_
  refine z_inv1 hM dX6_link_2 vl_RX6_124 rfl rfl rfl (Nat.le_of_ble_eq_true rfl) (Nat.le_of_ble_eq_true rfl) ?_
  refine y_isLane (V := V) ht ⟨hR.1, hR.2.1, hR.2.2⟩ (fun h1 => ?_) (fun h1 => ?_)
  · unfold opV at h1
    refine r_if_eq (tgt := 50) hC dX6_link_5 rfl (fun h2 => by omega) (fun h2 => ?_)
    refine r_iload_n hC dX6_link_8 rfl ?_
    refine r_iload_n hC dX6_link_9 rfl ?_
    refine r_icmp_eq (tgt := 50) hC dX6_link_10 rfl (fun h3 => ?_) (fun h3 => ?_)
    · refine r_iconst hC dX6_link_50 rfl ?_
      refine y_zret hK rfl dX6_link_51 (by first | assumption | decide | exact xs_ (by decide) | exact xc_ (by decide) | exact x31_ (by decide) | omega) ?_
      exact k0 (fun q => by have q1 := q.1; have q2 := q.2.1; have q3 := q.2.2.1; have q4 := q.2.2.2.1; have q5 := q.2.2.2.2.1; have q6 := q.2.2.2.2.2; first | omega | exact hlk q6) _ ⟨hR.1, hR.2.1, hR.2.2⟩
    · refine r_aload_n hC dX6_link_13 rfl ?_
      refine r_iload_n hC dX6_link_14 rfl ?_
      refine r_iload hC dX6_link_15 rfl ?_
      refine z_inv2 hM dX6_link_17 vl_RX6_207 rfl rfl rfl (Nat.le_of_ble_eq_true rfl) (Nat.le_of_ble_eq_true rfl) ?_
      refine y_isNumber (V := V) ht ⟨hR.1, hR.2.1, hR.2.2⟩ (fun l a b => (hG.2.1.2.2.2.1 l a b).2) (fun h4 => ?_) (fun h4 => ?_)
      · unfold lwC opV at h4
        have n_h4 := numF_rng (V 7 l 2)
        refine r_if_eq (tgt := 50) hC dX6_link_20 rfl (fun h5 => by omega) (fun h5 => ?_)
        refine r_iload_n hC dX6_link_23 rfl ?_
        refine r_iconst hC dX6_link_24 rfl ?_
        refine r_ldc hC dX6_link_25 co_RX6_239 rfl ?_
        refine z_ins3 hM dX6_link_27 tl_RX6_76 rfl (Nat.le_of_ble_eq_true rfl) (Nat.le_of_ble_eq_true rfl) ?_
        refine m_isIn (fun h7 => ?_) (fun h7 => ?_)
        · refine r_if_eq (tgt := 50) hC dX6_link_30 rfl (fun h8 => by omega) (fun h8 => ?_)
          refine r_aload_n hC dX6_link_33 rfl ?_
          refine z_getR hM dX6_link_34 fl_RX6_52 rfl rfl (vld_of (n := 1) rfl (by first | assumption | decide | exact xs_ (by decide) | exact xc_ (by decide) | exact x31_ (by decide) | omega) (by first | assumption | decide | exact xs_ (by decide) | exact xc_ (by decide) | exact x31_ (by decide) | omega)) ?_
          refine r_iload_n hC dX6_link_37 rfl ?_
          refine z_iald hM dX6_link_38 rfl (by first | assumption | decide | exact xs_ (by decide) | exact xc_ (by decide) | exact x31_ (by decide) | omega) (by first | assumption | decide | exact xs_ (by decide) | exact xc_ (by decide) | exact x31_ (by decide) | omega) (fun v9 h_v9 o_v9 t_v9 => ?_)
          have w_v9 := ((t_v9 (Or.inl (by simp [Tb]))).trans ((hR.1.k0 (by first | assumption | decide | exact xs_ (by decide) | exact xc_ (by decide) | exact x31_ (by decide) | omega) (by first | assumption | decide | exact xs_ (by decide) | exact xc_ (by decide) | exact x31_ (by decide) | omega)).trans (rfl))).symm
          subst w_v9
          have q_v9 : -1 ≤ (V 13 o 0) ∧ (V 13 o 0) ≤ 3 := o_v9
          refine r_if_ge (tgt := 50) hC dX6_link_39 rfl (fun h10 => ?_) (fun h10 => ?_)
          · refine r_iconst hC dX6_link_50 rfl ?_
            refine y_zret hK rfl dX6_link_51 (by first | assumption | decide | exact xs_ (by decide) | exact xc_ (by decide) | exact x31_ (by decide) | omega) ?_
            exact k0 (fun q => by have q1 := q.1; have q2 := q.2.1; have q3 := q.2.2.1; have q4 := q.2.2.2.1; have q5 := q.2.2.2.2.1; have q6 := q.2.2.2.2.2; first | omega | exact hlk q6) _ ⟨hR.1, hR.2.1, hR.2.2⟩
          · refine r_aload_n hC dX6_link_42 rfl ?_
            refine r_iload_n hC dX6_link_43 rfl ?_
            refine z_inv1 hM dX6_link_44 vl_RX6_240 rfl rfl rfl (Nat.le_of_ble_eq_true rfl) (Nat.le_of_ble_eq_true rfl) ?_
            refine y_isLinkedTo (V := V) ht ⟨hR.1, hR.2.1, hR.2.2⟩ (fun hlk => ?_) (fun hlk => ?_)
            · refine r_if_eq (tgt := 52) hC dX6_link_47 rfl (fun h11 => by omega) (fun h11 => ?_)
              refine r_iconst hC dX6_link_50 rfl ?_
              refine y_zret hK rfl dX6_link_51 (by first | assumption | decide | exact xs_ (by decide) | exact xc_ (by decide) | exact x31_ (by decide) | omega) ?_
              exact k0 (fun q => by have q1 := q.1; have q2 := q.2.1; have q3 := q.2.2.1; have q4 := q.2.2.2.1; have q5 := q.2.2.2.2.1; have q6 := q.2.2.2.2.2; first | omega | exact hlk q6) _ ⟨hR.1, hR.2.1, hR.2.2⟩
            · refine r_if_eq (tgt := 52) hC dX6_link_47 rfl (fun h12 => ?_) (fun h12 => by omega)
              refine r_aload_n hC dX6_link_52 rfl ?_
              refine z_getR hM dX6_link_53 fl_RX6_52 rfl rfl (vld_of (n := 1) rfl (by first | assumption | decide | exact xs_ (by decide) | exact xc_ (by decide) | exact x31_ (by decide) | omega) (by first | assumption | decide | exact xs_ (by decide) | exact xc_ (by decide) | exact x31_ (by decide) | omega)) ?_
              refine r_iload_n hC dX6_link_56 rfl ?_
              refine r_iload_n hC dX6_link_57 rfl ?_
              refine z_iastT hM dX6_link_58 rfl (by first | assumption | decide | exact xs_ (by decide) | exact xc_ (by decide) | exact x31_ (by decide) | omega) (by first | assumption | decide | exact xs_ (by decide) | exact xc_ (by decide) | exact x31_ (by decide) | omega) ⟨Or.inr (by simp [DL]), Or.inr (by simp [DF])⟩ (by first | trivial | (simp only [Okv]; omega) | (simp [Okv]; try omega)) ?_
              obtain ⟨ρ13, e_ρ13⟩ : ∃ zz_, zz_ = mu σ 45 0 l o := ⟨_, rfl⟩
              rw [← e_ρ13]
              have Sρ13 : SB t σ0 (mu V 13 l 0 o) ρ13 := by rw [e_ρ13]; exact hR.1.pk0 (by first | assumption | decide | exact xs_ (by decide) | exact xc_ (by decide) | exact x31_ (by decide) | omega) (by first | assumption | decide | exact xs_ (by decide) | exact xc_ (by decide) | exact x31_ (by decide) | omega)
              have Kρ13 : KF t (mu V 13 l 0 o) ρ13 := by rw [e_ρ13]; exact (hR.2.1).e (fun l a b => ⟨mu_ne (by first | assumption | decide | exact xs_ (by decide) | exact xc_ (by decide) | exact x31_ (by decide) | omega), mu_ne (by first | assumption | decide | exact xs_ (by decide) | exact xc_ (by decide) | exact x31_ (by decide) | omega)⟩) |>.v (fun l => mu_ne (by first | assumption | decide | exact xs_ (by decide) | exact xc_ (by decide) | exact x31_ (by decide) | omega))
              have Fρ13 : FB (mu V 13 l 0 o) ρ13 := by rw [e_ρ13]; exact (hR.2.2).e (fun l a b => mu_ne (by first | assumption | decide | exact xs_ (by decide) | exact xc_ (by decide) | exact x31_ (by decide) | omega)) |>.v (fun l y a b c => mu_ne (by first | assumption | decide | exact xs_ (by decide) | exact xc_ (by decide) | exact x31_ (by decide) | omega))
              refine r_aload_n hC dX6_link_59 rfl ?_
              refine z_getR hM dX6_link_60 fl_RX6_55 rfl rfl (vld_of (n := 1) rfl (by first | assumption | decide | exact xs_ (by decide) | exact xc_ (by decide) | exact x31_ (by decide) | omega) (by first | assumption | decide | exact xs_ (by decide) | exact xc_ (by decide) | exact x31_ (by decide) | omega)) ?_
              refine r_iload_n hC dX6_link_63 rfl ?_
              refine r_iload_n hC dX6_link_64 rfl ?_
              refine z_iastT hM dX6_link_65 rfl (by first | assumption | decide | exact xs_ (by decide) | exact xc_ (by decide) | exact x31_ (by decide) | omega) (by first | assumption | decide | exact xs_ (by decide) | exact xc_ (by decide) | exact x31_ (by decide) | omega) ⟨Or.inr (by simp [DL]), Or.inr (by simp [DF])⟩ (by first | trivial | (simp only [Okv]; omega) | (simp [Okv]; try omega)) ?_
              obtain ⟨ρ14, e_ρ14⟩ : ∃ zz_, zz_ = mu ρ13 46 0 l z := ⟨_, rfl⟩
              rw [← e_ρ14]
              have Sρ14 : SB t σ0 (mu (mu V 13 l 0 o) 13 l 1 z) ρ14 := by rw [e_ρ14]; exact Sρ13.pk1 (by first | assumption | decide | exact xs_ (by decide) | exact xc_ (by decide) | exact x31_ (by decide) | omega) (by first | assumption | decide | exact xs_ (by decide) | exact xc_ (by decide) | exact x31_ (by decide) | omega)
              have Kρ14 : KF t (mu (mu V 13 l 0 o) 13 l 1 z) ρ14 := by rw [e_ρ14]; exact (Kρ13).e (fun l a b => ⟨mu_ne (by first | assumption | decide | exact xs_ (by decide) | exact xc_ (by decide) | exact x31_ (by decide) | omega), mu_ne (by first | assumption | decide | exact xs_ (by decide) | exact xc_ (by decide) | exact x31_ (by decide) | omega)⟩) |>.v (fun l => mu_ne (by first | assumption | decide | exact xs_ (by decide) | exact xc_ (by decide) | exact x31_ (by decide) | omega))
              have Fρ14 : FB (mu (mu V 13 l 0 o) 13 l 1 z) ρ14 := by rw [e_ρ14]; exact (Fρ13).e (fun l a b => mu_ne (by first | assumption | decide | exact xs_ (by decide) | exact xc_ (by decide) | exact x31_ (by decide) | omega)) |>.v (fun l y a b c => mu_ne (by first | assumption | decide | exact xs_ (by decide) | exact xc_ (by decide) | exact x31_ (by decide) | omega))
              refine r_aload_n hC dX6_link_66 rfl ?_
              refine z_getR hM dX6_link_67 fl_RX6_58 rfl rfl (vld_of (n := 1) rfl (by first | assumption | decide | exact xs_ (by decide) | exact xc_ (by decide) | exact x31_ (by decide) | omega) (by first | assumption | decide | exact xs_ (by decide) | exact xc_ (by decide) | exact x31_ (by decide) | omega)) ?_
              refine r_iload_n hC dX6_link_70 rfl ?_
              refine r_iload hC dX6_link_71 rfl ?_
              refine z_iastT hM dX6_link_73 rfl (by first | assumption | decide | exact xs_ (by decide) | exact xc_ (by decide) | exact x31_ (by decide) | omega) (by first | assumption | decide | exact xs_ (by decide) | exact xc_ (by decide) | exact x31_ (by decide) | omega) ⟨Or.inr (by simp [DL]), Or.inr (by simp [DF])⟩ (by first | trivial | (simp only [Okv]; omega) | (simp [Okv]; try omega)) ?_
              obtain ⟨ρ15, e_ρ15⟩ : ∃ zz_, zz_ = mu ρ14 47 0 l w := ⟨_, rfl⟩
              rw [← e_ρ15]
              have Sρ15 : SB t σ0 (mu (mu (mu V 13 l 0 o) 13 l 1 z) 13 l 2 w) ρ15 := by rw [e_ρ15]; exact Sρ14.pk2 (by first | assumption | decide | exact xs_ (by decide) | exact xc_ (by decide) | exact x31_ (by decide) | omega) (by first | assumption | decide | exact xs_ (by decide) | exact xc_ (by decide) | exact x31_ (by decide) | omega)
              have Kρ15 : KF t (mu (mu (mu V 13 l 0 o) 13 l 1 z) 13 l 2 w) ρ15 := by rw [e_ρ15]; exact (Kρ14).e (fun l a b => ⟨mu_ne (by first | assumption | decide | exact xs_ (by decide) | exact xc_ (by decide) | exact x31_ (by decide) | omega), mu_ne (by first | assumption | decide | exact xs_ (by decide) | exact xc_ (by decide) | exact x31_ (by decide) | omega)⟩) |>.v (fun l => mu_ne (by first | assumption | decide | exact xs_ (by decide) | exact xc_ (by decide) | exact x31_ (by decide) | omega))
              have Fρ15 : FB (mu (mu (mu V 13 l 0 o) 13 l 1 z) 13 l 2 w) ρ15 := by rw [e_ρ15]; exact (Fρ14).e (fun l a b => mu_ne (by first | assumption | decide | exact xs_ (by decide) | exact xc_ (by decide) | exact x31_ (by decide) | omega)) |>.v (fun l y a b c => mu_ne (by first | assumption | decide | exact xs_ (by decide) | exact xc_ (by decide) | exact x31_ (by decide) | omega))
              refine r_aload_n hC dX6_link_74 rfl ?_
              refine z_getR hM dX6_link_75 fl_RX6_61 rfl rfl (vld_of (n := 1) rfl (by first | assumption | decide | exact xs_ (by decide) | exact xc_ (by decide) | exact x31_ (by decide) | omega) (by first | assumption | decide | exact xs_ (by decide) | exact xc_ (by decide) | exact x31_ (by decide) | omega)) ?_
              refine r_iload_n hC dX6_link_78 rfl ?_
              refine r_iconst hC dX6_link_79 rfl ?_
              refine z_iastT hM dX6_link_80 rfl (by first | assumption | decide | exact xs_ (by decide) | exact xc_ (by decide) | exact x31_ (by decide) | omega) (by first | assumption | decide | exact xs_ (by decide) | exact xc_ (by decide) | exact x31_ (by decide) | omega) ⟨Or.inr (by simp [DL]), Or.inr (by simp [DF])⟩ (by first | trivial | (simp only [Okv]; omega) | (simp [Okv]; try omega)) ?_
              obtain ⟨ρ16, e_ρ16⟩ : ∃ zz_, zz_ = mu ρ15 48 0 l 0 := ⟨_, rfl⟩
              rw [← e_ρ16]
              have Sρ16 : SB t σ0 (mu (mu (mu (mu V 13 l 0 o) 13 l 1 z) 13 l 2 w) 13 l 3 0) ρ16 := by rw [e_ρ16]; exact Sρ15.pk3 (by first | assumption | decide | exact xs_ (by decide) | exact xc_ (by decide) | exact x31_ (by decide) | omega) (by first | assumption | decide | exact xs_ (by decide) | exact xc_ (by decide) | exact x31_ (by decide) | omega)
              have Kρ16 : KF t (mu (mu (mu (mu V 13 l 0 o) 13 l 1 z) 13 l 2 w) 13 l 3 0) ρ16 := by rw [e_ρ16]; exact (Kρ15).e (fun l a b => ⟨mu_ne (by first | assumption | decide | exact xs_ (by decide) | exact xc_ (by decide) | exact x31_ (by decide) | omega), mu_ne (by first | assumption | decide | exact xs_ (by decide) | exact xc_ (by decide) | exact x31_ (by decide) | omega)⟩) |>.v (fun l => mu_ne (by first | assumption | decide | exact xs_ (by decide) | exact xc_ (by decide) | exact x31_ (by decide) | omega))
              have Fρ16 : FB (mu (mu (mu (mu V 13 l 0 o) 13 l 1 z) 13 l 2 w) 13 l 3 0) ρ16 := by rw [e_ρ16]; exact (Fρ15).e (fun l a b => mu_ne (by first | assumption | decide | exact xs_ (by decide) | exact xc_ (by decide) | exact x31_ (by decide) | omega)) |>.v (fun l y a b c => mu_ne (by first | assumption | decide | exact xs_ (by decide) | exact xc_ (by decide) | exact x31_ (by decide) | omega))
              refine r_iconst hC dX6_link_81 rfl ?_
              refine y_zret hK rfl dX6_link_82 (by first | assumption | decide | exact xs_ (by decide) | exact xc_ (by decide) | exact x31_ (by decide) | omega) ?_
              exact k1 ⟨by omega, by omega, by omega, by omega, by omega, hlk⟩ _ ⟨Sρ16, Kρ16, Fρ16⟩
        · refine r_if_eq (tgt := 50) hC dX6_link_30 rfl (fun h17 => ?_) (fun h17 => by omega)
          refine r_iconst hC dX6_link_50 rfl ?_
          refine y_zret hK rfl dX6_link_51 (by first | assumption | decide | exact xs_ (by decide) | exact xc_ (by decide) | exact x31_ (by decide) | omega) ?_
          exact k0 (fun q => by have q1 := q.1; have q2 := q.2.1; have q3 := q.2.2.1; have q4 := q.2.2.2.1; have q5 := q.2.2.2.2.1; have q6 := q.2.2.2.2.2; first | omega | exact hlk q6) _ ⟨hR.1, hR.2.1, hR.2.2⟩
      · unfold lwC opV at h4
        have n_h4 := numF_rng (V 7 l 2)
        refine r_if_eq (tgt := 50) hC dX6_link_20 rfl (fun h18 => ?_) (fun h18 => by omega)
        refine r_iconst hC dX6_link_50 rfl ?_
        refine y_zret hK rfl dX6_link_51 (by first | assumption | decide | exact xs_ (by decide) | exact xc_ (by decide) | exact x31_ (by decide) | omega) ?_
        exact k0 (fun q => by have q1 := q.1; have q2 := q.2.1; have q3 := q.2.2.1; have q4 := q.2.2.2.1; have q5 := q.2.2.2.2.1; have q6 := q.2.2.2.2.2; first | omega | exact hlk q6) _ ⟨hR.1, hR.2.1, hR.2.2⟩
  · unfold opV at h1
    refine r_if_eq (tgt := 50) hC dX6_link_5 rfl (fun h19 => ?_) (fun h19 => by omega)
    refine r_iconst hC dX6_link_50 rfl ?_
    refine y_zret hK rfl dX6_link_51 (by first | assumption | decide | exact xs_ (by decide) | exact xc_ (by decide) | exact x31_ (by decide) | omega) ?_
    exact k0 (fun q => by have q1 := q.1; have q2 := q.2.1; have q3 := q.2.2.1; have q4 := q.2.2.2.1; have q5 := q.2.2.2.2.1; have q6 := q.2.2.2.2.2; first | omega | exact hlk q6) _ ⟨hR.1, hR.2.1, hR.2.2⟩
theorem LK_w {V : Mm} {l v w b : Int} (h : LK V l) (hv : 0 ≤ v ∧ v ≤ 7) (hw : 0 ≤ w) (hw2 : w < numF (V 7 l 2)) : LK (mu (mu (mu V 12 v 0 l) 12 v 1 w) 12 v 2 b) l := by
  obtain ⟨q1, q2, q3, q4, q5, q6⟩ := h
  have e : ∀ (c : Nat) (x y : Int), c ≠ 12 → mu (mu (mu V 12 v 0 l) 12 v 1 w) 12 v 2 b c x y = V c x y := fun c x y hc => by rw [mu_ne (by first | assumption | decide | exact xs_ (by decide) | exact xc_ (by decide) | exact x31_ (by decide) | omega), mu_ne (by first | assumption | decide | exact xs_ (by decide) | exact xc_ (by decide) | exact x31_ (by decide) | omega), mu_ne (by first | assumption | decide | exact xs_ (by decide) | exact xc_ (by decide) | exact x31_ (by decide) | omega)]
  refine ⟨by rw [e _ _ _ (by decide)]; exact q1, by rw [e _ _ _ (by decide)]; exact q2, fun j a b => by rw [e _ _ _ (by decide)]; exact q3 j a b, fun j a b => by rw [e _ _ _ (by decide)]; exact q4 j a b, fun x a c d => ?_, fun x a c => ?_⟩
  · rw [e 7 l 2 (by decide)]
    by_cases ex : x = v
    · subst ex
      rw [mu_ne (by first | assumption | decide | exact xs_ (by decide) | exact xc_ (by decide) | exact x31_ (by decide) | omega), mu_self]
      exact ⟨hw, hw2⟩
    · rw [mu_ne (by first | assumption | decide | exact xs_ (by decide) | exact xc_ (by decide) | exact x31_ (by decide) | omega), mu_ne (by first | assumption | decide | exact xs_ (by decide) | exact xc_ (by decide) | exact x31_ (by decide) | omega), mu_ne (by first | assumption | decide | exact xs_ (by decide) | exact xc_ (by decide) | exact x31_ (by decide) | omega)] at d ⊢
      exact q5 x a c d
  · rw [mu_ne (by first | assumption | decide | exact xs_ (by decide) | exact xc_ (by decide) | exact x31_ (by decide) | omega), mu_ne (by first | assumption | decide | exact xs_ (by decide) | exact xc_ (by decide) | exact x31_ (by decide) | omega), mu_ne (by first | assumption | decide | exact xs_ (by decide) | exact xc_ (by decide) | exact x31_ (by decide) | omega)]; exact q6 x a c
theorem y_watch {eb : Bool} {t : Int} {V : Mm} {d : Nat} {P : Option Vl → Mm → Prop} {σ : Mm} {v l w b : Int}  {σ0 : Mm} (ht : 6 ≤ t ∧ t ≤ 7) (hR : RS t σ0 V σ) (hG : GI V)  (k : ∀ ρ : Mm, RS t σ0 (wtM V v l w b) ρ → P (some (vI (wtR V v l w b))) ρ) : WT (true, eb, true) (d + 6) 186 [vR 30 0, vI v, vI l, vI w, vI b] σ P := by
  refine WT_in fun K hK => ?_
  have hK : StpY (true, eb, true) cX6_watch RX6 (some .int) (WT (true, eb, true) (d + 5)) P K := hK
  have hM := hK.1
  have hC := hK.1.1
  show K 0 [some (vR 30 0), some (vI v), some (vI l), some (vI w), some (vI b)] [] σ
  refine r_rngz hC (fun g0 => ?_)
  have r_v : -2147483648 ≤ v ∧ v ≤ 2147483647 := inR_le (g0 (vI v) (by simp))
  have r_l : -2147483648 ≤ l ∧ l ≤ 2147483647 := inR_le (g0 (vI l) (by simp))
  have r_w : -2147483648 ≤ w ∧ w ≤ 2147483647 := inR_le (g0 (vI w) (by simp))
  have r_b : -2147483648 ≤ b ∧ b ≤ 2147483647 := inR_le (g0 (vI b) (by simp))
  refine r_iload_n hC dX6_watch_0 rfl ?_
  refine r_iconst hC dX6_watch_1 rfl ?_
  refine r_bipush hC dX6_watch_2 rfl ?_
  refine z_ins3 hM dX6_watch_4 tl_RX6_76 rfl (Nat.le_of_ble_eq_true rfl) (Nat.le_of_ble_eq_true rfl) ?_
  refine m_isIn (fun h2 => ?_) (fun h2 => ?_)
  · refine r_if_eq (tgt := 19) hC dX6_watch_7 rfl (fun h3 => by omega) (fun h3 => ?_)
    refine r_aload_n hC dX6_watch_10 rfl ?_
    refine r_iload_n hC dX6_watch_11 rfl ?_
    refine r_iload_n hC dX6_watch_12 rfl ?_
    refine z_inv2 hM dX6_watch_13 vl_RX6_207 rfl rfl rfl (Nat.le_of_ble_eq_true rfl) (Nat.le_of_ble_eq_true rfl) ?_
    refine y_isNumber (V := V) ht ⟨hR.1, hR.2.1, hR.2.2⟩ (fun l a b => (hG.2.1.2.2.2.1 l a b).2) (fun h4 => ?_) (fun h4 => ?_)
    · unfold lwC opV at h4
      have n_h4 := numF_rng (V 7 l 2)
      refine r_if_ne (tgt := 21) hC dX6_watch_16 rfl (fun h5 => ?_) (fun h5 => by omega)
      refine r_aload_n hC dX6_watch_21 rfl ?_
      refine z_getR hM dX6_watch_22 fl_RX6_34 rfl rfl (vld_of (n := 1) rfl (by first | assumption | decide | exact xs_ (by decide) | exact xc_ (by decide) | exact x31_ (by decide) | omega) (by first | assumption | decide | exact xs_ (by decide) | exact xc_ (by decide) | exact x31_ (by decide) | omega)) ?_
      refine r_iload_n hC dX6_watch_25 rfl ?_
      refine r_iload_n hC dX6_watch_26 rfl ?_
      refine z_iastT hM dX6_watch_27 rfl (by first | assumption | decide | exact xs_ (by decide) | exact xc_ (by decide) | exact x31_ (by decide) | omega) (by first | assumption | decide | exact xs_ (by decide) | exact xc_ (by decide) | exact x31_ (by decide) | omega) ⟨Or.inr (by simp [DL]), Or.inr (by simp [DF])⟩ (by first | trivial | (simp only [Okv]; omega) | (simp [Okv]; try omega)) ?_
      obtain ⟨ρ6, e_ρ6⟩ : ∃ zz_, zz_ = mu σ 39 0 v l := ⟨_, rfl⟩
      rw [← e_ρ6]
      have Sρ6 : SB t σ0 (mu V 12 v 0 l) ρ6 := by rw [e_ρ6]; exact hR.1.pw0 (by first | assumption | decide | exact xs_ (by decide) | exact xc_ (by decide) | exact x31_ (by decide) | omega) (by first | assumption | decide | exact xs_ (by decide) | exact xc_ (by decide) | exact x31_ (by decide) | omega)
      have Kρ6 : KF t (mu V 12 v 0 l) ρ6 := by rw [e_ρ6]; exact (hR.2.1).e (fun l a b => ⟨mu_ne (by first | assumption | decide | exact xs_ (by decide) | exact xc_ (by decide) | exact x31_ (by decide) | omega), mu_ne (by first | assumption | decide | exact xs_ (by decide) | exact xc_ (by decide) | exact x31_ (by decide) | omega)⟩) |>.v (fun l => mu_ne (by first | assumption | decide | exact xs_ (by decide) | exact xc_ (by decide) | exact x31_ (by decide) | omega))
      have Fρ6 : FB (mu V 12 v 0 l) ρ6 := by rw [e_ρ6]; exact (hR.2.2).e (fun l a b => mu_ne (by first | assumption | decide | exact xs_ (by decide) | exact xc_ (by decide) | exact x31_ (by decide) | omega)) |>.v (fun l y a b c => mu_ne (by first | assumption | decide | exact xs_ (by decide) | exact xc_ (by decide) | exact x31_ (by decide) | omega))
      refine r_aload_n hC dX6_watch_28 rfl ?_
      refine z_getR hM dX6_watch_29 fl_RX6_37 rfl rfl (vld_of (n := 1) rfl (by first | assumption | decide | exact xs_ (by decide) | exact xc_ (by decide) | exact x31_ (by decide) | omega) (by first | assumption | decide | exact xs_ (by decide) | exact xc_ (by decide) | exact x31_ (by decide) | omega)) ?_
      refine r_iload_n hC dX6_watch_32 rfl ?_
      refine r_iload_n hC dX6_watch_33 rfl ?_
      refine z_iastT hM dX6_watch_34 rfl (by first | assumption | decide | exact xs_ (by decide) | exact xc_ (by decide) | exact x31_ (by decide) | omega) (by first | assumption | decide | exact xs_ (by decide) | exact xc_ (by decide) | exact x31_ (by decide) | omega) ⟨Or.inr (by simp [DL]), Or.inr (by simp [DF])⟩ (by first | trivial | (simp only [Okv]; omega) | (simp [Okv]; try omega)) ?_
      obtain ⟨ρ7, e_ρ7⟩ : ∃ zz_, zz_ = mu ρ6 40 0 v w := ⟨_, rfl⟩
      rw [← e_ρ7]
      have Sρ7 : SB t σ0 (mu (mu V 12 v 0 l) 12 v 1 w) ρ7 := by rw [e_ρ7]; exact Sρ6.pw1 (by first | assumption | decide | exact xs_ (by decide) | exact xc_ (by decide) | exact x31_ (by decide) | omega) (by first | assumption | decide | exact xs_ (by decide) | exact xc_ (by decide) | exact x31_ (by decide) | omega)
      have Kρ7 : KF t (mu (mu V 12 v 0 l) 12 v 1 w) ρ7 := by rw [e_ρ7]; exact (Kρ6).e (fun l a b => ⟨mu_ne (by first | assumption | decide | exact xs_ (by decide) | exact xc_ (by decide) | exact x31_ (by decide) | omega), mu_ne (by first | assumption | decide | exact xs_ (by decide) | exact xc_ (by decide) | exact x31_ (by decide) | omega)⟩) |>.v (fun l => mu_ne (by first | assumption | decide | exact xs_ (by decide) | exact xc_ (by decide) | exact x31_ (by decide) | omega))
      have Fρ7 : FB (mu (mu V 12 v 0 l) 12 v 1 w) ρ7 := by rw [e_ρ7]; exact (Fρ6).e (fun l a b => mu_ne (by first | assumption | decide | exact xs_ (by decide) | exact xc_ (by decide) | exact x31_ (by decide) | omega)) |>.v (fun l y a b c => mu_ne (by first | assumption | decide | exact xs_ (by decide) | exact xc_ (by decide) | exact x31_ (by decide) | omega))
      refine r_aload_n hC dX6_watch_35 rfl ?_
      refine z_getR hM dX6_watch_36 fl_RX6_40 rfl rfl (vld_of (n := 1) rfl (by first | assumption | decide | exact xs_ (by decide) | exact xc_ (by decide) | exact x31_ (by decide) | omega) (by first | assumption | decide | exact xs_ (by decide) | exact xc_ (by decide) | exact x31_ (by decide) | omega)) ?_
      refine r_iload_n hC dX6_watch_39 rfl ?_
      refine r_iload hC dX6_watch_40 rfl ?_
      refine z_iastT hM dX6_watch_42 rfl (by first | assumption | decide | exact xs_ (by decide) | exact xc_ (by decide) | exact x31_ (by decide) | omega) (by first | assumption | decide | exact xs_ (by decide) | exact xc_ (by decide) | exact x31_ (by decide) | omega) ⟨Or.inr (by simp [DL]), Or.inr (by simp [DF])⟩ (by first | trivial | (simp only [Okv]; omega) | (simp [Okv]; try omega)) ?_
      obtain ⟨ρ8, e_ρ8⟩ : ∃ zz_, zz_ = mu ρ7 41 0 v b := ⟨_, rfl⟩
      rw [← e_ρ8]
      have Sρ8 : SB t σ0 (mu (mu (mu V 12 v 0 l) 12 v 1 w) 12 v 2 b) ρ8 := by rw [e_ρ8]; exact Sρ7.pw2 (by first | assumption | decide | exact xs_ (by decide) | exact xc_ (by decide) | exact x31_ (by decide) | omega) (by first | assumption | decide | exact xs_ (by decide) | exact xc_ (by decide) | exact x31_ (by decide) | omega)
      have Kρ8 : KF t (mu (mu (mu V 12 v 0 l) 12 v 1 w) 12 v 2 b) ρ8 := by rw [e_ρ8]; exact (Kρ7).e (fun l a b => ⟨mu_ne (by first | assumption | decide | exact xs_ (by decide) | exact xc_ (by decide) | exact x31_ (by decide) | omega), mu_ne (by first | assumption | decide | exact xs_ (by decide) | exact xc_ (by decide) | exact x31_ (by decide) | omega)⟩) |>.v (fun l => mu_ne (by first | assumption | decide | exact xs_ (by decide) | exact xc_ (by decide) | exact x31_ (by decide) | omega))
      have Fρ8 : FB (mu (mu (mu V 12 v 0 l) 12 v 1 w) 12 v 2 b) ρ8 := by rw [e_ρ8]; exact (Fρ7).e (fun l a b => mu_ne (by first | assumption | decide | exact xs_ (by decide) | exact xc_ (by decide) | exact x31_ (by decide) | omega)) |>.v (fun l y a b c => mu_ne (by first | assumption | decide | exact xs_ (by decide) | exact xc_ (by decide) | exact x31_ (by decide) | omega))
      refine r_aload_n hC dX6_watch_43 rfl ?_
      refine z_getR hM dX6_watch_44 fl_RX6_43 rfl rfl (vld_of (n := 1) rfl (by first | assumption | decide | exact xs_ (by decide) | exact xc_ (by decide) | exact x31_ (by decide) | omega) (by first | assumption | decide | exact xs_ (by decide) | exact xc_ (by decide) | exact x31_ (by decide) | omega)) ?_
      refine r_iload_n hC dX6_watch_47 rfl ?_
      refine r_aload_n hC dX6_watch_48 rfl ?_
      refine r_iload_n hC dX6_watch_49 rfl ?_
      refine r_iload_n hC dX6_watch_50 rfl ?_
      refine r_iload hC dX6_watch_51 rfl ?_
      refine z_inv3 hM dX6_watch_53 vl_RX6_203 rfl rfl rfl (Nat.le_of_ble_eq_true rfl) (Nat.le_of_ble_eq_true rfl) ?_
      have hLV := hG.2.1.lk hG.1 (l := l) (by first | assumption | decide | exact xs_ (by decide) | exact xc_ (by decide) | exact x31_ (by decide) | omega) (by first | assumption | decide | exact xs_ (by decide) | exact xc_ (by decide) | exact x31_ (by decide) | omega)
      have e7 : ∀ y : Int, (mu (mu (mu V 12 v 0 l) 12 v 1 w) 12 v 2 b) 7 l y = V 7 l y := fun y => by rw [mu_ne (by first | assumption | decide | exact xs_ (by decide) | exact xc_ (by decide) | exact x31_ (by decide) | omega), mu_ne (by first | assumption | decide | exact xs_ (by decide) | exact xc_ (by decide) | exact x31_ (by decide) | omega), mu_ne (by first | assumption | decide | exact xs_ (by decide) | exact xc_ (by decide) | exact x31_ (by decide) | omega)]
      have hLW : LK (mu (mu (mu V 12 v 0 l) 12 v 1 w) 12 v 2 b) l := LK_w hLV (by first | assumption | decide | exact xs_ (by decide) | exact xc_ (by decide) | exact x31_ (by decide) | omega) (by first | assumption | decide | exact xs_ (by decide) | exact xc_ (by decide) | exact x31_ (by decide) | omega) (by first | assumption | decide | exact xs_ (by decide) | exact xc_ (by decide) | exact x31_ (by decide) | omega)
      refine y_reachedNow (V := (mu (mu (mu V 12 v 0 l) 12 v 1 w) 12 v 2 b)) (by first | assumption | decide | exact xs_ (by decide) | exact xc_ (by decide) | exact x31_ (by decide) | omega) (by first | assumption | decide | exact xs_ (by decide) | exact xc_ (by decide) | exact x31_ (by decide) | omega) ht ⟨Sρ8, Kρ8, Fρ8⟩ (by first | assumption | decide | exact xs_ (by decide) | exact xc_ (by decide) | exact x31_ (by decide) | omega) hLW (by rw [e7]; omega) (fun ρ9 Rρ9 => ?_)
      rw [rc1_g (V := V) (funext fun y => by rw [mu_ne (by first | assumption | decide | exact xs_ (by decide) | exact xc_ (by decide) | exact x31_ (by decide) | omega), mu_ne (by first | assumption | decide | exact xs_ (by decide) | exact xc_ (by decide) | exact x31_ (by decide) | omega), mu_ne (by first | assumption | decide | exact xs_ (by decide) | exact xc_ (by decide) | exact x31_ (by decide) | omega)]) (funext fun y => by rw [mu_ne (by first | assumption | decide | exact xs_ (by decide) | exact xc_ (by decide) | exact x31_ (by decide) | omega), mu_ne (by first | assumption | decide | exact xs_ (by decide) | exact xc_ (by decide) | exact x31_ (by decide) | omega), mu_ne (by first | assumption | decide | exact xs_ (by decide) | exact xc_ (by decide) | exact x31_ (by decide) | omega)]) e7 (funext fun y => by rw [mu_ne (by first | assumption | decide | exact xs_ (by decide) | exact xc_ (by decide) | exact x31_ (by decide) | omega), mu_ne (by first | assumption | decide | exact xs_ (by decide) | exact xc_ (by decide) | exact x31_ (by decide) | omega), mu_ne (by first | assumption | decide | exact xs_ (by decide) | exact xc_ (by decide) | exact x31_ (by decide) | omega)])]
      have e01 := rc1_01 V l w b
      refine z_iastT hM dX6_watch_56 rfl (by first | assumption | decide | exact xs_ (by decide) | exact xc_ (by decide) | exact x31_ (by decide) | omega) (by first | assumption | decide | exact xs_ (by decide) | exact xc_ (by decide) | exact x31_ (by decide) | omega) ⟨Or.inr (by simp [DL]), Or.inr (by simp [DF])⟩ (by first | trivial | (simp only [Okv]; omega) | (simp [Okv]; try omega)) ?_
      obtain ⟨ρ10, e_ρ10⟩ : ∃ zz_, zz_ = mu ρ9 42 0 v (rc1 V l w b) := ⟨_, rfl⟩
      rw [← e_ρ10]
      have Sρ10 : SB t σ0 (mu (mu (mu (mu V 12 v 0 l) 12 v 1 w) 12 v 2 b) 12 v 3 (rc1 V l w b)) ρ10 := by rw [e_ρ10]; exact Rρ9.1.pw3 (by first | assumption | decide | exact xs_ (by decide) | exact xc_ (by decide) | exact x31_ (by decide) | omega) (by first | assumption | decide | exact xs_ (by decide) | exact xc_ (by decide) | exact x31_ (by decide) | omega)
      have Kρ10 : KF t (mu (mu (mu (mu V 12 v 0 l) 12 v 1 w) 12 v 2 b) 12 v 3 (rc1 V l w b)) ρ10 := by rw [e_ρ10]; exact (Rρ9.2.1).e (fun l a b => ⟨mu_ne (by first | assumption | decide | exact xs_ (by decide) | exact xc_ (by decide) | exact x31_ (by decide) | omega), mu_ne (by first | assumption | decide | exact xs_ (by decide) | exact xc_ (by decide) | exact x31_ (by decide) | omega)⟩) |>.v (fun l => mu_ne (by first | assumption | decide | exact xs_ (by decide) | exact xc_ (by decide) | exact x31_ (by decide) | omega))
      have Fρ10 : FB (mu (mu (mu (mu V 12 v 0 l) 12 v 1 w) 12 v 2 b) 12 v 3 (rc1 V l w b)) ρ10 := by rw [e_ρ10]; exact (Rρ9.2.2).e (fun l a b => mu_ne (by first | assumption | decide | exact xs_ (by decide) | exact xc_ (by decide) | exact x31_ (by decide) | omega)) |>.v (fun l y a b c => mu_ne (by first | assumption | decide | exact xs_ (by decide) | exact xc_ (by decide) | exact x31_ (by decide) | omega))
      refine r_aload_n hC dX6_watch_57 rfl ?_
      refine z_getR hM dX6_watch_58 fl_RX6_46 rfl rfl (vld_of (n := 1) rfl (by first | assumption | decide | exact xs_ (by decide) | exact xc_ (by decide) | exact x31_ (by decide) | omega) (by first | assumption | decide | exact xs_ (by decide) | exact xc_ (by decide) | exact x31_ (by decide) | omega)) ?_
      refine r_iload_n hC dX6_watch_61 rfl ?_
      refine r_iconst hC dX6_watch_62 rfl ?_
      refine z_iastT hM dX6_watch_63 rfl (by first | assumption | decide | exact xs_ (by decide) | exact xc_ (by decide) | exact x31_ (by decide) | omega) (by first | assumption | decide | exact xs_ (by decide) | exact xc_ (by decide) | exact x31_ (by decide) | omega) ⟨Or.inr (by simp [DL]), Or.inr (by simp [DF])⟩ (by first | trivial | (simp only [Okv]; omega) | (simp [Okv]; try omega)) ?_
      obtain ⟨ρ11, e_ρ11⟩ : ∃ zz_, zz_ = mu ρ10 43 0 v 0 := ⟨_, rfl⟩
      rw [← e_ρ11]
      have Sρ11 : SB t σ0 (mu (mu (mu (mu (mu V 12 v 0 l) 12 v 1 w) 12 v 2 b) 12 v 3 (rc1 V l w b)) 12 v 4 0) ρ11 := by rw [e_ρ11]; exact Sρ10.pw4 (by first | assumption | decide | exact xs_ (by decide) | exact xc_ (by decide) | exact x31_ (by decide) | omega) (by first | assumption | decide | exact xs_ (by decide) | exact xc_ (by decide) | exact x31_ (by decide) | omega)
      have Kρ11 : KF t (mu (mu (mu (mu (mu V 12 v 0 l) 12 v 1 w) 12 v 2 b) 12 v 3 (rc1 V l w b)) 12 v 4 0) ρ11 := by rw [e_ρ11]; exact (Kρ10).e (fun l a b => ⟨mu_ne (by first | assumption | decide | exact xs_ (by decide) | exact xc_ (by decide) | exact x31_ (by decide) | omega), mu_ne (by first | assumption | decide | exact xs_ (by decide) | exact xc_ (by decide) | exact x31_ (by decide) | omega)⟩) |>.v (fun l => mu_ne (by first | assumption | decide | exact xs_ (by decide) | exact xc_ (by decide) | exact x31_ (by decide) | omega))
      have Fρ11 : FB (mu (mu (mu (mu (mu V 12 v 0 l) 12 v 1 w) 12 v 2 b) 12 v 3 (rc1 V l w b)) 12 v 4 0) ρ11 := by rw [e_ρ11]; exact (Fρ10).e (fun l a b => mu_ne (by first | assumption | decide | exact xs_ (by decide) | exact xc_ (by decide) | exact x31_ (by decide) | omega)) |>.v (fun l y a b c => mu_ne (by first | assumption | decide | exact xs_ (by decide) | exact xc_ (by decide) | exact x31_ (by decide) | omega))
      refine r_aload_n hC dX6_watch_64 rfl ?_
      refine z_getR hM dX6_watch_65 fl_RX6_49 rfl rfl (vld_of (n := 1) rfl (by first | assumption | decide | exact xs_ (by decide) | exact xc_ (by decide) | exact x31_ (by decide) | omega) (by first | assumption | decide | exact xs_ (by decide) | exact xc_ (by decide) | exact x31_ (by decide) | omega)) ?_
      refine r_iload_n hC dX6_watch_68 rfl ?_
      refine r_iconst hC dX6_watch_69 rfl ?_
      refine z_iastT hM dX6_watch_70 rfl (by first | assumption | decide | exact xs_ (by decide) | exact xc_ (by decide) | exact x31_ (by decide) | omega) (by first | assumption | decide | exact xs_ (by decide) | exact xc_ (by decide) | exact x31_ (by decide) | omega) ⟨Or.inr (by simp [DL]), Or.inr (by simp [DF])⟩ (by first | trivial | (simp only [Okv]; omega) | (simp [Okv]; try omega)) ?_
      obtain ⟨ρ12, e_ρ12⟩ : ∃ zz_, zz_ = mu ρ11 44 0 v (-1) := ⟨_, rfl⟩
      rw [← e_ρ12]
      have Sρ12 : SB t σ0 (mu (mu (mu (mu (mu (mu V 12 v 0 l) 12 v 1 w) 12 v 2 b) 12 v 3 (rc1 V l w b)) 12 v 4 0) 12 v 5 (-1)) ρ12 := by rw [e_ρ12]; exact Sρ11.pw5 (by first | assumption | decide | exact xs_ (by decide) | exact xc_ (by decide) | exact x31_ (by decide) | omega) (by first | assumption | decide | exact xs_ (by decide) | exact xc_ (by decide) | exact x31_ (by decide) | omega)
      have Kρ12 : KF t (mu (mu (mu (mu (mu (mu V 12 v 0 l) 12 v 1 w) 12 v 2 b) 12 v 3 (rc1 V l w b)) 12 v 4 0) 12 v 5 (-1)) ρ12 := by rw [e_ρ12]; exact (Kρ11).e (fun l a b => ⟨mu_ne (by first | assumption | decide | exact xs_ (by decide) | exact xc_ (by decide) | exact x31_ (by decide) | omega), mu_ne (by first | assumption | decide | exact xs_ (by decide) | exact xc_ (by decide) | exact x31_ (by decide) | omega)⟩) |>.v (fun l => mu_ne (by first | assumption | decide | exact xs_ (by decide) | exact xc_ (by decide) | exact x31_ (by decide) | omega))
      have Fρ12 : FB (mu (mu (mu (mu (mu (mu V 12 v 0 l) 12 v 1 w) 12 v 2 b) 12 v 3 (rc1 V l w b)) 12 v 4 0) 12 v 5 (-1)) ρ12 := by rw [e_ρ12]; exact (Fρ11).e (fun l a b => mu_ne (by first | assumption | decide | exact xs_ (by decide) | exact xc_ (by decide) | exact x31_ (by decide) | omega)) |>.v (fun l y a b c => mu_ne (by first | assumption | decide | exact xs_ (by decide) | exact xc_ (by decide) | exact x31_ (by decide) | omega))
      refine r_aload_n hC dX6_watch_71 rfl ?_
      refine z_getR hM dX6_watch_72 fl_RX6_43 rfl rfl (vld_of (n := 1) rfl (by first | assumption | decide | exact xs_ (by decide) | exact xc_ (by decide) | exact x31_ (by decide) | omega) (by first | assumption | decide | exact xs_ (by decide) | exact xc_ (by decide) | exact x31_ (by decide) | omega)) ?_
      refine r_iload_n hC dX6_watch_75 rfl ?_
      refine z_iald hM dX6_watch_76 rfl (by first | assumption | decide | exact xs_ (by decide) | exact xc_ (by decide) | exact x31_ (by decide) | omega) (by first | assumption | decide | exact xs_ (by decide) | exact xc_ (by decide) | exact x31_ (by decide) | omega) (fun v13 h_v13 o_v13 t_v13 => ?_)
      have w_v13 := ((t_v13 (Or.inl (by simp [Tb]))).trans ((Sρ12.w3 (by first | assumption | decide | exact xs_ (by decide) | exact xc_ (by decide) | exact x31_ (by decide) | omega) (by first | assumption | decide | exact xs_ (by decide) | exact xc_ (by decide) | exact x31_ (by decide) | omega)).trans ((mu_ne (by first | assumption | decide | exact xs_ (by decide) | exact xc_ (by decide) | exact x31_ (by decide) | omega)).trans ((mu_ne (by first | assumption | decide | exact xs_ (by decide) | exact xc_ (by decide) | exact x31_ (by decide) | omega)).trans (mu_self _ _ _ _ _))))).symm
      subst w_v13
      refine y_iret hK rfl dX6_watch_77 ?_
      have hM : wtM V v l w b = (mu (mu (mu (mu (mu (mu V 12 v 0 l) 12 v 1 w) 12 v 2 b) 12 v 3 (rc1 V l w b)) 12 v 4 0) 12 v 5 (-1)) := by
        exact if_pos (by first | assumption | decide | exact xs_ (by decide) | exact xc_ (by decide) | exact x31_ (by decide) | omega)
      have hRr : wtR V v l w b = (rc1 V l w b) := by
        exact if_pos (by first | assumption | decide | exact xs_ (by decide) | exact xc_ (by decide) | exact x31_ (by decide) | omega)
      rw [hM] at k
      rw [hRr] at k
      exact k _ ⟨Sρ12, Kρ12, Fρ12⟩
    · unfold lwC opV at h4
      have n_h4 := numF_rng (V 7 l 2)
      refine r_if_ne (tgt := 21) hC dX6_watch_16 rfl (fun h14 => by omega) (fun h14 => ?_)
      refine r_iconst hC dX6_watch_19 rfl ?_
      refine y_iret hK rfl dX6_watch_20 ?_
      have hM : wtM V v l w b = V := by
        exact if_neg (by first | assumption | decide | exact xs_ (by decide) | exact xc_ (by decide) | exact x31_ (by decide) | omega)
      have hRr : wtR V v l w b = (-1) := by
        exact if_neg (by first | assumption | decide | exact xs_ (by decide) | exact xc_ (by decide) | exact x31_ (by decide) | omega)
      rw [hM] at k
      rw [hRr] at k
      exact k _ ⟨hR.1, hR.2.1, hR.2.2⟩
  · refine r_if_eq (tgt := 19) hC dX6_watch_7 rfl (fun h15 => ?_) (fun h15 => by omega)
    refine r_iconst hC dX6_watch_19 rfl ?_
    refine y_iret hK rfl dX6_watch_20 ?_
    have hM : wtM V v l w b = V := by
      exact if_neg (by first | assumption | decide | exact xs_ (by decide) | exact xc_ (by decide) | exact x31_ (by decide) | omega)
    have hRr : wtR V v l w b = (-1) := by
      exact if_neg (by first | assumption | decide | exact xs_ (by decide) | exact xc_ (by decide) | exact x31_ (by decide) | omega)
    rw [hM] at k
    rw [hRr] at k
    exact k _ ⟨hR.1, hR.2.1, hR.2.2⟩
theorem y_shut {eb : Bool} {t : Int} {V : Mm} {d : Nat} {P : Option Vl → Mm → Prop} {σ : Mm} {l : Int}  {σ0 : Mm} (ht : 6 ≤ t ∧ t ≤ 7) (hR : RS t σ0 V σ) (hG : GI V)  (k : ∀ ρ : Mm, RS t σ0 (shM V l) ρ → P (some (vI (shR V l))) ρ) : WT (true, eb, true) (d + 3) 176 [vR 30 0, vI l] σ P := by
  refine WT_in fun K hK => ?_
  have hK : StpY (true, eb, true) cX6_shut RX6 (some .boolean) (WT (true, eb, true) (d + 2)) P K := hK
  have hM := hK.1
  have hC := hK.1.1
  show K 0 [some (vR 30 0), some (vI l)] [] σ
  refine r_rngz hC (fun g0 => ?_)
  have r_l : -2147483648 ≤ l ∧ l ≤ 2147483647 := inR_le (g0 (vI l) (by simp))
  refine r_aload_n hC dX6_shut_0 rfl ?_
  refine r_iload_n hC dX6_shut_1 rfl ?_
  refine z_inv1 hM dX6_shut_2 vl_RX6_124 rfl rfl rfl (Nat.le_of_ble_eq_true rfl) (Nat.le_of_ble_eq_true rfl) ?_
  refine y_isLane (V := V) ht ⟨hR.1, hR.2.1, hR.2.2⟩ (fun h1 => ?_) (fun h1 => ?_)
  · unfold opV at h1
    refine r_if_ne (tgt := 10) hC dX6_shut_5 rfl (fun h2 => ?_) (fun h2 => by omega)
    refine r_aload_n hC dX6_shut_10 rfl ?_
    refine r_iload_n hC dX6_shut_11 rfl ?_
    refine r_iconst hC dX6_shut_12 rfl ?_
    refine r_iconst hC dX6_shut_13 rfl ?_
    refine z_inv3 hM dX6_shut_14 vl_RX6_173 rfl rfl rfl (Nat.le_of_ble_eq_true rfl) (Nat.le_of_ble_eq_true rfl) ?_
    refine y_set (by first | assumption | decide | exact xs_ (by decide) | exact xc_ (by decide) | exact x31_ (by decide) | omega) (by first | assumption | decide | exact xs_ (by decide) | exact xc_ (by decide) | exact x31_ (by decide) | omega) ⟨fun h => by omega, fun h => by omega⟩ ?_
    obtain ⟨ρ3, e_ρ3⟩ : ∃ zz_, zz_ = mu σ 31 0 ((22 * l) + 0) 0 := ⟨_, rfl⟩
    rw [← e_ρ3]
    have Sρ3 : SB t σ0 (mu V 7 l 1 0) ρ3 := by rw [e_ρ3, show ((22 * l) + 0) = 22 * l + 0 from by omega]; exact hR.1.p7 (by first | assumption | decide | exact xs_ (by decide) | exact xc_ (by decide) | exact x31_ (by decide) | omega) (by first | assumption | decide | exact xs_ (by decide) | exact xc_ (by decide) | exact x31_ (by decide) | omega) (by first | assumption | decide | exact xs_ (by decide) | exact xc_ (by decide) | exact x31_ (by decide) | omega)
    have Kρ3 : KF t (mu V 7 l 1 0) ρ3 := by rw [e_ρ3]; exact (hR.2.1).e (fun l a b => ⟨mu_ne (by first | assumption | decide | exact xs_ (by decide) | exact xc_ (by decide) | exact x31_ (by decide) | omega), mu_ne (by first | assumption | decide | exact xs_ (by decide) | exact xc_ (by decide) | exact x31_ (by decide) | omega)⟩) |>.v (fun l => mu_ne (by first | assumption | decide | exact xs_ (by decide) | exact xc_ (by decide) | exact x31_ (by decide) | omega))
    have Fρ3 : FB (mu V 7 l 1 0) ρ3 := by rw [e_ρ3]; exact (hR.2.2).e (fun l a b => mu_ne (by first | assumption | decide | exact xs_ (by decide) | exact xc_ (by decide) | exact x31_ (by decide) | omega)) |>.v (fun l y a b c => mu_ne (by first | assumption | decide | exact xs_ (by decide) | exact xc_ (by decide) | exact x31_ (by decide) | omega))
    refine r_aload_n hC dX6_shut_17 rfl ?_
    refine r_iload_n hC dX6_shut_18 rfl ?_
    refine z_inv1 hM dX6_shut_19 vl_RX6_176 rfl rfl rfl (Nat.le_of_ble_eq_true rfl) (Nat.le_of_ble_eq_true rfl) ?_
    refine y_endWatches (V := (mu V 7 l 1 0)) (by first | assumption | decide | exact xs_ (by decide) | exact xc_ (by decide) | exact x31_ (by decide) | omega) ht ⟨Sρ3, Kρ3, Fρ3⟩ (fun ρ4 Rρ4 => ?_)
    refine r_aload_n hC dX6_shut_22 rfl ?_
    refine r_iload_n hC dX6_shut_23 rfl ?_
    refine z_inv1 hM dX6_shut_24 vl_RX6_179 rfl rfl rfl (Nat.le_of_ble_eq_true rfl) (Nat.le_of_ble_eq_true rfl) ?_
    refine y_endLinks (V := (etA (mu V 7 l 1 0) l 8)) (by first | assumption | decide | exact xs_ (by decide) | exact xc_ (by decide) | exact x31_ (by decide) | omega) ht ⟨Rρ4.1, Rρ4.2.1, Rρ4.2.2⟩ (fun ρ5 Rρ5 => ?_)
    refine r_iconst hC dX6_shut_27 rfl ?_
    refine y_zret hK rfl dX6_shut_28 (by first | assumption | decide | exact xs_ (by decide) | exact xc_ (by decide) | exact x31_ (by decide) | omega) ?_
    have hM : shM V l = (etB (etA (mu V 7 l 1 0) l 8) l 4) := by
      exact if_pos (by first | assumption | decide | exact xs_ (by decide) | exact xc_ (by decide) | exact x31_ (by decide) | omega)
    have hRr : shR V l = 1 := by
      exact if_pos (by first | assumption | decide | exact xs_ (by decide) | exact xc_ (by decide) | exact x31_ (by decide) | omega)
    rw [hM] at k
    rw [hRr] at k
    exact k _ ⟨Rρ5.1, Rρ5.2.1, Rρ5.2.2⟩
  · unfold opV at h1
    refine r_if_ne (tgt := 10) hC dX6_shut_5 rfl (fun h6 => by omega) (fun h6 => ?_)
    refine r_iconst hC dX6_shut_8 rfl ?_
    refine y_zret hK rfl dX6_shut_9 (by first | assumption | decide | exact xs_ (by decide) | exact xc_ (by decide) | exact x31_ (by decide) | omega) ?_
    have hM : shM V l = V := by
      exact if_neg (by first | assumption | decide | exact xs_ (by decide) | exact xc_ (by decide) | exact x31_ (by decide) | omega)
    have hRr : shR V l = 0 := by
      exact if_neg (by first | assumption | decide | exact xs_ (by decide) | exact xc_ (by decide) | exact x31_ (by decide) | omega)
    rw [hM] at k
    rw [hRr] at k
    exact k _ ⟨hR.1, hR.2.1, hR.2.2⟩
theorem y_isUsed {eb : Bool} {t : Int} {V : Mm} {d : Nat} {P : Option Vl → Mm → Prop} {σ : Mm} {o : Int}  {σ0 : Mm} (ht : 6 ≤ t ∧ t ≤ 7) (hR : RS t σ0 V σ)  (k1 : usV V o → P (some (vI 1)) σ) (k0 : ¬ usV V o → P (some (vI 0)) σ) : WT (true, eb, true) (d + 2) 142 [vR 30 0, vI o] σ P := by
  refine WT_in fun K hK => ?_
  have hK : StpY (true, eb, true) cX6_isUsed RX6 (some .boolean) (WT (true, eb, true) (d + 1)) P K := hK
  have hM := hK.1
  have hC := hK.1.1
  show K 0 [some (vR 30 0), some (vI o), none] [] σ
  refine r_rngz hC (fun g0 => ?_)
  have r_o : -2147483648 ≤ o ∧ o ≤ 2147483647 := inR_le (g0 (vI o) (by simp))
  refine r_iconst hC dX6_isUsed_0 rfl ?_
  refine r_istore_n hC dX6_isUsed_1 rfl ?_
  have L2 : ∀ (n2 : Nat) (w1 : Int), 0 ≤ w1 ∧ w1 ≤ 7 → (∀ j : Int, 0 ≤ j → j < (w1) → ¬ (V 7 j 1 = 1 ∧ V 7 j 2 = o)) → 7 - w1 < (n2 : Int) → K 2 [some (vR 30 0), some (vI o), some (vI w1)] [] σ := by
    intro n2
    induction n2 with
    | zero => intro w1  f_w1 i0_2 hm  ; omega
    | succ n2 ih2 =>
      intro w1  f_w1 i0_2 hm2  
      refine r_iload_n hC dX6_isUsed_2 rfl ?_
      refine r_bipush hC dX6_isUsed_3 rfl ?_
      refine r_icmp_ge (tgt := 36) hC dX6_isUsed_5 rfl (fun h2 => ?_) (fun h2 => ?_)
      · refine r_iconst hC dX6_isUsed_36 rfl ?_
        refine y_zret hK rfl dX6_isUsed_37 (by first | assumption | decide | exact xs_ (by decide) | exact xc_ (by decide) | exact x31_ (by decide) | omega) ?_
        exact k0 (by rintro ⟨j, j0, j1, j2⟩; exact i0_2 j j0.1 (by first | assumption | decide | exact xs_ (by decide) | exact xc_ (by decide) | exact x31_ (by decide) | omega) ⟨j1, j2⟩)
      · refine r_aload_n hC dX6_isUsed_8 rfl ?_
        refine r_iload_n hC dX6_isUsed_9 rfl ?_
        refine r_iconst hC dX6_isUsed_10 rfl ?_
        refine z_inv2 hM dX6_isUsed_11 vl_RX6_80 rfl rfl rfl (Nat.le_of_ble_eq_true rfl) (Nat.le_of_ble_eq_true rfl) ?_
        refine y_of (by first | assumption | decide | exact xs_ (by decide) | exact xc_ (by decide) | exact x31_ (by decide) | omega) (by first | assumption | decide | exact xs_ (by decide) | exact xc_ (by decide) | exact x31_ (by decide) | omega) (by first | assumption | decide | exact xs_ (by decide) | exact xc_ (by decide) | exact x31_ (by decide) | omega) (fun o3 => ?_)
        have e4 : σ 31 0 (22 * w1 + 0) = (V 7 w1 1) := (hR.1.a7 (s := 1) (f := 0) (by first | assumption | decide | exact xs_ (by decide) | exact xc_ (by decide) | exact x31_ (by decide) | omega) (by first | assumption | decide | exact xs_ (by decide) | exact xc_ (by decide) | exact x31_ (by decide) | omega) (by first | assumption | decide | exact xs_ (by decide) | exact xc_ (by decide) | exact x31_ (by decide) | omega)).trans (rfl)
        rw [e4] at o3 ⊢
        have qo3 : 0 ≤ (V 7 w1 1) ∧ (V 7 w1 1) ≤ 1 := by have := o3.2 (by first | assumption | decide | exact xs_ (by decide) | exact xc_ (by decide) | exact x31_ (by decide) | omega); omega
        refine r_iconst hC dX6_isUsed_14 rfl ?_
        refine r_icmp_ne (tgt := 30) hC dX6_isUsed_15 rfl (fun h5 => ?_) (fun h5 => ?_)
        · refine r_iincE hC ((w1 + 1)) dX6_isUsed_30 rfl rfl (by first | assumption | decide | exact xs_ (by decide) | exact xc_ (by decide) | exact x31_ (by decide) | omega) (by unfold inR; omega) ?_
          refine r_goto (tgt := 2) hC dX6_isUsed_33 rfl ?_
          exact ih2 ((w1 + 1))  (by first | assumption | decide | exact xs_ (by decide) | exact xc_ (by decide) | exact x31_ (by decide) | omega) (by intro j h0 h1; first | omega | (rcases (by omega : j < w1 ∨ j = w1) with h | h; exact i0_2 j h0 h; subst h; omega)) (by first | assumption | decide | exact xs_ (by decide) | exact xc_ (by decide) | exact x31_ (by decide) | omega)  
        · refine r_aload_n hC dX6_isUsed_18 rfl ?_
          refine r_iload_n hC dX6_isUsed_19 rfl ?_
          refine r_iconst hC dX6_isUsed_20 rfl ?_
          refine z_inv2 hM dX6_isUsed_21 vl_RX6_80 rfl rfl rfl (Nat.le_of_ble_eq_true rfl) (Nat.le_of_ble_eq_true rfl) ?_
          refine y_of (by first | assumption | decide | exact xs_ (by decide) | exact xc_ (by decide) | exact x31_ (by decide) | omega) (by first | assumption | decide | exact xs_ (by decide) | exact xc_ (by decide) | exact x31_ (by decide) | omega) (by first | assumption | decide | exact xs_ (by decide) | exact xc_ (by decide) | exact x31_ (by decide) | omega) (fun o6 => ?_)
          have e7 : σ 31 0 (22 * w1 + 1) = (V 7 w1 2) := (hR.1.a7 (s := 2) (f := 1) (by first | assumption | decide | exact xs_ (by decide) | exact xc_ (by decide) | exact x31_ (by decide) | omega) (by first | assumption | decide | exact xs_ (by decide) | exact xc_ (by decide) | exact x31_ (by decide) | omega) (by first | assumption | decide | exact xs_ (by decide) | exact xc_ (by decide) | exact x31_ (by decide) | omega)).trans (rfl)
          rw [e7] at o6 ⊢
          refine r_iload_n hC dX6_isUsed_24 rfl ?_
          refine r_icmp_ne (tgt := 30) hC dX6_isUsed_25 rfl (fun h8 => ?_) (fun h8 => ?_)
          · refine r_iincE hC ((w1 + 1)) dX6_isUsed_30 rfl rfl (by first | assumption | decide | exact xs_ (by decide) | exact xc_ (by decide) | exact x31_ (by decide) | omega) (by unfold inR; omega) ?_
            refine r_goto (tgt := 2) hC dX6_isUsed_33 rfl ?_
            exact ih2 ((w1 + 1))  (by first | assumption | decide | exact xs_ (by decide) | exact xc_ (by decide) | exact x31_ (by decide) | omega) (by intro j h0 h1; first | omega | (rcases (by omega : j < w1 ∨ j = w1) with h | h; exact i0_2 j h0 h; subst h; omega)) (by first | assumption | decide | exact xs_ (by decide) | exact xc_ (by decide) | exact x31_ (by decide) | omega)  
          · refine r_iconst hC dX6_isUsed_28 rfl ?_
            refine y_zret hK rfl dX6_isUsed_29 (by first | assumption | decide | exact xs_ (by decide) | exact xc_ (by decide) | exact x31_ (by decide) | omega) ?_
            exact k1 ⟨w1, by omega, by omega, by omega⟩
  exact L2 9 (0)  (by first | assumption | decide | exact xs_ (by decide) | exact xc_ (by decide) | exact x31_ (by decide) | omega) (by intro j h0 h1; first | omega | (rcases (by omega : j < w1 ∨ j = w1) with h | h; exact i0_2 j h0 h; subst h; omega)) (by first | assumption | decide | exact xs_ (by decide) | exact xc_ (by decide) | exact x31_ (by decide) | omega)  
theorem y_table {eb : Bool} {t : Int} {V : Mm} {d : Nat} {P : Option Vl → Mm → Prop} {σ : Mm} {x y : Int}  {σ0 : Mm} (ht : 6 ≤ t ∧ t ≤ 7) (hR : RS t σ0 V σ)  (k1 : ((0 ≤ x ∧ x ≤ 15) ∧ 0 ≤ y ∧ y ≤ 3) ∧ ¬ usV V 9 → ∀ ρ : Mm, RS t σ0 (mu V 15 0 x y) ρ → P (some (vI 1)) ρ) (k0 : ¬ (((0 ≤ x ∧ x ≤ 15) ∧ 0 ≤ y ∧ y ≤ 3) ∧ ¬ usV V 9) → ∀ ρ : Mm, RS t σ0 V ρ → P (some (vI 0)) ρ) : WT (true, eb, true) (d + 3) 143 [vR 30 0, vI x, vI y] σ P := by
  refine WT_in fun K hK => ?_
  have hK : StpY (true, eb, true) cX6_table RX6 (some .boolean) (WT (true, eb, true) (d + 2)) P K := hK
  have hM := hK.1
  have hC := hK.1.1
  show K 0 [some (vR 30 0), some (vI x), some (vI y)] [] σ
  refine r_rngz hC (fun g0 => ?_)
  have r_x : -2147483648 ≤ x ∧ x ≤ 2147483647 := inR_le (g0 (vI x) (by simp))
  have r_y : -2147483648 ≤ y ∧ y ≤ 2147483647 := inR_le (g0 (vI y) (by simp))
  refine r_iload_n hC dX6_table_0 rfl ?_
  refine r_iconst hC dX6_table_1 rfl ?_
  refine r_bipush hC dX6_table_2 rfl ?_
  refine z_ins3 hM dX6_table_4 tl_RX6_76 rfl (Nat.le_of_ble_eq_true rfl) (Nat.le_of_ble_eq_true rfl) ?_
  refine m_isIn (fun h2 => ?_) (fun h2 => ?_)
  · refine r_if_eq (tgt := 28) hC dX6_table_7 rfl (fun h3 => by omega) (fun h3 => ?_)
    refine r_iload_n hC dX6_table_10 rfl ?_
    refine r_iconst hC dX6_table_11 rfl ?_
    refine r_iconst hC dX6_table_12 rfl ?_
    refine z_ins3 hM dX6_table_13 tl_RX6_76 rfl (Nat.le_of_ble_eq_true rfl) (Nat.le_of_ble_eq_true rfl) ?_
    refine m_isIn (fun h5 => ?_) (fun h5 => ?_)
    · refine r_if_eq (tgt := 28) hC dX6_table_16 rfl (fun h6 => by omega) (fun h6 => ?_)
      refine r_aload_n hC dX6_table_19 rfl ?_
      refine r_bipush hC dX6_table_20 rfl ?_
      refine z_inv1 hM dX6_table_22 vl_RX6_84 rfl rfl rfl (Nat.le_of_ble_eq_true rfl) (Nat.le_of_ble_eq_true rfl) ?_
      refine y_isUsed (V := V) ht ⟨hR.1, hR.2.1, hR.2.2⟩ (fun hus => ?_) (fun hus => ?_)
      · refine r_if_eq (tgt := 30) hC dX6_table_25 rfl (fun h7 => by omega) (fun h7 => ?_)
        refine r_iconst hC dX6_table_28 rfl ?_
        refine y_zret hK rfl dX6_table_29 (by first | assumption | decide | exact xs_ (by decide) | exact xc_ (by decide) | exact x31_ (by decide) | omega) ?_
        exact k0 (fun q => by have q1 := q.1; first | omega | exact q.2 hus) _ ⟨hR.1, hR.2.1, hR.2.2⟩
      · refine r_if_eq (tgt := 30) hC dX6_table_25 rfl (fun h8 => ?_) (fun h8 => by omega)
        refine r_aload_n hC dX6_table_30 rfl ?_
        refine z_getR hM dX6_table_31 fl_RX6_22 rfl rfl (vld_of (n := 1) rfl (by first | assumption | decide | exact xs_ (by decide) | exact xc_ (by decide) | exact x31_ (by decide) | omega) (by first | assumption | decide | exact xs_ (by decide) | exact xc_ (by decide) | exact x31_ (by decide) | omega)) ?_
        refine r_iload_n hC dX6_table_34 rfl ?_
        refine r_iload_n hC dX6_table_35 rfl ?_
        refine z_iastT hM dX6_table_36 rfl (by first | assumption | decide | exact xs_ (by decide) | exact xc_ (by decide) | exact x31_ (by decide) | omega) (by first | assumption | decide | exact xs_ (by decide) | exact xc_ (by decide) | exact x31_ (by decide) | omega) ⟨Or.inr (by simp [DL]), Or.inr (by simp [DF])⟩ (by first | trivial | (simp only [Okv]; omega) | (simp [Okv]; try omega)) ?_
        obtain ⟨ρ9, e_ρ9⟩ : ∃ zz_, zz_ = mu σ 35 0 x y := ⟨_, rfl⟩
        rw [← e_ρ9]
        have Sρ9 : SB t σ0 (mu V 15 0 x y) ρ9 := by rw [e_ρ9]; exact hR.1.p15 (by first | assumption | decide | exact xs_ (by decide) | exact xc_ (by decide) | exact x31_ (by decide) | omega) (by first | assumption | decide | exact xs_ (by decide) | exact xc_ (by decide) | exact x31_ (by decide) | omega)
        have Kρ9 : KF t (mu V 15 0 x y) ρ9 := by rw [e_ρ9]; exact (hR.2.1).e (fun l a b => ⟨mu_ne (by first | assumption | decide | exact xs_ (by decide) | exact xc_ (by decide) | exact x31_ (by decide) | omega), mu_ne (by first | assumption | decide | exact xs_ (by decide) | exact xc_ (by decide) | exact x31_ (by decide) | omega)⟩) |>.v (fun l => mu_ne (by first | assumption | decide | exact xs_ (by decide) | exact xc_ (by decide) | exact x31_ (by decide) | omega))
        have Fρ9 : FB (mu V 15 0 x y) ρ9 := by rw [e_ρ9]; exact (hR.2.2).e (fun l a b => mu_ne (by first | assumption | decide | exact xs_ (by decide) | exact xc_ (by decide) | exact x31_ (by decide) | omega)) |>.v (fun l y a b c => mu_ne (by first | assumption | decide | exact xs_ (by decide) | exact xc_ (by decide) | exact x31_ (by decide) | omega))
        refine r_iconst hC dX6_table_37 rfl ?_
        refine y_zret hK rfl dX6_table_38 (by first | assumption | decide | exact xs_ (by decide) | exact xc_ (by decide) | exact x31_ (by decide) | omega) ?_
        exact k1 ⟨by omega, hus⟩ _ ⟨Sρ9, Kρ9, Fρ9⟩
    · refine r_if_eq (tgt := 28) hC dX6_table_16 rfl (fun h10 => ?_) (fun h10 => by omega)
      refine r_iconst hC dX6_table_28 rfl ?_
      refine y_zret hK rfl dX6_table_29 (by first | assumption | decide | exact xs_ (by decide) | exact xc_ (by decide) | exact x31_ (by decide) | omega) ?_
      exact k0 (fun q => by have q1 := q.1; first | omega | exact q.2 hus) _ ⟨hR.1, hR.2.1, hR.2.2⟩
  · refine r_if_eq (tgt := 28) hC dX6_table_7 rfl (fun h11 => ?_) (fun h11 => by omega)
    refine r_iconst hC dX6_table_28 rfl ?_
    refine y_zret hK rfl dX6_table_29 (by first | assumption | decide | exact xs_ (by decide) | exact xc_ (by decide) | exact x31_ (by decide) | omega) ?_
    exact k0 (fun q => by have q1 := q.1; first | omega | exact q.2 hus) _ ⟨hR.1, hR.2.1, hR.2.2⟩
theorem y_letter {eb : Bool} {t : Int} {V : Mm} {d : Nat} {P : Option Vl → Mm → Prop} {σ : Mm} {x y : Int}  {σ0 : Mm} (ht : 6 ≤ t ∧ t ≤ 7) (hR : RS t σ0 V σ)  (k1 : ((0 ≤ x ∧ x ≤ 7) ∧ 0 ≤ y ∧ y ≤ 255) ∧ ¬ usV V 4 → ∀ ρ : Mm, RS t σ0 (mu V 16 0 x y) ρ → P (some (vI 1)) ρ) (k0 : ¬ (((0 ≤ x ∧ x ≤ 7) ∧ 0 ≤ y ∧ y ≤ 255) ∧ ¬ usV V 4) → ∀ ρ : Mm, RS t σ0 V ρ → P (some (vI 0)) ρ) : WT (true, eb, true) (d + 3) 144 [vR 30 0, vI x, vI y] σ P := by
  refine WT_in fun K hK => ?_
  have hK : StpY (true, eb, true) cX6_letter RX6 (some .boolean) (WT (true, eb, true) (d + 2)) P K := hK
  have hM := hK.1
  have hC := hK.1.1
  show K 0 [some (vR 30 0), some (vI x), some (vI y)] [] σ
  refine r_rngz hC (fun g0 => ?_)
  have r_x : -2147483648 ≤ x ∧ x ≤ 2147483647 := inR_le (g0 (vI x) (by simp))
  have r_y : -2147483648 ≤ y ∧ y ≤ 2147483647 := inR_le (g0 (vI y) (by simp))
  refine r_iload_n hC dX6_letter_0 rfl ?_
  refine r_iconst hC dX6_letter_1 rfl ?_
  refine r_bipush hC dX6_letter_2 rfl ?_
  refine z_ins3 hM dX6_letter_4 tl_RX6_76 rfl (Nat.le_of_ble_eq_true rfl) (Nat.le_of_ble_eq_true rfl) ?_
  refine m_isIn (fun h2 => ?_) (fun h2 => ?_)
  · refine r_if_eq (tgt := 29) hC dX6_letter_7 rfl (fun h3 => by omega) (fun h3 => ?_)
    refine r_iload_n hC dX6_letter_10 rfl ?_
    refine r_iconst hC dX6_letter_11 rfl ?_
    refine r_sipush hC dX6_letter_12 rfl ?_
    refine z_ins3 hM dX6_letter_15 tl_RX6_76 rfl (Nat.le_of_ble_eq_true rfl) (Nat.le_of_ble_eq_true rfl) ?_
    refine m_isIn (fun h5 => ?_) (fun h5 => ?_)
    · refine r_if_eq (tgt := 29) hC dX6_letter_18 rfl (fun h6 => by omega) (fun h6 => ?_)
      refine r_aload_n hC dX6_letter_21 rfl ?_
      refine r_iconst hC dX6_letter_22 rfl ?_
      refine z_inv1 hM dX6_letter_23 vl_RX6_84 rfl rfl rfl (Nat.le_of_ble_eq_true rfl) (Nat.le_of_ble_eq_true rfl) ?_
      refine y_isUsed (V := V) ht ⟨hR.1, hR.2.1, hR.2.2⟩ (fun hus => ?_) (fun hus => ?_)
      · refine r_if_eq (tgt := 31) hC dX6_letter_26 rfl (fun h7 => by omega) (fun h7 => ?_)
        refine r_iconst hC dX6_letter_29 rfl ?_
        refine y_zret hK rfl dX6_letter_30 (by first | assumption | decide | exact xs_ (by decide) | exact xc_ (by decide) | exact x31_ (by decide) | omega) ?_
        exact k0 (fun q => by have q1 := q.1; first | omega | exact q.2 hus) _ ⟨hR.1, hR.2.1, hR.2.2⟩
      · refine r_if_eq (tgt := 31) hC dX6_letter_26 rfl (fun h8 => ?_) (fun h8 => by omega)
        refine r_aload_n hC dX6_letter_31 rfl ?_
        refine z_getR hM dX6_letter_32 fl_RX6_25 rfl rfl (vld_of (n := 1) rfl (by first | assumption | decide | exact xs_ (by decide) | exact xc_ (by decide) | exact x31_ (by decide) | omega) (by first | assumption | decide | exact xs_ (by decide) | exact xc_ (by decide) | exact x31_ (by decide) | omega)) ?_
        refine r_iload_n hC dX6_letter_35 rfl ?_
        refine r_iload_n hC dX6_letter_36 rfl ?_
        refine z_iastT hM dX6_letter_37 rfl (by first | assumption | decide | exact xs_ (by decide) | exact xc_ (by decide) | exact x31_ (by decide) | omega) (by first | assumption | decide | exact xs_ (by decide) | exact xc_ (by decide) | exact x31_ (by decide) | omega) ⟨Or.inr (by simp [DL]), Or.inr (by simp [DF])⟩ (by first | trivial | (simp only [Okv]; omega) | (simp [Okv]; try omega)) ?_
        obtain ⟨ρ9, e_ρ9⟩ : ∃ zz_, zz_ = mu σ 36 0 x y := ⟨_, rfl⟩
        rw [← e_ρ9]
        have Sρ9 : SB t σ0 (mu V 16 0 x y) ρ9 := by rw [e_ρ9]; exact hR.1.p16 (by first | assumption | decide | exact xs_ (by decide) | exact xc_ (by decide) | exact x31_ (by decide) | omega) (by first | assumption | decide | exact xs_ (by decide) | exact xc_ (by decide) | exact x31_ (by decide) | omega)
        have Kρ9 : KF t (mu V 16 0 x y) ρ9 := by rw [e_ρ9]; exact (hR.2.1).e (fun l a b => ⟨mu_ne (by first | assumption | decide | exact xs_ (by decide) | exact xc_ (by decide) | exact x31_ (by decide) | omega), mu_ne (by first | assumption | decide | exact xs_ (by decide) | exact xc_ (by decide) | exact x31_ (by decide) | omega)⟩) |>.v (fun l => mu_ne (by first | assumption | decide | exact xs_ (by decide) | exact xc_ (by decide) | exact x31_ (by decide) | omega))
        have Fρ9 : FB (mu V 16 0 x y) ρ9 := by rw [e_ρ9]; exact (hR.2.2).e (fun l a b => mu_ne (by first | assumption | decide | exact xs_ (by decide) | exact xc_ (by decide) | exact x31_ (by decide) | omega)) |>.v (fun l y a b c => mu_ne (by first | assumption | decide | exact xs_ (by decide) | exact xc_ (by decide) | exact x31_ (by decide) | omega))
        refine r_iconst hC dX6_letter_38 rfl ?_
        refine y_zret hK rfl dX6_letter_39 (by first | assumption | decide | exact xs_ (by decide) | exact xc_ (by decide) | exact x31_ (by decide) | omega) ?_
        exact k1 ⟨by omega, hus⟩ _ ⟨Sρ9, Kρ9, Fρ9⟩
    · refine r_if_eq (tgt := 29) hC dX6_letter_18 rfl (fun h10 => ?_) (fun h10 => by omega)
      refine r_iconst hC dX6_letter_29 rfl ?_
      refine y_zret hK rfl dX6_letter_30 (by first | assumption | decide | exact xs_ (by decide) | exact xc_ (by decide) | exact x31_ (by decide) | omega) ?_
      exact k0 (fun q => by have q1 := q.1; first | omega | exact q.2 hus) _ ⟨hR.1, hR.2.1, hR.2.2⟩
  · refine r_if_eq (tgt := 29) hC dX6_letter_7 rfl (fun h11 => ?_) (fun h11 => by omega)
    refine r_iconst hC dX6_letter_29 rfl ?_
    refine y_zret hK rfl dX6_letter_30 (by first | assumption | decide | exact xs_ (by decide) | exact xc_ (by decide) | exact x31_ (by decide) | omega) ?_
    exact k0 (fun q => by have q1 := q.1; first | omega | exact q.2 hus) _ ⟨hR.1, hR.2.1, hR.2.2⟩
-- B: what is asked of a LANE
def evR (V : Mm) (l x w : Int) : Int := if evC V l x then (if w = 0 then V 8 l x else if w = 1 then V 9 l x else if w = 2 then V 10 l x else -2147483648) else -2147483648
def ptV (V : Mm) (l f z w : Int) : Int := cm (V 16 0) (V 15 0) (V 7 l 2) (fun j => V 9 l (f + j)) (z - f).toNat w
def ttR (V : Mm) (l w : Int) : Int := if lwC V l w then ptV V l 0 (V 7 l 6) w else -2147483648
def laR (V : Mm) (l h w : Int) : Int := if 0 ≤ h ∧ h ≤ 2 then ttR V l w else -2147483648
def ptR (V : Mm) (l f z w : Int) : Int := if lwC V l w ∧ 0 ≤ f ∧ f ≤ z ∧ z < V 7 l 6 then ptV V l f (z + 1) w else -2147483648
def duR (V : Mm) (l f z w : Int) : Int := if lwC V l w then ptV V l (hU V l (f - 1)) (hU V l z) w else -2147483648
def mnR (V : Mm) (l f z : Int) : Int := if opV V l then max 0 (hU V l z - hU V l (f - 1)) else -1
def stR (V : Mm) (l w : Int) : Int := if opV V l then (if w = 0 then V 11 l 0 else if w = 1 then V 11 l 1 else if w = 2 then V 11 l 2 else if w = 3 then V 11 l 3 else if w = 4 then V 11 l 4 else if w = 5 then V 11 l 5 else if w = 6 then V 11 l 6 else -1) else -1
def soR (V : Mm) (l w : Int) : Int := if opV V l then (if w = 0 then (if 0 < V 11 l 3 then -1 else V 11 l 0 + 1 - V 11 l 2) else if w = 1 then (if 0 < V 11 l 3 then (V 11 l 3 + 2) / 3 else -1) else -1) else -1
def lkR (V : Mm) (l w : Int) : Int := if ulC V l then (if w = 0 then V 13 l 0 else if w = 1 then V 13 l 1 else if w = 2 then V 13 l 2 else if w = 3 then V 13 l 3 else -1) else -1
abbrev wtd (V : Mm) (v : Int) : Prop := (0 ≤ v ∧ v ≤ 7) ∧ V 12 v 0 ≠ -1
def riR (V : Mm) (v : Int) : Int := if wtd V v then V 12 v 4 else -1
def raR (V : Mm) (v : Int) : Int := if wtd V v then V 12 v 5 else -1
-- B: the class: what is asked of a LANE
theorem x_event {ec : Bool} {d : Nat} {P : Option Vl → Mm → Prop} {σ : Mm} {l x w : Int}  (hh : ∀ l : Int, 0 ≤ l → l ≤ 3 → 0 ≤ σ 7 l 6 ∧ σ 7 l 6 ≤ 120)  (k : P (some (vI (evR σ l x w))) σ) : WT (true, false, ec) (d + 5) 72 [vR 2 0, vI l, vI x, vI w] σ P := by
  refine WT_in fun K hK => ?_
  have hK : StpY (true, false, ec) cX5_event RX5 (some .int) (WT (true, false, ec) (d + 4)) P K := hK
  have hM := hK.1
  have hC := hK.1.1
  show K 0 [some (vR 2 0), some (vI l), some (vI x), some (vI w), none] [] σ
  refine r_rngz hC (fun g0 => ?_)
  have r_l : -2147483648 ≤ l ∧ l ≤ 2147483647 := inR_le (g0 (vI l) (by simp))
  have r_x : -2147483648 ≤ x ∧ x ≤ 2147483647 := inR_le (g0 (vI x) (by simp))
  have r_w : -2147483648 ≤ w ∧ w ≤ 2147483647 := inR_le (g0 (vI w) (by simp))
  have h6L := hh l
  refine r_aload_n hC dX5_event_0 rfl ?_
  refine r_iload_n hC dX5_event_1 rfl ?_
  refine r_iload_n hC dX5_event_2 rfl ?_
  refine z_inv2 hM dX5_event_3 vl_RX5_171 rfl rfl rfl (Nat.le_of_ble_eq_true rfl) (Nat.le_of_ble_eq_true rfl) ?_
  refine x_laneHolding (fun h1 => ?_) (fun h1 => ?_)
  · refine r_astore hC dX5_event_6 rfl ?_
    refine r_aload hC dX5_event_8 rfl ?_
    refine r_ifnonnullR (tgt := 16) hC dX5_event_10 rfl ?_
    refine r_iload_n hC dX5_event_16 rfl ?_
    rcases (by omega : (w < 0 ∨ 2 < w) ∨ w = 0 ∨ w = 1 ∨ w = 2) with h2 | h2 | h2 | h2
    · refine r_tableOut (tgt := 68) hC dX5_event_17 h2 rfl ?_
      refine r_ldc hC dX5_event_68 co_RX5_175 rfl ?_
      refine y_iret hK rfl dX5_event_70 ?_
      have hR : evR σ l x w = (-2147483648) := by
        unfold evR
        (repeat' split) <;> first | rfl | omega
      rw [hR] at k
      exact k
    · refine r_tableIn (tgt := 44) (off := 27) hC dX5_event_17 (by omega) (by omega) (by rw [h2]; rfl) rfl ?_
      refine r_aload hC dX5_event_44 rfl ?_
      refine z_getR hM dX5_event_46 fl_RX5_198 rfl rfl (vld_of (n := 7) rfl (by omega) (by omega)) ?_
      refine r_iload_n hC dX5_event_49 rfl ?_
      refine z_iald hM dX5_event_50 rfl (by omega) (by omega) (fun v3 h_v3 o_v3 t_v3 => ?_)
      have w_v3 := ((t_v3 (Or.inl (by simp [Tb]))).trans (rfl)).symm
      subst w_v3
      refine y_iret hK rfl dX5_event_51 ?_
      have hR : evR σ l x w = (σ 8 l x) := by
        unfold evR
        (repeat' split) <;> first | rfl | omega
      rw [hR] at k
      exact k
    · refine r_tableIn (tgt := 52) (off := 35) hC dX5_event_17 (by omega) (by omega) (by rw [h2]; rfl) rfl ?_
      refine r_aload hC dX5_event_52 rfl ?_
      refine z_getR hM dX5_event_54 fl_RX5_176 rfl rfl (vld_of (n := 7) rfl (by omega) (by omega)) ?_
      refine r_iload_n hC dX5_event_57 rfl ?_
      refine z_iald hM dX5_event_58 rfl (by omega) (by omega) (fun v4 h_v4 o_v4 t_v4 => ?_)
      have w_v4 := ((t_v4 (Or.inl (by simp [Tb]))).trans (rfl)).symm
      subst w_v4
      have q_v4 : -1000 ≤ (σ 9 l x) ∧ (σ 9 l x) ≤ 1000 := o_v4
      refine y_iret hK rfl dX5_event_59 ?_
      have hR : evR σ l x w = (σ 9 l x) := by
        unfold evR
        (repeat' split) <;> first | rfl | omega
      rw [hR] at k
      exact k
    · refine r_tableIn (tgt := 60) (off := 43) hC dX5_event_17 (by omega) (by omega) (by rw [h2]; rfl) rfl ?_
      refine r_aload hC dX5_event_60 rfl ?_
      refine z_getR hM dX5_event_62 fl_RX5_245 rfl rfl (vld_of (n := 7) rfl (by omega) (by omega)) ?_
      refine r_iload_n hC dX5_event_65 rfl ?_
      refine z_iald hM dX5_event_66 rfl (by omega) (by omega) (fun v5 h_v5 o_v5 t_v5 => ?_)
      have w_v5 := ((t_v5 (Or.inl (by simp [Tb]))).trans (rfl)).symm
      subst w_v5
      refine y_iret hK rfl dX5_event_67 ?_
      have hR : evR σ l x w = (σ 10 l x) := by
        unfold evR
        (repeat' split) <;> first | rfl | omega
      rw [hR] at k
      exact k
  · refine r_astoreN hC dX5_event_6 rfl ?_
    refine r_aloadN hC dX5_event_8 rfl ?_
    refine r_ifnonnullN hC dX5_event_10 ?_
    refine r_ldc hC dX5_event_13 co_RX5_175 rfl ?_
    refine y_iret hK rfl dX5_event_15 ?_
    have hR : evR σ l x w = (-2147483648) := by
      unfold evR
      (repeat' split) <;> first | rfl | omega
    rw [hR] at k
    exact k
theorem x_total {ec : Bool} {d : Nat} {P : Option Vl → Mm → Prop} {σ : Mm} {l w : Int}  (hh : ∀ l : Int, 0 ≤ l → l ≤ 3 → 0 ≤ σ 7 l 6 ∧ σ 7 l 6 ≤ 120)  (k : P (some (vI (ttR σ l w))) σ) : WT (true, false, ec) (d + 6) 73 [vR 2 0, vI l, vI w] σ P := by
  refine WT_in fun K hK => ?_
  have hK : StpY (true, false, ec) cX5_total RX5 (some .int) (WT (true, false, ec) (d + 5)) P K := hK
  have hM := hK.1
  have hC := hK.1.1
  show K 0 [some (vR 2 0), some (vI l), some (vI w), none] [] σ
  refine r_rngz hC (fun g0 => ?_)
  have r_l : -2147483648 ≤ l ∧ l ≤ 2147483647 := inR_le (g0 (vI l) (by simp))
  have r_w : -2147483648 ≤ w ∧ w ≤ 2147483647 := inR_le (g0 (vI w) (by simp))
  have h6L := hh l
  refine r_aload_n hC dX5_total_0 rfl ?_
  refine r_iload_n hC dX5_total_1 rfl ?_
  refine r_iload_n hC dX5_total_2 rfl ?_
  refine z_inv2 hM dX5_total_3 vl_RX5_248 rfl rfl rfl (Nat.le_of_ble_eq_true rfl) (Nat.le_of_ble_eq_true rfl) ?_
  refine x_laneWith (fun h1 => ?_) (fun h1 => ?_)
  · refine r_astore_n hC dX5_total_6 rfl ?_
    refine r_aload_n hC dX5_total_7 rfl ?_
    refine r_ifnonnullR (tgt := 16) hC dX5_total_8 rfl ?_
    refine r_aload_n hC dX5_total_16 rfl ?_
    refine r_aload_n hC dX5_total_17 rfl ?_
    refine r_iconst hC dX5_total_18 rfl ?_
    refine r_aload_n hC dX5_total_19 rfl ?_
    refine z_getI (jz := 6) hM dX5_total_20 fl_RX5_154 rfl rfl rfl (fun v2 h_v2 o_v2 t_v2 => ?_)
    have w_v2 := ((t_v2 (Or.inl (by simp [Tb]))).trans (rfl)).symm
    subst w_v2
    have q_v2 : 0 ≤ (σ 7 l 6) ∧ (σ 7 l 6) ≤ 121 := o_v2.1 rfl
    refine r_iload_n hC dX5_total_23 rfl ?_
    refine z_inv4 hM dX5_total_24 vl_RX5_227 rfl rfl rfl (Nat.le_of_ble_eq_true rfl) (Nat.le_of_ble_eq_true rfl) ?_
    refine x_comesTo (by omega) (by omega) (by omega) ?_
    refine y_iret hK rfl dX5_total_27 ?_
    have hR : ttR σ l w = (cm (σ 16 0) (σ 15 0) (σ 7 l 2) (fun j => σ 9 l (0 + j)) ((σ 7 l 6) - 0).toNat w) := by
      unfold ttR
      first | exact if_neg (by omega) | exact if_pos (by omega)
    rw [hR] at k
    exact k
  · refine r_astoreN_n hC dX5_total_6 rfl ?_
    refine r_aloadN_n hC dX5_total_7 rfl ?_
    refine r_ifnonnullN hC dX5_total_8 ?_
    refine r_ldc hC dX5_total_11 co_RX5_175 rfl ?_
    refine r_goto (tgt := 27) hC dX5_total_13 rfl ?_
    refine y_iret hK rfl dX5_total_27 ?_
    have hR : ttR σ l w = (-2147483648) := by
      unfold ttR
      first | exact if_neg (by omega) | exact if_pos (by omega)
    rw [hR] at k
    exact k
theorem x_law {ec : Bool} {d : Nat} {P : Option Vl → Mm → Prop} {σ : Mm} {l h w : Int}  (hh : ∀ l : Int, 0 ≤ l → l ≤ 3 → 0 ≤ σ 7 l 6 ∧ σ 7 l 6 ≤ 120)  (k : P (some (vI (laR σ l h w))) σ) : WT (true, false, ec) (d + 7) 85 [vR 2 0, vI l, vI h, vI w] σ P := by
  refine WT_in fun K hK => ?_
  have hK : StpY (true, false, ec) cX5_law RX5 (some .int) (WT (true, false, ec) (d + 6)) P K := hK
  have hM := hK.1
  have hC := hK.1.1
  show K 0 [some (vR 2 0), some (vI l), some (vI h), some (vI w)] [] σ
  refine r_rngz hC (fun g0 => ?_)
  have r_l : -2147483648 ≤ l ∧ l ≤ 2147483647 := inR_le (g0 (vI l) (by simp))
  have r_h : -2147483648 ≤ h ∧ h ≤ 2147483647 := inR_le (g0 (vI h) (by simp))
  have r_w : -2147483648 ≤ w ∧ w ≤ 2147483647 := inR_le (g0 (vI w) (by simp))
  refine r_iload_n hC dX5_law_0 rfl ?_
  refine r_iconst hC dX5_law_1 rfl ?_
  refine r_iconst hC dX5_law_2 rfl ?_
  refine z_ins3 hM dX5_law_3 tl_RX5_59 rfl (Nat.le_of_ble_eq_true rfl) (Nat.le_of_ble_eq_true rfl) ?_
  refine s_within (fun h2 => ?_) (fun h2 => ?_)
  · refine r_if_eq (tgt := 18) hC dX5_law_6 rfl (fun h3 => by omega) (fun h3 => ?_)
    refine r_aload_n hC dX5_law_9 rfl ?_
    refine r_iload_n hC dX5_law_10 rfl ?_
    refine r_iload_n hC dX5_law_11 rfl ?_
    refine z_inv2 hM dX5_law_12 vl_RX5_281 rfl rfl rfl (Nat.le_of_ble_eq_true rfl) (Nat.le_of_ble_eq_true rfl) ?_
    refine x_total hh ?_
    refine r_goto (tgt := 20) hC dX5_law_15 rfl ?_
    refine y_iret hK rfl dX5_law_20 ?_
    have hR : laR σ l h w = (ttR σ l w) := by
      unfold laR
      first | exact if_neg (by omega) | exact if_pos (by omega)
    rw [hR] at k
    exact k
  · refine r_if_eq (tgt := 18) hC dX5_law_6 rfl (fun h4 => ?_) (fun h4 => by omega)
    refine r_ldc hC dX5_law_18 co_RX5_175 rfl ?_
    refine y_iret hK rfl dX5_law_20 ?_
    have hR : laR σ l h w = (-2147483648) := by
      unfold laR
      first | exact if_neg (by omega) | exact if_pos (by omega)
    rw [hR] at k
    exact k
theorem x_part {ec : Bool} {d : Nat} {P : Option Vl → Mm → Prop} {σ : Mm} {l f z w : Int}  (hh : ∀ l : Int, 0 ≤ l → l ≤ 3 → 0 ≤ σ 7 l 6 ∧ σ 7 l 6 ≤ 120)  (k : P (some (vI (ptR σ l f z w))) σ) : WT (true, false, ec) (d + 6) 74 [vR 2 0, vI l, vI f, vI z, vI w] σ P := by
  refine WT_in fun K hK => ?_
  have hK : StpY (true, false, ec) cX5_part RX5 (some .int) (WT (true, false, ec) (d + 5)) P K := hK
  have hM := hK.1
  have hC := hK.1.1
  show K 0 [some (vR 2 0), some (vI l), some (vI f), some (vI z), some (vI w), none] [] σ
  refine r_rngz hC (fun g0 => ?_)
  have r_l : -2147483648 ≤ l ∧ l ≤ 2147483647 := inR_le (g0 (vI l) (by simp))
  have r_f : -2147483648 ≤ f ∧ f ≤ 2147483647 := inR_le (g0 (vI f) (by simp))
  have r_z : -2147483648 ≤ z ∧ z ≤ 2147483647 := inR_le (g0 (vI z) (by simp))
  have r_w : -2147483648 ≤ w ∧ w ≤ 2147483647 := inR_le (g0 (vI w) (by simp))
  have h6L := hh l
  refine r_aload_n hC dX5_part_0 rfl ?_
  refine r_iload_n hC dX5_part_1 rfl ?_
  refine r_iload hC dX5_part_2 rfl ?_
  refine z_inv2 hM dX5_part_4 vl_RX5_248 rfl rfl rfl (Nat.le_of_ble_eq_true rfl) (Nat.le_of_ble_eq_true rfl) ?_
  refine x_laneWith (fun h1 => ?_) (fun h1 => ?_)
  · refine r_astore hC dX5_part_7 rfl ?_
    refine r_aload hC dX5_part_9 rfl ?_
    refine r_ifnullR hC dX5_part_11 ?_
    refine r_iload_n hC dX5_part_14 rfl ?_
    refine r_if_lt (tgt := 32) hC dX5_part_15 rfl (fun h2 => ?_) (fun h2 => ?_)
    · refine r_ldc hC dX5_part_32 co_RX5_175 rfl ?_
      refine y_iret hK rfl dX5_part_34 ?_
      have hR : ptR σ l f z w = (-2147483648) := by
        unfold ptR
        first | exact if_neg (by omega) | exact if_pos (by omega)
      rw [hR] at k
      exact k
    · refine r_iload_n hC dX5_part_18 rfl ?_
      refine r_iload_n hC dX5_part_19 rfl ?_
      refine r_icmp_lt (tgt := 32) hC dX5_part_20 rfl (fun h3 => ?_) (fun h3 => ?_)
      · refine r_ldc hC dX5_part_32 co_RX5_175 rfl ?_
        refine y_iret hK rfl dX5_part_34 ?_
        have hR : ptR σ l f z w = (-2147483648) := by
          unfold ptR
          first | exact if_neg (by omega) | exact if_pos (by omega)
        rw [hR] at k
        exact k
      · refine r_iload_n hC dX5_part_23 rfl ?_
        refine r_aload hC dX5_part_24 rfl ?_
        refine z_getI (jz := 6) hM dX5_part_26 fl_RX5_154 rfl rfl rfl (fun v4 h_v4 o_v4 t_v4 => ?_)
        have w_v4 := ((t_v4 (Or.inl (by simp [Tb]))).trans (rfl)).symm
        subst w_v4
        have q_v4 : 0 ≤ (σ 7 l 6) ∧ (σ 7 l 6) ≤ 121 := o_v4.1 rfl
        refine r_icmp_lt (tgt := 35) hC dX5_part_29 rfl (fun h5 => ?_) (fun h5 => ?_)
        · refine r_aload_n hC dX5_part_35 rfl ?_
          refine r_aload hC dX5_part_36 rfl ?_
          refine r_iload_n hC dX5_part_38 rfl ?_
          refine r_iload_n hC dX5_part_39 rfl ?_
          refine r_iconst hC dX5_part_40 rfl ?_
          refine r_iaddE hC ((z + 1)) dX5_part_41 (by omega) (by unfold inR; omega) ?_
          refine r_iload hC dX5_part_42 rfl ?_
          refine z_inv4 hM dX5_part_44 vl_RX5_227 rfl rfl rfl (Nat.le_of_ble_eq_true rfl) (Nat.le_of_ble_eq_true rfl) ?_
          refine x_comesTo (by omega) (by omega) (by omega) ?_
          refine y_iret hK rfl dX5_part_47 ?_
          have hR : ptR σ l f z w = (cm (σ 16 0) (σ 15 0) (σ 7 l 2) (fun j => σ 9 l (f + j)) ((z + 1) - f).toNat w) := by
            unfold ptR
            first | exact if_neg (by omega) | exact if_pos (by omega)
          rw [hR] at k
          exact k
        · refine r_ldc hC dX5_part_32 co_RX5_175 rfl ?_
          refine y_iret hK rfl dX5_part_34 ?_
          have hR : ptR σ l f z w = (-2147483648) := by
            unfold ptR
            first | exact if_neg (by omega) | exact if_pos (by omega)
          rw [hR] at k
          exact k
  · refine r_astoreN hC dX5_part_7 rfl ?_
    refine r_aloadN hC dX5_part_9 rfl ?_
    refine r_ifnullN (tgt := 32) hC dX5_part_11 rfl ?_
    refine r_ldc hC dX5_part_32 co_RX5_175 rfl ?_
    refine y_iret hK rfl dX5_part_34 ?_
    have hR : ptR σ l f z w = (-2147483648) := by
      unfold ptR
      first | exact if_neg (by omega) | exact if_pos (by omega)
    rw [hR] at k
    exact k
theorem wl_id {a : Int} (h : -9223372036854775808 ≤ a ∧ a ≤ 9223372036854775807) : wl a = a := by
  unfold wl
  exact Int64.toInt_ofInt_of_le h.1 (by have := h.2; omega)
theorem x_during {ec : Bool} {d : Nat} {P : Option Vl → Mm → Prop} {σ : Mm} {l f z w : Int}  (hh : ∀ l : Int, 0 ≤ l → l ≤ 3 → 0 ≤ σ 7 l 6 ∧ σ 7 l 6 ≤ 120)  (k : P (some (vI (duR σ l f z w))) σ) : WT (true, false, ec) (d + 6) 75 [vR 2 0, vI l, vI f, vI z, vI w] σ P := by
  refine WT_in fun K hK => ?_
  have hK : StpY (true, false, ec) cX5_during RX5 (some .int) (WT (true, false, ec) (d + 5)) P K := hK
  have hM := hK.1
  have hC := hK.1.1
  show K 0 [some (vR 2 0), some (vI l), some (vI f), some (vI z), some (vI w), none] [] σ
  refine r_rngz hC (fun g0 => ?_)
  have r_l : -2147483648 ≤ l ∧ l ≤ 2147483647 := inR_le (g0 (vI l) (by simp))
  have r_f : -2147483648 ≤ f ∧ f ≤ 2147483647 := inR_le (g0 (vI f) (by simp))
  have r_z : -2147483648 ≤ z ∧ z ≤ 2147483647 := inR_le (g0 (vI z) (by simp))
  have r_w : -2147483648 ≤ w ∧ w ≤ 2147483647 := inR_le (g0 (vI w) (by simp))
  have ewl : wl (f - 1) = f - 1 := wl_id (by omega)
  have h6L := hh l
  refine r_aload_n hC dX5_during_0 rfl ?_
  refine r_iload_n hC dX5_during_1 rfl ?_
  refine r_iload hC dX5_during_2 rfl ?_
  refine z_inv2 hM dX5_during_4 vl_RX5_248 rfl rfl rfl (Nat.le_of_ble_eq_true rfl) (Nat.le_of_ble_eq_true rfl) ?_
  refine x_laneWith (fun h1 => ?_) (fun h1 => ?_)
  · refine r_astore hC dX5_during_7 rfl ?_
    refine r_aload hC dX5_during_9 rfl ?_
    refine r_ifnonnullR (tgt := 19) hC dX5_during_11 rfl ?_
    refine r_aload_n hC dX5_during_19 rfl ?_
    refine r_aload hC dX5_during_20 rfl ?_
    refine r_aload hC dX5_during_22 rfl ?_
    refine r_iload_n hC dX5_during_24 rfl ?_
    refine r_i2l hC dX5_during_25 ?_
    refine r_lconst hC dX5_during_26 (a := 1) rfl ?_
    refine r_lsub hC dX5_during_27 ?_
    refine z_inv1 hM dX5_during_28 vl_RX5_167 rfl rfl rfl (Nat.le_of_ble_eq_true rfl) (Nat.le_of_ble_eq_true rfl) ?_
    refine x_heldUntil (by omega) (fun h2 => ?_)
    rw [ewl] at h2 ⊢
    refine r_aload hC dX5_during_31 rfl ?_
    refine r_iload_n hC dX5_during_33 rfl ?_
    refine r_i2l hC dX5_during_34 ?_
    refine z_inv1 hM dX5_during_35 vl_RX5_167 rfl rfl rfl (Nat.le_of_ble_eq_true rfl) (Nat.le_of_ble_eq_true rfl) ?_
    refine x_heldUntil (by omega) (fun h3 => ?_)
    refine r_iload hC dX5_during_38 rfl ?_
    refine z_inv4 hM dX5_during_40 vl_RX5_227 rfl rfl rfl (Nat.le_of_ble_eq_true rfl) (Nat.le_of_ble_eq_true rfl) ?_
    refine x_comesTo (by omega) (by omega) (by omega) ?_
    refine y_iret hK rfl dX5_during_43 ?_
    have hR : duR σ l f z w = (cm (σ 16 0) (σ 15 0) (σ 7 l 2) (fun j => σ 9 l ((hU σ l (f - 1)) + j)) ((hU σ l z) - (hU σ l (f - 1))).toNat w) := by
      unfold duR
      first | exact if_neg (by omega) | exact if_pos (by omega)
    rw [hR] at k
    exact k
  · refine r_astoreN hC dX5_during_7 rfl ?_
    refine r_aloadN hC dX5_during_9 rfl ?_
    refine r_ifnonnullN hC dX5_during_11 ?_
    refine r_ldc hC dX5_during_14 co_RX5_175 rfl ?_
    refine r_goto (tgt := 43) hC dX5_during_16 rfl ?_
    refine y_iret hK rfl dX5_during_43 ?_
    have hR : duR σ l f z w = (-2147483648) := by
      unfold duR
      first | exact if_neg (by omega) | exact if_pos (by omega)
    rw [hR] at k
    exact k
theorem x_many {ec : Bool} {d : Nat} {P : Option Vl → Mm → Prop} {σ : Mm} {l f z : Int}  (hh : ∀ l : Int, 0 ≤ l → l ≤ 3 → 0 ≤ σ 7 l 6 ∧ σ 7 l 6 ≤ 120)  (k : P (some (vI (mnR σ l f z))) σ) : WT (true, false, ec) (d + 4) 76 [vR 2 0, vI l, vI f, vI z] σ P := by
  refine WT_in fun K hK => ?_
  have hK : StpY (true, false, ec) cX5_many RX5 (some .int) (WT (true, false, ec) (d + 3)) P K := hK
  have hM := hK.1
  have hC := hK.1.1
  show K 0 [some (vR 2 0), some (vI l), some (vI f), some (vI z), none] [] σ
  refine r_rngz hC (fun g0 => ?_)
  have r_l : -2147483648 ≤ l ∧ l ≤ 2147483647 := inR_le (g0 (vI l) (by simp))
  have r_f : -2147483648 ≤ f ∧ f ≤ 2147483647 := inR_le (g0 (vI f) (by simp))
  have r_z : -2147483648 ≤ z ∧ z ≤ 2147483647 := inR_le (g0 (vI z) (by simp))
  have ewl : wl (f - 1) = f - 1 := wl_id (by omega)
  have h6L := hh l
  refine r_aload_n hC dX5_many_0 rfl ?_
  refine r_iload_n hC dX5_many_1 rfl ?_
  refine z_inv1 hM dX5_many_2 vl_RX5_123 rfl rfl rfl (Nat.le_of_ble_eq_true rfl) (Nat.le_of_ble_eq_true rfl) ?_
  refine x_openLane (fun h1 => ?_) (fun h1 => ?_)
  · -- h1
    refine r_astore hC dX5_many_5 rfl ?_
    refine r_aload hC dX5_many_7 rfl ?_
    refine r_ifnonnullR (tgt := 16) hC dX5_many_9 rfl ?_
    refine r_iconst hC dX5_many_16 rfl ?_
    refine r_aload hC dX5_many_17 rfl ?_
    refine r_iload_n hC dX5_many_19 rfl ?_
    refine r_i2l hC dX5_many_20 ?_
    refine z_inv1 hM dX5_many_21 vl_RX5_167 rfl rfl rfl (Nat.le_of_ble_eq_true rfl) (Nat.le_of_ble_eq_true rfl) ?_
    refine x_heldUntil (by omega) (fun h2 => ?_)
    refine r_aload hC dX5_many_24 rfl ?_
    refine r_iload_n hC dX5_many_26 rfl ?_
    refine r_i2l hC dX5_many_27 ?_
    refine r_lconst hC dX5_many_28 (a := 1) rfl ?_
    refine r_lsub hC dX5_many_29 ?_
    refine z_inv1 hM dX5_many_30 vl_RX5_167 rfl rfl rfl (Nat.le_of_ble_eq_true rfl) (Nat.le_of_ble_eq_true rfl) ?_
    refine x_heldUntil (by omega) (fun h3 => ?_)
    rw [ewl] at h3 ⊢
    refine r_isubE hC (((hU σ l z) - (hU σ l (f - 1)))) dX5_many_33 (by omega) (by unfold inR; omega) ?_
    refine z_ins2 hM dX5_many_34 tl_RX5_239 rfl (Nat.le_of_ble_eq_true rfl) (Nat.le_of_ble_eq_true rfl) ?_
    refine x_maxE ?_
    refine y_iret hK rfl dX5_many_37 ?_
    have hR : mnR σ l f z = (max 0 ((hU σ l z) - (hU σ l (f - 1)))) := by
      unfold mnR
      first | exact if_neg (by omega) | exact if_pos (by omega)
    rw [hR] at k
    exact k
  · -- h1
    refine r_astoreN hC dX5_many_5 rfl ?_
    refine r_aloadN hC dX5_many_7 rfl ?_
    refine r_ifnonnullN hC dX5_many_9 ?_
    refine r_iconst hC dX5_many_12 rfl ?_
    refine r_goto (tgt := 37) hC dX5_many_13 rfl ?_
    refine y_iret hK rfl dX5_many_37 ?_
    have hR : mnR σ l f z = (-1) := by
      unfold mnR
      first | exact if_neg (by omega) | exact if_pos (by omega)
    rw [hR] at k
    exact k
def x_FtoldF (V : Mm) (i w : Int) : Int := if w = 0 then V 11 i 0 else if w = 1 then V 11 i 1 else if w = 2 then V 11 i 2 else if w = 3 then V 11 i 3 else if w = 4 then V 11 i 4 else if w = 5 then V 11 i 5 else if w = 6 then V 11 i 6 else -1
theorem x_Ftold {e : Ev} {d : Nat} {P : Option Vl → Mm → Prop} {σ : Mm} {i w : Int} (b_i : 0 ≤ i ∧ i ≤ 7)  (k : P (some (vI (x_FtoldF σ i w))) σ) : WT e (d + 1) 7 [vR 11 i, vI w] σ P := by
  refine WT_in fun K hK => ?_
  have hK : StpY e cX0_told RX0 (some .int) (WT e (d + 0)) P K := hK
  have hM := hK.1
  have hC := hK.1.1
  show K 0 [some (vR 11 i), some (vI w)] [] σ
  refine r_rngz hC (fun g0 => ?_)
  have r_w : -2147483648 ≤ w ∧ w ≤ 2147483647 := inR_le (g0 (vI w) (by simp))
  refine r_iload_n hC dX0_told_0 rfl ?_
  rcases (by omega : (w < 0 ∨ 6 < w) ∨ w = 0 ∨ w = 1 ∨ w = 2 ∨ w = 3 ∨ w = 4 ∨ w = 5 ∨ w = 6) with h1 | h1 | h1 | h1 | h1 | h1 | h1 | h1
  · refine r_tableOut (tgt := 79) hC dX0_told_1 h1 rfl ?_
    refine r_iconst hC dX0_told_79 rfl ?_
    refine y_iret hK rfl dX0_told_80 ?_
    have hR : x_FtoldF σ i w = (-1) := by
      unfold x_FtoldF
      (repeat' split) <;> first | rfl | omega
    rw [hR] at k
    exact k
  · refine r_tableIn (tgt := 44) (off := 43) hC dX0_told_1 (by omega) (by omega) (by rw [h1]; rfl) rfl ?_
    refine r_aload_n hC dX0_told_44 rfl ?_
    refine z_getI (jz := 0) hM dX0_told_45 fl_RX0_9 rfl rfl rfl (fun v2 h_v2 o_v2 t_v2 => ?_)
    have w_v2 := ((t_v2 (Or.inl (by simp [Tb]))).trans (rfl)).symm
    subst w_v2
    refine y_iret hK rfl dX0_told_48 ?_
    have hR : x_FtoldF σ i w = (σ 11 i 0) := by
      unfold x_FtoldF
      (repeat' split) <;> first | rfl | omega
    rw [hR] at k
    exact k
  · refine r_tableIn (tgt := 49) (off := 48) hC dX0_told_1 (by omega) (by omega) (by rw [h1]; rfl) rfl ?_
    refine r_aload_n hC dX0_told_49 rfl ?_
    refine z_getI (jz := 1) hM dX0_told_50 fl_RX0_15 rfl rfl rfl (fun v3 h_v3 o_v3 t_v3 => ?_)
    have w_v3 := ((t_v3 (Or.inl (by simp [Tb]))).trans (rfl)).symm
    subst w_v3
    refine y_iret hK rfl dX0_told_53 ?_
    have hR : x_FtoldF σ i w = (σ 11 i 1) := by
      unfold x_FtoldF
      (repeat' split) <;> first | rfl | omega
    rw [hR] at k
    exact k
  · refine r_tableIn (tgt := 54) (off := 53) hC dX0_told_1 (by omega) (by omega) (by rw [h1]; rfl) rfl ?_
    refine r_aload_n hC dX0_told_54 rfl ?_
    refine z_getI (jz := 2) hM dX0_told_55 fl_RX0_18 rfl rfl rfl (fun v4 h_v4 o_v4 t_v4 => ?_)
    have w_v4 := ((t_v4 (Or.inl (by simp [Tb]))).trans (rfl)).symm
    subst w_v4
    refine y_iret hK rfl dX0_told_58 ?_
    have hR : x_FtoldF σ i w = (σ 11 i 2) := by
      unfold x_FtoldF
      (repeat' split) <;> first | rfl | omega
    rw [hR] at k
    exact k
  · refine r_tableIn (tgt := 59) (off := 58) hC dX0_told_1 (by omega) (by omega) (by rw [h1]; rfl) rfl ?_
    refine r_aload_n hC dX0_told_59 rfl ?_
    refine z_getI (jz := 3) hM dX0_told_60 fl_RX0_21 rfl rfl rfl (fun v5 h_v5 o_v5 t_v5 => ?_)
    have w_v5 := ((t_v5 (Or.inl (by simp [Tb]))).trans (rfl)).symm
    subst w_v5
    refine y_iret hK rfl dX0_told_63 ?_
    have hR : x_FtoldF σ i w = (σ 11 i 3) := by
      unfold x_FtoldF
      (repeat' split) <;> first | rfl | omega
    rw [hR] at k
    exact k
  · refine r_tableIn (tgt := 64) (off := 63) hC dX0_told_1 (by omega) (by omega) (by rw [h1]; rfl) rfl ?_
    refine r_aload_n hC dX0_told_64 rfl ?_
    refine z_getI (jz := 4) hM dX0_told_65 fl_RX0_24 rfl rfl rfl (fun v6 h_v6 o_v6 t_v6 => ?_)
    have w_v6 := ((t_v6 (Or.inl (by simp [Tb]))).trans (rfl)).symm
    subst w_v6
    refine y_iret hK rfl dX0_told_68 ?_
    have hR : x_FtoldF σ i w = (σ 11 i 4) := by
      unfold x_FtoldF
      (repeat' split) <;> first | rfl | omega
    rw [hR] at k
    exact k
  · refine r_tableIn (tgt := 69) (off := 68) hC dX0_told_1 (by omega) (by omega) (by rw [h1]; rfl) rfl ?_
    refine r_aload_n hC dX0_told_69 rfl ?_
    refine z_getI (jz := 5) hM dX0_told_70 fl_RX0_27 rfl rfl rfl (fun v7 h_v7 o_v7 t_v7 => ?_)
    have w_v7 := ((t_v7 (Or.inl (by simp [Tb]))).trans (rfl)).symm
    subst w_v7
    refine y_iret hK rfl dX0_told_73 ?_
    have hR : x_FtoldF σ i w = (σ 11 i 5) := by
      unfold x_FtoldF
      (repeat' split) <;> first | rfl | omega
    rw [hR] at k
    exact k
  · refine r_tableIn (tgt := 74) (off := 73) hC dX0_told_1 (by omega) (by omega) (by rw [h1]; rfl) rfl ?_
    refine r_aload_n hC dX0_told_74 rfl ?_
    refine z_getI (jz := 6) hM dX0_told_75 fl_RX0_30 rfl rfl rfl (fun v8 h_v8 o_v8 t_v8 => ?_)
    have w_v8 := ((t_v8 (Or.inl (by simp [Tb]))).trans (rfl)).symm
    subst w_v8
    refine y_iret hK rfl dX0_told_78 ?_
    have hR : x_FtoldF σ i w = (σ 11 i 6) := by
      unfold x_FtoldF
      (repeat' split) <;> first | rfl | omega
    rw [hR] at k
    exact k
def x_KtoldF (V : Mm) (i w : Int) : Int := if w = 0 then V 13 i 0 else if w = 1 then V 13 i 1 else if w = 2 then V 13 i 2 else if w = 3 then V 13 i 3 else -1
theorem x_Ktold {e : Ev} {d : Nat} {P : Option Vl → Mm → Prop} {σ : Mm} {i w : Int} (b_i : 0 ≤ i ∧ i ≤ 3)  (k : P (some (vI (x_KtoldF σ i w))) σ) : WT e (d + 1) 41 [vR 13 i, vI w] σ P := by
  refine WT_in fun K hK => ?_
  have hK : StpY e cX3_told RX3 (some .int) (WT e (d + 0)) P K := hK
  have hM := hK.1
  have hC := hK.1.1
  show K 0 [some (vR 13 i), some (vI w)] [] σ
  refine r_rngz hC (fun g0 => ?_)
  have r_w : -2147483648 ≤ w ∧ w ≤ 2147483647 := inR_le (g0 (vI w) (by simp))
  refine r_iload_n hC dX3_told_0 rfl ?_
  rcases (by omega : (w < 0 ∨ 3 < w) ∨ w = 0 ∨ w = 1 ∨ w = 2 ∨ w = 3) with h1 | h1 | h1 | h1 | h1
  · refine r_tableOut (tgt := 52) hC dX3_told_1 h1 rfl ?_
    refine r_iconst hC dX3_told_52 rfl ?_
    refine y_iret hK rfl dX3_told_53 ?_
    have hR : x_KtoldF σ i w = (-1) := by
      unfold x_KtoldF
      (repeat' split) <;> first | rfl | omega
    rw [hR] at k
    exact k
  · refine r_tableIn (tgt := 32) (off := 31) hC dX3_told_1 (by omega) (by omega) (by rw [h1]; rfl) rfl ?_
    refine r_aload_n hC dX3_told_32 rfl ?_
    refine z_getI (jz := 0) hM dX3_told_33 fl_RX3_9 rfl rfl rfl (fun v2 h_v2 o_v2 t_v2 => ?_)
    have w_v2 := ((t_v2 (Or.inl (by simp [Tb]))).trans (rfl)).symm
    subst w_v2
    refine y_iret hK rfl dX3_told_36 ?_
    have hR : x_KtoldF σ i w = (σ 13 i 0) := by
      unfold x_KtoldF
      (repeat' split) <;> first | rfl | omega
    rw [hR] at k
    exact k
  · refine r_tableIn (tgt := 37) (off := 36) hC dX3_told_1 (by omega) (by omega) (by rw [h1]; rfl) rfl ?_
    refine r_aload_n hC dX3_told_37 rfl ?_
    refine z_getI (jz := 1) hM dX3_told_38 fl_RX3_15 rfl rfl rfl (fun v3 h_v3 o_v3 t_v3 => ?_)
    have w_v3 := ((t_v3 (Or.inl (by simp [Tb]))).trans (rfl)).symm
    subst w_v3
    refine y_iret hK rfl dX3_told_41 ?_
    have hR : x_KtoldF σ i w = (σ 13 i 1) := by
      unfold x_KtoldF
      (repeat' split) <;> first | rfl | omega
    rw [hR] at k
    exact k
  · refine r_tableIn (tgt := 42) (off := 41) hC dX3_told_1 (by omega) (by omega) (by rw [h1]; rfl) rfl ?_
    refine r_aload_n hC dX3_told_42 rfl ?_
    refine z_getI (jz := 2) hM dX3_told_43 fl_RX3_18 rfl rfl rfl (fun v4 h_v4 o_v4 t_v4 => ?_)
    have w_v4 := ((t_v4 (Or.inl (by simp [Tb]))).trans (rfl)).symm
    subst w_v4
    refine y_iret hK rfl dX3_told_46 ?_
    have hR : x_KtoldF σ i w = (σ 13 i 2) := by
      unfold x_KtoldF
      (repeat' split) <;> first | rfl | omega
    rw [hR] at k
    exact k
  · refine r_tableIn (tgt := 47) (off := 46) hC dX3_told_1 (by omega) (by omega) (by rw [h1]; rfl) rfl ?_
    refine r_aload_n hC dX3_told_47 rfl ?_
    refine z_getI (jz := 3) hM dX3_told_48 fl_RX3_21 rfl rfl rfl (fun v5 h_v5 o_v5 t_v5 => ?_)
    have w_v5 := ((t_v5 (Or.inl (by simp [Tb]))).trans (rfl)).symm
    subst w_v5
    refine y_iret hK rfl dX3_told_51 ?_
    have hR : x_KtoldF σ i w = (σ 13 i 3) := by
      unfold x_KtoldF
      (repeat' split) <;> first | rfl | omega
    rw [hR] at k
    exact k
theorem x_state {ec : Bool} {d : Nat} {P : Option Vl → Mm → Prop} {σ : Mm} {l w : Int}   (k : P (some (vI (stR σ l w))) σ) : WT (true, false, ec) (d + 4) 94 [vR 2 0, vI l, vI w] σ P := by
  refine WT_in fun K hK => ?_
  have hK : StpY (true, false, ec) cX5_state RX5 (some .int) (WT (true, false, ec) (d + 3)) P K := hK
  have hM := hK.1
  have hC := hK.1.1
  show K 0 [some (vR 2 0), some (vI l), some (vI w), none] [] σ
  refine r_rngz hC (fun g0 => ?_)
  have r_l : -2147483648 ≤ l ∧ l ≤ 2147483647 := inR_le (g0 (vI l) (by simp))
  have r_w : -2147483648 ≤ w ∧ w ≤ 2147483647 := inR_le (g0 (vI w) (by simp))
  refine r_aload_n hC dX5_state_0 rfl ?_
  refine r_iload_n hC dX5_state_1 rfl ?_
  refine z_inv1 hM dX5_state_2 vl_RX5_123 rfl rfl rfl (Nat.le_of_ble_eq_true rfl) (Nat.le_of_ble_eq_true rfl) ?_
  refine x_openLane (fun h1 => ?_) (fun h1 => ?_)
  · -- h1
    refine r_astore_n hC dX5_state_5 rfl ?_
    refine r_aload_n hC dX5_state_6 rfl ?_
    refine r_ifnonnullR (tgt := 14) hC dX5_state_7 rfl ?_
    refine r_aload_n hC dX5_state_14 rfl ?_
    refine z_getR hM dX5_state_15 fl_RX5_189 rfl rfl (vld_of (n := 8) rfl (by omega) (by omega)) ?_
    refine r_iload_n hC dX5_state_18 rfl ?_
    refine z_inv1 hM dX5_state_19 vl_RX5_288 rfl rfl rfl (Nat.le_of_ble_eq_true rfl) (Nat.le_of_ble_eq_true rfl) ?_
    refine x_Ftold (by omega) ?_
    refine y_iret hK rfl dX5_state_22 ?_
    have hR : stR σ l w = (x_FtoldF σ l w) := by
      unfold stR
      first | exact if_neg (by omega) | exact if_pos (by omega)
    rw [hR] at k
    exact k
  · -- h1
    refine r_astoreN_n hC dX5_state_5 rfl ?_
    refine r_aloadN_n hC dX5_state_6 rfl ?_
    refine r_ifnonnullN hC dX5_state_7 ?_
    refine r_iconst hC dX5_state_10 rfl ?_
    refine r_goto (tgt := 22) hC dX5_state_11 rfl ?_
    refine y_iret hK rfl dX5_state_22 ?_
    have hR : stR σ l w = (-1) := by
      unfold stR
      first | exact if_neg (by omega) | exact if_pos (by omega)
    rw [hR] at k
    exact k
theorem x_soon {ec : Bool} {d : Nat} {P : Option Vl → Mm → Prop} {σ : Mm} {l w : Int}  (hF : ∀ l : Int, 0 ≤ l → l ≤ 3 → (0 ≤ σ 11 l 0 ∧ σ 11 l 0 ≤ 121) ∧ (0 ≤ σ 11 l 1 ∧ σ 11 l 1 ≤ 121) ∧ (0 ≤ σ 11 l 2 ∧ σ 11 l 2 ≤ 121) ∧ 0 ≤ σ 11 l 3 ∧ σ 11 l 3 ≤ 242)  (k : P (some (vI (soR σ l w))) σ) : WT (true, false, ec) (d + 4) 95 [vR 2 0, vI l, vI w] σ P := by
  refine WT_in fun K hK => ?_
  have hK : StpY (true, false, ec) cX5_soon RX5 (some .int) (WT (true, false, ec) (d + 3)) P K := hK
  have hM := hK.1
  have hC := hK.1.1
  show K 0 [some (vR 2 0), some (vI l), some (vI w), none, none] [] σ
  refine r_rngz hC (fun g0 => ?_)
  have r_l : -2147483648 ≤ l ∧ l ≤ 2147483647 := inR_le (g0 (vI l) (by simp))
  have r_w : -2147483648 ≤ w ∧ w ≤ 2147483647 := inR_le (g0 (vI w) (by simp))
  have hFl := hF l
  refine r_aload_n hC dX5_soon_0 rfl ?_
  refine r_iload_n hC dX5_soon_1 rfl ?_
  refine z_inv1 hM dX5_soon_2 vl_RX5_123 rfl rfl rfl (Nat.le_of_ble_eq_true rfl) (Nat.le_of_ble_eq_true rfl) ?_
  refine x_openLane (fun h1 => ?_) (fun h1 => ?_)
  · -- h1
    refine r_astore_n hC dX5_soon_5 rfl ?_
    refine r_aload_n hC dX5_soon_6 rfl ?_
    refine r_ifnullR hC dX5_soon_7 ?_
    refine r_iload_n hC dX5_soon_10 rfl ?_
    refine r_iconst hC dX5_soon_11 rfl ?_
    refine r_iconst hC dX5_soon_12 rfl ?_
    refine z_ins3 hM dX5_soon_13 tl_RX5_59 rfl (Nat.le_of_ble_eq_true rfl) (Nat.le_of_ble_eq_true rfl) ?_
    refine s_within (fun h3 => ?_) (fun h3 => ?_)
    · refine r_if_ne (tgt := 21) hC dX5_soon_16 rfl (fun h4 => ?_) (fun h4 => by omega)
      refine r_aload_n hC dX5_soon_21 rfl ?_
      refine z_getR hM dX5_soon_22 fl_RX5_189 rfl rfl (vld_of (n := 8) rfl (by omega) (by omega)) ?_
      refine r_astore hC dX5_soon_25 rfl ?_
      refine r_iload_n hC dX5_soon_27 rfl ?_
      refine r_if_ne (tgt := 57) hC dX5_soon_28 rfl (fun h5 => ?_) (fun h5 => ?_)
      · refine r_aload hC dX5_soon_57 rfl ?_
        refine z_getI (jz := 3) hM dX5_soon_59 fl_RX5_291 rfl rfl rfl (fun v6 h_v6 o_v6 t_v6 => ?_)
        have w_v6 := ((t_v6 (Or.inl (by simp [Tb]))).trans (rfl)).symm
        subst w_v6
        refine r_if_le (tgt := 79) hC dX5_soon_62 rfl (fun h7 => ?_) (fun h7 => ?_)
        · refine r_iconst hC dX5_soon_79 rfl ?_
          refine y_iret hK rfl dX5_soon_80 ?_
          have hR : soR σ l w = (-1) := by
            unfold soR
            (repeat' split) <;> first | rfl | omega
          rw [hR] at k
          exact k
        · refine r_aload hC dX5_soon_65 rfl ?_
          refine z_getI (jz := 3) hM dX5_soon_67 fl_RX5_291 rfl rfl rfl (fun v8 h_v8 o_v8 t_v8 => ?_)
          have w_v8 := ((t_v8 (Or.inl (by simp [Tb]))).trans (rfl)).symm
          subst w_v8
          refine r_iconst hC dX5_soon_70 rfl ?_
          refine r_iaddE hC (((σ 11 l 3) + 3)) dX5_soon_71 (by omega) (by unfold inR; omega) ?_
          refine r_iconst hC dX5_soon_72 rfl ?_
          refine r_isubE hC (((σ 11 l 3) + 2)) dX5_soon_73 (by omega) (by unfold inR; omega) ?_
          refine r_iconst hC dX5_soon_74 rfl ?_
          refine r_idivN hC dX5_soon_75 (by omega) (by omega) ?_
          refine r_goto (tgt := 80) hC dX5_soon_76 rfl ?_
          refine y_iret hK rfl dX5_soon_80 ?_
          have hR : soR σ l w = (((σ 11 l 3) + 2) / 3) := by
            unfold soR
            (repeat' split) <;> first | rfl | omega
          rw [hR] at k
          exact k
      · refine r_aload hC dX5_soon_31 rfl ?_
        refine z_getI (jz := 3) hM dX5_soon_33 fl_RX5_291 rfl rfl rfl (fun v9 h_v9 o_v9 t_v9 => ?_)
        have w_v9 := ((t_v9 (Or.inl (by simp [Tb]))).trans (rfl)).symm
        subst w_v9
        refine r_if_le (tgt := 43) hC dX5_soon_36 rfl (fun h10 => ?_) (fun h10 => ?_)
        · refine r_aload hC dX5_soon_43 rfl ?_
          refine z_getI (jz := 0) hM dX5_soon_45 fl_RX5_294 rfl rfl rfl (fun v11 h_v11 o_v11 t_v11 => ?_)
          have w_v11 := ((t_v11 (Or.inl (by simp [Tb]))).trans (rfl)).symm
          subst w_v11
          refine r_iconst hC dX5_soon_48 rfl ?_
          refine r_iaddE hC (((σ 11 l 0) + 1)) dX5_soon_49 (by omega) (by unfold inR; omega) ?_
          refine r_aload hC dX5_soon_50 rfl ?_
          refine z_getI (jz := 2) hM dX5_soon_52 fl_RX5_297 rfl rfl rfl (fun v12 h_v12 o_v12 t_v12 => ?_)
          have w_v12 := ((t_v12 (Or.inl (by simp [Tb]))).trans (rfl)).symm
          subst w_v12
          refine r_isubE hC ((((σ 11 l 0) + 1) - (σ 11 l 2))) dX5_soon_55 (by omega) (by unfold inR; omega) ?_
          refine y_iret hK rfl dX5_soon_56 ?_
          have hR : soR σ l w = (((σ 11 l 0) + 1) - (σ 11 l 2)) := by
            unfold soR
            (repeat' split) <;> first | rfl | omega
          rw [hR] at k
          exact k
        · refine r_iconst hC dX5_soon_39 rfl ?_
          refine r_goto (tgt := 56) hC dX5_soon_40 rfl ?_
          refine y_iret hK rfl dX5_soon_56 ?_
          have hR : soR σ l w = (-1) := by
            unfold soR
            (repeat' split) <;> first | rfl | omega
          rw [hR] at k
          exact k
    · refine r_if_ne (tgt := 21) hC dX5_soon_16 rfl (fun h13 => by omega) (fun h13 => ?_)
      refine r_iconst hC dX5_soon_19 rfl ?_
      refine y_iret hK rfl dX5_soon_20 ?_
      have hR : soR σ l w = (-1) := by
        unfold soR
        (repeat' split) <;> first | rfl | omega
      rw [hR] at k
      exact k
  · -- h1
    refine r_astoreN_n hC dX5_soon_5 rfl ?_
    refine r_aloadN_n hC dX5_soon_6 rfl ?_
    refine r_ifnullN (tgt := 19) hC dX5_soon_7 rfl ?_
    refine r_iconst hC dX5_soon_19 rfl ?_
    refine y_iret hK rfl dX5_soon_20 ?_
    have hR : soR σ l w = (-1) := by
      unfold soR
      (repeat' split) <;> first | rfl | omega
    rw [hR] at k
    exact k
theorem x_linked {ec : Bool} {d : Nat} {P : Option Vl → Mm → Prop} {σ : Mm} {l w : Int}   (k : P (some (vI (lkR σ l w))) σ) : WT (true, false, ec) (d + 3) 106 [vR 2 0, vI l, vI w] σ P := by
  refine WT_in fun K hK => ?_
  have hK : StpY (true, false, ec) cX5_linked RX5 (some .int) (WT (true, false, ec) (d + 2)) P K := hK
  have hM := hK.1
  have hC := hK.1.1
  show K 0 [some (vR 2 0), some (vI l), some (vI w)] [] σ
  refine r_rngz hC (fun g0 => ?_)
  have r_l : -2147483648 ≤ l ∧ l ≤ 2147483647 := inR_le (g0 (vI l) (by simp))
  have r_w : -2147483648 ≤ w ∧ w ≤ 2147483647 := inR_le (g0 (vI w) (by simp))
  refine r_iload_n hC dX5_linked_0 rfl ?_
  refine z_ins1 hM dX5_linked_1 tl_RX5_102 rfl (Nat.le_of_ble_eq_true rfl) (Nat.le_of_ble_eq_true rfl) ?_
  refine s_isLane (fun h2 => ?_) (fun h2 => ?_)
  · refine r_if_eq (tgt := 33) hC dX5_linked_4 rfl (fun h3 => by omega) (fun h3 => ?_)
    refine r_aload_n hC dX5_linked_7 rfl ?_
    refine z_getR hM dX5_linked_8 fl_RX5_19 rfl rfl (vld_of (n := 1) rfl (by omega) (by omega)) ?_
    refine r_iload_n hC dX5_linked_11 rfl ?_
    refine z_aald hM dX5_linked_12 rfl (by decide) (by omega) (by omega) (vld_of (n := 4) rfl (by omega) (by omega)) ?_
    refine z_getI (jz := 0) hM dX5_linked_13 fl_RX5_215 rfl rfl rfl (fun v4 h_v4 o_v4 t_v4 => ?_)
    have w_v4 := ((t_v4 (Or.inl (by simp [Tb]))).trans (rfl)).symm
    subst w_v4
    refine r_iconst hC dX5_linked_16 rfl ?_
    refine r_icmp_eq (tgt := 33) hC dX5_linked_17 rfl (fun h5 => ?_) (fun h5 => ?_)
    · refine r_iconst hC dX5_linked_33 rfl ?_
      refine y_iret hK rfl dX5_linked_34 ?_
      have hR : lkR σ l w = (-1) := by
        unfold lkR
        first | exact if_neg (by omega) | exact if_pos (by omega)
      rw [hR] at k
      exact k
    · refine r_aload_n hC dX5_linked_20 rfl ?_
      refine z_getR hM dX5_linked_21 fl_RX5_19 rfl rfl (vld_of (n := 1) rfl (by omega) (by omega)) ?_
      refine r_iload_n hC dX5_linked_24 rfl ?_
      refine z_aald hM dX5_linked_25 rfl (by decide) (by omega) (by omega) (vld_of (n := 4) rfl (by omega) (by omega)) ?_
      refine r_iload_n hC dX5_linked_26 rfl ?_
      refine z_inv1 hM dX5_linked_27 vl_RX5_343 rfl rfl rfl (Nat.le_of_ble_eq_true rfl) (Nat.le_of_ble_eq_true rfl) ?_
      refine x_Ktold (by omega) ?_
      refine r_goto (tgt := 34) hC dX5_linked_30 rfl ?_
      refine y_iret hK rfl dX5_linked_34 ?_
      have hR : lkR σ l w = (x_KtoldF σ l w) := by
        unfold lkR
        first | exact if_neg (by omega) | exact if_pos (by omega)
      rw [hR] at k
      exact k
  · refine r_if_eq (tgt := 33) hC dX5_linked_4 rfl (fun h6 => ?_) (fun h6 => by omega)
    refine r_iconst hC dX5_linked_33 rfl ?_
    refine y_iret hK rfl dX5_linked_34 ?_
    have hR : lkR σ l w = (-1) := by
      unfold lkR
      first | exact if_neg (by omega) | exact if_pos (by omega)
    rw [hR] at k
    exact k
theorem x_isTold {e : Ev} {d : Nat} {P : Option Vl → Mm → Prop} {σ : Mm} {v : Int}   (k1 : (wtd σ v) → P (some (vI 1)) σ) (k0 : ¬ (wtd σ v) → P (some (vI 0)) σ) : WT e (d + 2) 101 [vR 2 0, vI v] σ P := by
  refine WT_in fun K hK => ?_
  have hK : StpY e cX5_isTold RX5 (some .boolean) (WT e (d + 1)) P K := hK
  have hM := hK.1
  have hC := hK.1.1
  show K 0 [some (vR 2 0), some (vI v)] [] σ
  refine r_rngz hC (fun g0 => ?_)
  have r_v : -2147483648 ≤ v ∧ v ≤ 2147483647 := inR_le (g0 (vI v) (by simp))
  refine r_iload_n hC dX5_isTold_0 rfl ?_
  refine r_iconst hC dX5_isTold_1 rfl ?_
  refine r_bipush hC dX5_isTold_2 rfl ?_
  refine z_ins3 hM dX5_isTold_4 tl_RX5_59 rfl (Nat.le_of_ble_eq_true rfl) (Nat.le_of_ble_eq_true rfl) ?_
  refine s_within (fun h2 => ?_) (fun h2 => ?_)
  · refine r_if_eq (tgt := 27) hC dX5_isTold_7 rfl (fun h3 => by omega) (fun h3 => ?_)
    refine r_aload_n hC dX5_isTold_10 rfl ?_
    refine z_getR hM dX5_isTold_11 fl_RX5_32 rfl rfl (vld_of (n := 1) rfl (by omega) (by omega)) ?_
    refine r_iload_n hC dX5_isTold_14 rfl ?_
    refine z_aald hM dX5_isTold_15 rfl (by decide) (by omega) (by omega) (vld_of (n := 8) rfl (by omega) (by omega)) ?_
    refine z_getI (jz := 0) hM dX5_isTold_16 fl_RX5_321 rfl rfl rfl (fun v4 h_v4 o_v4 t_v4 => ?_)
    have w_v4 := ((t_v4 (Or.inl (by simp [Tb]))).trans (rfl)).symm
    subst w_v4
    refine r_iconst hC dX5_isTold_19 rfl ?_
    refine r_icmp_eq (tgt := 27) hC dX5_isTold_20 rfl (fun h5 => ?_) (fun h5 => ?_)
    · refine r_iconst hC dX5_isTold_27 rfl ?_
      refine y_zret hK rfl dX5_isTold_28 (by omega) ?_
      exact k0 (by omega)
    · refine r_iconst hC dX5_isTold_23 rfl ?_
      refine r_goto (tgt := 28) hC dX5_isTold_24 rfl ?_
      refine y_zret hK rfl dX5_isTold_28 (by omega) ?_
      exact k1 (by omega)
  · refine r_if_eq (tgt := 27) hC dX5_isTold_7 rfl (fun h6 => ?_) (fun h6 => by omega)
    refine r_iconst hC dX5_isTold_27 rfl ?_
    refine y_zret hK rfl dX5_isTold_28 (by omega) ?_
    exact k0 (by omega)
theorem x_rings {ec : Bool} {d : Nat} {P : Option Vl → Mm → Prop} {σ : Mm} {v : Int}   (k : P (some (vI (riR σ v))) σ) : WT (true, false, ec) (d + 3) 99 [vR 2 0, vI v] σ P := by
  refine WT_in fun K hK => ?_
  have hK : StpY (true, false, ec) cX5_rings RX5 (some .int) (WT (true, false, ec) (d + 2)) P K := hK
  have hM := hK.1
  have hC := hK.1.1
  show K 0 [some (vR 2 0), some (vI v)] [] σ
  refine r_rngz hC (fun g0 => ?_)
  have r_v : -2147483648 ≤ v ∧ v ≤ 2147483647 := inR_le (g0 (vI v) (by simp))
  refine r_aload_n hC dX5_rings_0 rfl ?_
  refine r_iload_n hC dX5_rings_1 rfl ?_
  refine z_inv1 hM dX5_rings_2 vl_RX5_312 rfl rfl rfl (Nat.le_of_ble_eq_true rfl) (Nat.le_of_ble_eq_true rfl) ?_
  refine x_isTold (fun h1 => ?_) (fun h1 => ?_)
  · refine r_if_eq (tgt := 20) hC dX5_rings_5 rfl (fun h2 => by omega) (fun h2 => ?_)
    refine r_aload_n hC dX5_rings_8 rfl ?_
    refine z_getR hM dX5_rings_9 fl_RX5_32 rfl rfl (vld_of (n := 1) rfl (by omega) (by omega)) ?_
    refine r_iload_n hC dX5_rings_12 rfl ?_
    refine z_aald hM dX5_rings_13 rfl (by decide) (by omega) (by omega) (vld_of (n := 8) rfl (by omega) (by omega)) ?_
    refine z_getI (jz := 4) hM dX5_rings_14 fl_RX5_315 rfl rfl rfl (fun v3 h_v3 o_v3 t_v3 => ?_)
    have w_v3 := ((t_v3 (Or.inl (by simp [Tb]))).trans (rfl)).symm
    subst w_v3
    refine r_goto (tgt := 21) hC dX5_rings_17 rfl ?_
    refine y_iret hK rfl dX5_rings_21 ?_
    have hR : riR σ v = (σ 12 v 4) := by
      unfold riR
      first | exact if_neg (by omega) | exact if_pos (by omega)
    rw [hR] at k
    exact k
  · refine r_if_eq (tgt := 20) hC dX5_rings_5 rfl (fun h4 => ?_) (fun h4 => by omega)
    refine r_iconst hC dX5_rings_20 rfl ?_
    refine y_iret hK rfl dX5_rings_21 ?_
    have hR : riR σ v = (-1) := by
      unfold riR
      first | exact if_neg (by omega) | exact if_pos (by omega)
    rw [hR] at k
    exact k
theorem x_rang {ec : Bool} {d : Nat} {P : Option Vl → Mm → Prop} {σ : Mm} {v : Int}   (k : P (some (vI (raR σ v))) σ) : WT (true, false, ec) (d + 3) 100 [vR 2 0, vI v] σ P := by
  refine WT_in fun K hK => ?_
  have hK : StpY (true, false, ec) cX5_rang RX5 (some .int) (WT (true, false, ec) (d + 2)) P K := hK
  have hM := hK.1
  have hC := hK.1.1
  show K 0 [some (vR 2 0), some (vI v)] [] σ
  refine r_rngz hC (fun g0 => ?_)
  have r_v : -2147483648 ≤ v ∧ v ≤ 2147483647 := inR_le (g0 (vI v) (by simp))
  refine r_aload_n hC dX5_rang_0 rfl ?_
  refine r_iload_n hC dX5_rang_1 rfl ?_
  refine z_inv1 hM dX5_rang_2 vl_RX5_312 rfl rfl rfl (Nat.le_of_ble_eq_true rfl) (Nat.le_of_ble_eq_true rfl) ?_
  refine x_isTold (fun h1 => ?_) (fun h1 => ?_)
  · refine r_if_eq (tgt := 20) hC dX5_rang_5 rfl (fun h2 => by omega) (fun h2 => ?_)
    refine r_aload_n hC dX5_rang_8 rfl ?_
    refine z_getR hM dX5_rang_9 fl_RX5_32 rfl rfl (vld_of (n := 1) rfl (by omega) (by omega)) ?_
    refine r_iload_n hC dX5_rang_12 rfl ?_
    refine z_aald hM dX5_rang_13 rfl (by decide) (by omega) (by omega) (vld_of (n := 8) rfl (by omega) (by omega)) ?_
    refine z_getI (jz := 5) hM dX5_rang_14 fl_RX5_318 rfl rfl rfl (fun v3 h_v3 o_v3 t_v3 => ?_)
    have w_v3 := ((t_v3 (Or.inl (by simp [Tb]))).trans (rfl)).symm
    subst w_v3
    refine r_goto (tgt := 21) hC dX5_rang_17 rfl ?_
    refine y_iret hK rfl dX5_rang_21 ?_
    have hR : raR σ v = (σ 12 v 5) := by
      unfold raR
      first | exact if_neg (by omega) | exact if_pos (by omega)
    rw [hR] at k
    exact k
  · refine r_if_eq (tgt := 20) hC dX5_rang_5 rfl (fun h4 => ?_) (fun h4 => by omega)
    refine r_iconst hC dX5_rang_20 rfl ?_
    refine y_iret hK rfl dX5_rang_21 ?_
    have hR : raR σ v = (-1) := by
      unfold raR
      first | exact if_neg (by omega) | exact if_pos (by omega)
    rw [hR] at k
    exact k
-- B: the reference: what is asked of a LANE
theorem y_event {eb : Bool} {t : Int} {V : Mm} {d : Nat} {P : Option Vl → Mm → Prop} {σ : Mm} {l x w : Int}  {σ0 : Mm} (ht : 6 ≤ t ∧ t ≤ 7) (hR : RS t σ0 V σ) (hG : GI V)  (k : ∀ ρ : Mm, RS t σ0 V ρ → P (some (vI (evR V l x w))) ρ) : WT (true, eb, true) (d + 4) 212 [vR 30 0, vI l, vI x, vI w] σ P := by
  refine WT_in fun K hK => ?_
  have hK : StpY (true, eb, true) cX6_event RX6 (some .int) (WT (true, eb, true) (d + 3)) P K := hK
  have hM := hK.1
  have hC := hK.1.1
  show K 0 [some (vR 30 0), some (vI l), some (vI x), some (vI w)] [] σ
  refine r_rngz hC (fun g0 => ?_)
  have r_l : -2147483648 ≤ l ∧ l ≤ 2147483647 := inR_le (g0 (vI l) (by simp))
  have r_x : -2147483648 ≤ x ∧ x ≤ 2147483647 := inR_le (g0 (vI x) (by simp))
  have r_w : -2147483648 ≤ w ∧ w ≤ 2147483647 := inR_le (g0 (vI w) (by simp))
  refine r_aload_n hC dX6_event_0 rfl ?_
  refine r_iload_n hC dX6_event_1 rfl ?_
  refine r_iload_n hC dX6_event_2 rfl ?_
  refine z_inv2 hM dX6_event_3 vl_RX6_262 rfl rfl rfl (Nat.le_of_ble_eq_true rfl) (Nat.le_of_ble_eq_true rfl) ?_
  refine y_isEvent (V := V) ht ⟨hR.1, hR.2.1, hR.2.2⟩ (fun h1 => ?_) (fun h1 => ?_)
  · have h6 := hG.1.h7 (l := l) (by first | assumption | decide | exact xs_ (by decide) | exact xc_ (by decide) | exact x31_ (by decide) | omega) (by first | assumption | decide | exact xs_ (by decide) | exact xc_ (by decide) | exact x31_ (by decide) | omega)
    refine r_if_ne (tgt := 12) hC dX6_event_6 rfl (fun h2 => ?_) (fun h2 => by omega)
    refine r_iload_n hC dX6_event_12 rfl ?_
    rcases (by omega : (w < 0 ∨ 2 < w) ∨ w = 0 ∨ w = 1 ∨ w = 2) with h3 | h3 | h3 | h3
    · refine r_tableOut (tgt := 76) hC dX6_event_13 h3 rfl ?_
      refine r_ldc hC dX6_event_76 co_RX6_160 rfl ?_
      refine y_iret hK rfl dX6_event_78 ?_
      have hRr : evR V l x w = (-2147483648) := by
        unfold evR
        (repeat' split) <;> first | rfl | omega
      rw [hRr] at k
      exact k _ ⟨hR.1, hR.2.1, hR.2.2⟩
    · refine r_tableIn (tgt := 40) (off := 27) hC dX6_event_13 (by first | assumption | decide | exact xs_ (by decide) | exact xc_ (by decide) | exact x31_ (by decide) | omega) (by first | assumption | decide | exact xs_ (by decide) | exact xc_ (by decide) | exact x31_ (by decide) | omega) (by rw [h3]; rfl) rfl ?_
      refine r_aload_n hC dX6_event_40 rfl ?_
      refine z_getR hM dX6_event_41 fl_RX6_13 rfl rfl (vld_of (n := 1) rfl (by first | assumption | decide | exact xs_ (by decide) | exact xc_ (by decide) | exact x31_ (by decide) | omega) (by first | assumption | decide | exact xs_ (by decide) | exact xc_ (by decide) | exact x31_ (by decide) | omega)) ?_
      refine r_bipush hC dX6_event_44 rfl ?_
      refine r_iload_n hC dX6_event_46 rfl ?_
      refine r_imulE hC ((121 * l)) dX6_event_47 (by first | assumption | decide | exact xs_ (by decide) | exact xc_ (by decide) | exact x31_ (by decide) | omega) (by unfold inR; omega) ?_
      refine r_iload_n hC dX6_event_48 rfl ?_
      refine r_iaddE hC (((121 * l) + x)) dX6_event_49 (by first | assumption | decide | exact xs_ (by decide) | exact xc_ (by decide) | exact x31_ (by decide) | omega) (by unfold inR; omega) ?_
      refine z_iald hM dX6_event_50 rfl (by first | assumption | decide | exact xs_ (by decide) | exact xc_ (by decide) | exact x31_ (by decide) | omega) (by first | assumption | decide | exact xs_ (by decide) | exact xc_ (by decide) | exact x31_ (by decide) | omega) (fun v4 h_v4 o_v4 t_v4 => ?_)
      have w_v4 := ((t_v4 (Or.inl trivial)).trans ((show σ 32 0 ((121 * l) + x) = V 8 l x from by rw [show ((121 * l) + x) = 121 * l + x from by omega]; exact hR.1.a8 (y := x) (by first | assumption | decide | exact xs_ (by decide) | exact xc_ (by decide) | exact x31_ (by decide) | omega) (by first | assumption | decide | exact xs_ (by decide) | exact xc_ (by decide) | exact x31_ (by decide) | omega) (by first | assumption | decide | exact xs_ (by decide) | exact xc_ (by decide) | exact x31_ (by decide) | omega) (by first | assumption | decide | exact xs_ (by decide) | exact xc_ (by decide) | exact x31_ (by decide) | omega)).trans (rfl))).symm
      subst w_v4
      refine y_iret hK rfl dX6_event_51 ?_
      have hRr : evR V l x w = (V 8 l x) := by
        unfold evR
        (repeat' split) <;> first | rfl | omega
      rw [hRr] at k
      exact k _ ⟨hR.1, hR.2.1, hR.2.2⟩
    · refine r_tableIn (tgt := 52) (off := 39) hC dX6_event_13 (by first | assumption | decide | exact xs_ (by decide) | exact xc_ (by decide) | exact x31_ (by decide) | omega) (by first | assumption | decide | exact xs_ (by decide) | exact xc_ (by decide) | exact x31_ (by decide) | omega) (by rw [h3]; rfl) rfl ?_
      refine r_aload_n hC dX6_event_52 rfl ?_
      refine z_getR hM dX6_event_53 fl_RX6_16 rfl rfl (vld_of (n := 1) rfl (by first | assumption | decide | exact xs_ (by decide) | exact xc_ (by decide) | exact x31_ (by decide) | omega) (by first | assumption | decide | exact xs_ (by decide) | exact xc_ (by decide) | exact x31_ (by decide) | omega)) ?_
      refine r_bipush hC dX6_event_56 rfl ?_
      refine r_iload_n hC dX6_event_58 rfl ?_
      refine r_imulE hC ((121 * l)) dX6_event_59 (by first | assumption | decide | exact xs_ (by decide) | exact xc_ (by decide) | exact x31_ (by decide) | omega) (by unfold inR; omega) ?_
      refine r_iload_n hC dX6_event_60 rfl ?_
      refine r_iaddE hC (((121 * l) + x)) dX6_event_61 (by first | assumption | decide | exact xs_ (by decide) | exact xc_ (by decide) | exact x31_ (by decide) | omega) (by unfold inR; omega) ?_
      refine z_iald hM dX6_event_62 rfl (by first | assumption | decide | exact xs_ (by decide) | exact xc_ (by decide) | exact x31_ (by decide) | omega) (by first | assumption | decide | exact xs_ (by decide) | exact xc_ (by decide) | exact x31_ (by decide) | omega) (fun v5 h_v5 o_v5 t_v5 => ?_)
      have w_v5 := ((t_v5 (Or.inl trivial)).trans ((show σ 33 0 ((121 * l) + x) = V 9 l x from by rw [show ((121 * l) + x) = 121 * l + x from by omega]; exact hR.1.a9 (y := x) (by first | assumption | decide | exact xs_ (by decide) | exact xc_ (by decide) | exact x31_ (by decide) | omega) (by first | assumption | decide | exact xs_ (by decide) | exact xc_ (by decide) | exact x31_ (by decide) | omega) (by first | assumption | decide | exact xs_ (by decide) | exact xc_ (by decide) | exact x31_ (by decide) | omega) (by first | assumption | decide | exact xs_ (by decide) | exact xc_ (by decide) | exact x31_ (by decide) | omega)).trans (rfl))).symm
      subst w_v5
      refine y_iret hK rfl dX6_event_63 ?_
      have hRr : evR V l x w = (V 9 l x) := by
        unfold evR
        (repeat' split) <;> first | rfl | omega
      rw [hRr] at k
      exact k _ ⟨hR.1, hR.2.1, hR.2.2⟩
    · refine r_tableIn (tgt := 64) (off := 51) hC dX6_event_13 (by first | assumption | decide | exact xs_ (by decide) | exact xc_ (by decide) | exact x31_ (by decide) | omega) (by first | assumption | decide | exact xs_ (by decide) | exact xc_ (by decide) | exact x31_ (by decide) | omega) (by rw [h3]; rfl) rfl ?_
      refine r_aload_n hC dX6_event_64 rfl ?_
      refine z_getR hM dX6_event_65 fl_RX6_19 rfl rfl (vld_of (n := 1) rfl (by first | assumption | decide | exact xs_ (by decide) | exact xc_ (by decide) | exact x31_ (by decide) | omega) (by first | assumption | decide | exact xs_ (by decide) | exact xc_ (by decide) | exact x31_ (by decide) | omega)) ?_
      refine r_bipush hC dX6_event_68 rfl ?_
      refine r_iload_n hC dX6_event_70 rfl ?_
      refine r_imulE hC ((121 * l)) dX6_event_71 (by first | assumption | decide | exact xs_ (by decide) | exact xc_ (by decide) | exact x31_ (by decide) | omega) (by unfold inR; omega) ?_
      refine r_iload_n hC dX6_event_72 rfl ?_
      refine r_iaddE hC (((121 * l) + x)) dX6_event_73 (by first | assumption | decide | exact xs_ (by decide) | exact xc_ (by decide) | exact x31_ (by decide) | omega) (by unfold inR; omega) ?_
      refine z_iald hM dX6_event_74 rfl (by first | assumption | decide | exact xs_ (by decide) | exact xc_ (by decide) | exact x31_ (by decide) | omega) (by first | assumption | decide | exact xs_ (by decide) | exact xc_ (by decide) | exact x31_ (by decide) | omega) (fun v6 h_v6 o_v6 t_v6 => ?_)
      have w_v6 := ((t_v6 (Or.inl trivial)).trans ((show σ 34 0 ((121 * l) + x) = V 10 l x from by rw [show ((121 * l) + x) = 121 * l + x from by omega]; exact hR.1.a10 (y := x) (by first | assumption | decide | exact xs_ (by decide) | exact xc_ (by decide) | exact x31_ (by decide) | omega) (by first | assumption | decide | exact xs_ (by decide) | exact xc_ (by decide) | exact x31_ (by decide) | omega) (by first | assumption | decide | exact xs_ (by decide) | exact xc_ (by decide) | exact x31_ (by decide) | omega) (by first | assumption | decide | exact xs_ (by decide) | exact xc_ (by decide) | exact x31_ (by decide) | omega)).trans (rfl))).symm
      subst w_v6
      refine y_iret hK rfl dX6_event_75 ?_
      have hRr : evR V l x w = (V 10 l x) := by
        unfold evR
        (repeat' split) <;> first | rfl | omega
      rw [hRr] at k
      exact k _ ⟨hR.1, hR.2.1, hR.2.2⟩
  · refine r_if_ne (tgt := 12) hC dX6_event_6 rfl (fun h7 => by omega) (fun h7 => ?_)
    refine r_ldc hC dX6_event_9 co_RX6_160 rfl ?_
    refine y_iret hK rfl dX6_event_11 ?_
    have hRr : evR V l x w = (-2147483648) := by
      unfold evR
      (repeat' split) <;> first | rfl | omega
    rw [hRr] at k
    exact k _ ⟨hR.1, hR.2.1, hR.2.2⟩
theorem y_total {eb : Bool} {t : Int} {V : Mm} {d : Nat} {P : Option Vl → Mm → Prop} {σ : Mm} {l w : Int}  {σ0 : Mm} (ht : 6 ≤ t ∧ t ≤ 7) (hR : RS t σ0 V σ) (hG : GI V)  (k : ∀ ρ : Mm, RS t σ0 V ρ → P (some (vI (ttR V l w))) ρ) : WT (true, eb, true) (d + 6) 214 [vR 30 0, vI l, vI w] σ P := by
  refine WT_in fun K hK => ?_
  have hK : StpY (true, eb, true) cX6_total RX6 (some .int) (WT (true, eb, true) (d + 5)) P K := hK
  have hM := hK.1
  have hC := hK.1.1
  show K 0 [some (vR 30 0), some (vI l), some (vI w)] [] σ
  refine r_rngz hC (fun g0 => ?_)
  have r_l : -2147483648 ≤ l ∧ l ≤ 2147483647 := inR_le (g0 (vI l) (by simp))
  have r_w : -2147483648 ≤ w ∧ w ≤ 2147483647 := inR_le (g0 (vI w) (by simp))
  refine r_aload_n hC dX6_total_0 rfl ?_
  refine r_iload_n hC dX6_total_1 rfl ?_
  refine r_iload_n hC dX6_total_2 rfl ?_
  refine z_inv2 hM dX6_total_3 vl_RX6_207 rfl rfl rfl (Nat.le_of_ble_eq_true rfl) (Nat.le_of_ble_eq_true rfl) ?_
  refine y_isNumber (V := V) ht ⟨hR.1, hR.2.1, hR.2.2⟩ (fun l a b => (hG.2.1.2.2.2.1 l a b).2) (fun h1 => ?_) (fun h1 => ?_)
  · unfold lwC opV at h1
    have n_h1 := numF_rng (V 7 l 2)
    have h6 := hG.1.h7 (l := l) (by first | assumption | decide | exact xs_ (by decide) | exact xc_ (by decide) | exact x31_ (by decide) | omega) (by first | assumption | decide | exact xs_ (by decide) | exact xc_ (by decide) | exact x31_ (by decide) | omega)
    refine r_if_eq (tgt := 26) hC dX6_total_6 rfl (fun h2 => by omega) (fun h2 => ?_)
    refine r_aload_n hC dX6_total_9 rfl ?_
    refine r_iload_n hC dX6_total_10 rfl ?_
    refine r_iconst hC dX6_total_11 rfl ?_
    refine r_aload_n hC dX6_total_12 rfl ?_
    refine r_iload_n hC dX6_total_13 rfl ?_
    refine z_inv1 hM dX6_total_14 vl_RX6_116 rfl rfl rfl (Nat.le_of_ble_eq_true rfl) (Nat.le_of_ble_eq_true rfl) ?_
    refine y_heldOf (by first | assumption | decide | exact xs_ (by decide) | exact xc_ (by decide) | exact x31_ (by decide) | omega) (fun o3 => ?_)
    have e4 : σ 31 0 (22 * l + 5) = (V 7 l 6) := (hR.1.a7 (s := 6) (f := 5) (by first | assumption | decide | exact xs_ (by decide) | exact xc_ (by decide) | exact x31_ (by decide) | omega) (by first | assumption | decide | exact xs_ (by decide) | exact xc_ (by decide) | exact x31_ (by decide) | omega) (by first | assumption | decide | exact xs_ (by decide) | exact xc_ (by decide) | exact x31_ (by decide) | omega)).trans (rfl)
    rw [e4] at o3 ⊢
    have qo3 : 0 ≤ (V 7 l 6) ∧ (V 7 l 6) ≤ 121 := o3.1 (by first | assumption | decide | exact xs_ (by decide) | exact xc_ (by decide) | exact x31_ (by decide) | omega)
    refine r_iconst hC dX6_total_17 rfl ?_
    refine r_isubE hC (((V 7 l 6) - 1)) dX6_total_18 (by first | assumption | decide | exact xs_ (by decide) | exact xc_ (by decide) | exact x31_ (by decide) | omega) (by unfold inR; omega) ?_
    refine r_iload_n hC dX6_total_19 rfl ?_
    refine z_inv4 hM dX6_total_20 vl_RX6_243 rfl rfl rfl (Nat.le_of_ble_eq_true rfl) (Nat.le_of_ble_eq_true rfl) ?_
    refine y_comesFrom (V := V) (by first | assumption | decide | exact xs_ (by decide) | exact xc_ (by decide) | exact x31_ (by decide) | omega) (by first | assumption | decide | exact xs_ (by decide) | exact xc_ (by decide) | exact x31_ (by decide) | omega) (by first | assumption | decide | exact xs_ (by decide) | exact xc_ (by decide) | exact x31_ (by decide) | omega) (by first | assumption | decide | exact xs_ (by decide) | exact xc_ (by decide) | exact x31_ (by decide) | omega) ht ⟨hR.1, hR.2.1, hR.2.2⟩ (by first | assumption | decide | exact xs_ (by decide) | exact xc_ (by decide) | exact x31_ (by decide) | omega) (hG.2.1.lk hG.1 (l := l) (by first | assumption | decide | exact xs_ (by decide) | exact xc_ (by decide) | exact x31_ (by decide) | omega) (by first | assumption | decide | exact xs_ (by decide) | exact xc_ (by decide) | exact x31_ (by decide) | omega)) (by first | assumption | decide | exact xs_ (by decide) | exact xc_ (by decide) | exact x31_ (by decide) | omega) (fun ρ5 Rρ5 => ?_)
    refine r_goto (tgt := 28) hC dX6_total_23 rfl ?_
    refine y_iret hK rfl dX6_total_28 ?_
    have hRr : ttR V l w = (cm (V 16 0) (V 15 0) (V 7 l 2) (fun j => V 9 l (0 + j)) (((V 7 l 6) - 1) + 1 - 0).toNat w) := by
      unfold ttR ptV
      first | exact if_pos (by first | assumption | decide | exact xs_ (by decide) | exact xc_ (by decide) | exact x31_ (by decide) | omega) | (rw [if_pos (by first | assumption | decide | exact xs_ (by decide) | exact xc_ (by decide) | exact x31_ (by decide) | omega)]; first | rfl | (rw [show (((V 7 l 6) - 1) + 1 : Int) = V 7 l 6 from by omega]; done) | (rw [show (((V 7 l 6) - 1) + 1 : Int) = hU V l z from by omega]; done))
    rw [hRr] at k
    exact k _ ⟨Rρ5.1, Rρ5.2.1, Rρ5.2.2⟩
  · unfold lwC opV at h1
    refine r_if_eq (tgt := 26) hC dX6_total_6 rfl (fun h6 => ?_) (fun h6 => by omega)
    refine r_ldc hC dX6_total_26 co_RX6_160 rfl ?_
    refine y_iret hK rfl dX6_total_28 ?_
    have hRr : ttR V l w = (-2147483648) := by
      unfold ttR
      exact if_neg (by first | assumption | decide | exact xs_ (by decide) | exact xc_ (by decide) | exact x31_ (by decide) | omega)
    rw [hRr] at k
    exact k _ ⟨hR.1, hR.2.1, hR.2.2⟩
theorem y_law {eb : Bool} {t : Int} {V : Mm} {d : Nat} {P : Option Vl → Mm → Prop} {σ : Mm} {l h w : Int}  {σ0 : Mm} (ht : 6 ≤ t ∧ t ≤ 7) (hR : RS t σ0 V σ) (hG : GI V)  (k : ∀ ρ : Mm, RS t σ0 V ρ → P (some (vI (laR V l h w))) ρ) : WT (true, eb, true) (d + 7) 235 [vR 30 0, vI l, vI h, vI w] σ P := by
  refine WT_in fun K hK => ?_
  have hK : StpY (true, eb, true) cX6_law RX6 (some .int) (WT (true, eb, true) (d + 6)) P K := hK
  have hM := hK.1
  have hC := hK.1.1
  show K 0 [some (vR 30 0), some (vI l), some (vI h), some (vI w)] [] σ
  refine r_rngz hC (fun g0 => ?_)
  have r_l : -2147483648 ≤ l ∧ l ≤ 2147483647 := inR_le (g0 (vI l) (by simp))
  have r_h : -2147483648 ≤ h ∧ h ≤ 2147483647 := inR_le (g0 (vI h) (by simp))
  have r_w : -2147483648 ≤ w ∧ w ≤ 2147483647 := inR_le (g0 (vI w) (by simp))
  refine r_iload_n hC dX6_law_0 rfl ?_
  refine r_iconst hC dX6_law_1 rfl ?_
  refine r_iconst hC dX6_law_2 rfl ?_
  refine z_ins3 hM dX6_law_3 tl_RX6_76 rfl (Nat.le_of_ble_eq_true rfl) (Nat.le_of_ble_eq_true rfl) ?_
  refine m_isIn (fun h2 => ?_) (fun h2 => ?_)
  · refine r_if_eq (tgt := 18) hC dX6_law_6 rfl (fun h3 => by omega) (fun h3 => ?_)
    refine r_aload_n hC dX6_law_9 rfl ?_
    refine r_iload_n hC dX6_law_10 rfl ?_
    refine r_iload_n hC dX6_law_11 rfl ?_
    refine z_inv2 hM dX6_law_12 vl_RX6_283 rfl rfl rfl (Nat.le_of_ble_eq_true rfl) (Nat.le_of_ble_eq_true rfl) ?_
    refine y_total (V := V) ht ⟨hR.1, hR.2.1, hR.2.2⟩ hG (fun ρ4 Rρ4 => ?_)
    refine r_goto (tgt := 20) hC dX6_law_15 rfl ?_
    refine y_iret hK rfl dX6_law_20 ?_
    have hRr : laR V l h w = (ttR V l w) := by
      unfold laR
      first | exact if_neg (by first | assumption | decide | exact xs_ (by decide) | exact xc_ (by decide) | exact x31_ (by decide) | omega) | exact if_pos (by first | assumption | decide | exact xs_ (by decide) | exact xc_ (by decide) | exact x31_ (by decide) | omega)
    rw [hRr] at k
    exact k _ ⟨Rρ4.1, Rρ4.2.1, Rρ4.2.2⟩
  · refine r_if_eq (tgt := 18) hC dX6_law_6 rfl (fun h5 => ?_) (fun h5 => by omega)
    refine r_ldc hC dX6_law_18 co_RX6_160 rfl ?_
    refine y_iret hK rfl dX6_law_20 ?_
    have hRr : laR V l h w = (-2147483648) := by
      unfold laR
      first | exact if_neg (by first | assumption | decide | exact xs_ (by decide) | exact xc_ (by decide) | exact x31_ (by decide) | omega) | exact if_pos (by first | assumption | decide | exact xs_ (by decide) | exact xc_ (by decide) | exact x31_ (by decide) | omega)
    rw [hRr] at k
    exact k _ ⟨hR.1, hR.2.1, hR.2.2⟩
theorem y_part {eb : Bool} {t : Int} {V : Mm} {d : Nat} {P : Option Vl → Mm → Prop} {σ : Mm} {l f z w : Int}  {σ0 : Mm} (ht : 6 ≤ t ∧ t ≤ 7) (hR : RS t σ0 V σ) (hG : GI V)  (k : ∀ ρ : Mm, RS t σ0 V ρ → P (some (vI (ptR V l f z w))) ρ) : WT (true, eb, true) (d + 6) 215 [vR 30 0, vI l, vI f, vI z, vI w] σ P := by
  refine WT_in fun K hK => ?_
  have hK : StpY (true, eb, true) cX6_part RX6 (some .int) (WT (true, eb, true) (d + 5)) P K := hK
  have hM := hK.1
  have hC := hK.1.1
  show K 0 [some (vR 30 0), some (vI l), some (vI f), some (vI z), some (vI w)] [] σ
  refine r_rngz hC (fun g0 => ?_)
  have r_l : -2147483648 ≤ l ∧ l ≤ 2147483647 := inR_le (g0 (vI l) (by simp))
  have r_f : -2147483648 ≤ f ∧ f ≤ 2147483647 := inR_le (g0 (vI f) (by simp))
  have r_z : -2147483648 ≤ z ∧ z ≤ 2147483647 := inR_le (g0 (vI z) (by simp))
  have r_w : -2147483648 ≤ w ∧ w ≤ 2147483647 := inR_le (g0 (vI w) (by simp))
  refine r_aload_n hC dX6_part_0 rfl ?_
  refine r_iload_n hC dX6_part_1 rfl ?_
  refine r_iload hC dX6_part_2 rfl ?_
  refine z_inv2 hM dX6_part_4 vl_RX6_207 rfl rfl rfl (Nat.le_of_ble_eq_true rfl) (Nat.le_of_ble_eq_true rfl) ?_
  refine y_isNumber (V := V) ht ⟨hR.1, hR.2.1, hR.2.2⟩ (fun l a b => (hG.2.1.2.2.2.1 l a b).2) (fun h1 => ?_) (fun h1 => ?_)
  · unfold lwC opV at h1
    have n_h1 := numF_rng (V 7 l 2)
    have h6 := hG.1.h7 (l := l) (by first | assumption | decide | exact xs_ (by decide) | exact xc_ (by decide) | exact x31_ (by decide) | omega) (by first | assumption | decide | exact xs_ (by decide) | exact xc_ (by decide) | exact x31_ (by decide) | omega)
    refine r_if_eq (tgt := 33) hC dX6_part_7 rfl (fun h2 => by omega) (fun h2 => ?_)
    refine r_aload_n hC dX6_part_10 rfl ?_
    refine r_iload_n hC dX6_part_11 rfl ?_
    refine r_iload_n hC dX6_part_12 rfl ?_
    refine z_inv2 hM dX6_part_13 vl_RX6_262 rfl rfl rfl (Nat.le_of_ble_eq_true rfl) (Nat.le_of_ble_eq_true rfl) ?_
    refine y_isEvent (V := V) ht ⟨hR.1, hR.2.1, hR.2.2⟩ (fun h3 => ?_) (fun h3 => ?_)
    · have h6 := hG.1.h7 (l := l) (by first | assumption | decide | exact xs_ (by decide) | exact xc_ (by decide) | exact x31_ (by decide) | omega) (by first | assumption | decide | exact xs_ (by decide) | exact xc_ (by decide) | exact x31_ (by decide) | omega)
      refine r_if_eq (tgt := 33) hC dX6_part_16 rfl (fun h4 => by omega) (fun h4 => ?_)
      refine r_aload_n hC dX6_part_19 rfl ?_
      refine r_iload_n hC dX6_part_20 rfl ?_
      refine r_iload_n hC dX6_part_21 rfl ?_
      refine z_inv2 hM dX6_part_22 vl_RX6_262 rfl rfl rfl (Nat.le_of_ble_eq_true rfl) (Nat.le_of_ble_eq_true rfl) ?_
      refine y_isEvent (V := V) ht ⟨hR.1, hR.2.1, hR.2.2⟩ (fun h5 => ?_) (fun h5 => ?_)
      · have h6 := hG.1.h7 (l := l) (by first | assumption | decide | exact xs_ (by decide) | exact xc_ (by decide) | exact x31_ (by decide) | omega) (by first | assumption | decide | exact xs_ (by decide) | exact xc_ (by decide) | exact x31_ (by decide) | omega)
        refine r_if_eq (tgt := 33) hC dX6_part_25 rfl (fun h6 => by omega) (fun h6 => ?_)
        refine r_iload_n hC dX6_part_28 rfl ?_
        refine r_iload_n hC dX6_part_29 rfl ?_
        refine r_icmp_le (tgt := 36) hC dX6_part_30 rfl (fun h7 => ?_) (fun h7 => ?_)
        · refine r_aload_n hC dX6_part_36 rfl ?_
          refine r_iload_n hC dX6_part_37 rfl ?_
          refine r_iload_n hC dX6_part_38 rfl ?_
          refine r_iload_n hC dX6_part_39 rfl ?_
          refine r_iload hC dX6_part_40 rfl ?_
          refine z_inv4 hM dX6_part_42 vl_RX6_243 rfl rfl rfl (Nat.le_of_ble_eq_true rfl) (Nat.le_of_ble_eq_true rfl) ?_
          refine y_comesFrom (V := V) (by first | assumption | decide | exact xs_ (by decide) | exact xc_ (by decide) | exact x31_ (by decide) | omega) (by first | assumption | decide | exact xs_ (by decide) | exact xc_ (by decide) | exact x31_ (by decide) | omega) (by first | assumption | decide | exact xs_ (by decide) | exact xc_ (by decide) | exact x31_ (by decide) | omega) (by first | assumption | decide | exact xs_ (by decide) | exact xc_ (by decide) | exact x31_ (by decide) | omega) ht ⟨hR.1, hR.2.1, hR.2.2⟩ (by first | assumption | decide | exact xs_ (by decide) | exact xc_ (by decide) | exact x31_ (by decide) | omega) (hG.2.1.lk hG.1 (l := l) (by first | assumption | decide | exact xs_ (by decide) | exact xc_ (by decide) | exact x31_ (by decide) | omega) (by first | assumption | decide | exact xs_ (by decide) | exact xc_ (by decide) | exact x31_ (by decide) | omega)) (by first | assumption | decide | exact xs_ (by decide) | exact xc_ (by decide) | exact x31_ (by decide) | omega) (fun ρ8 Rρ8 => ?_)
          refine y_iret hK rfl dX6_part_45 ?_
          have hRr : ptR V l f z w = (cm (V 16 0) (V 15 0) (V 7 l 2) (fun j => V 9 l (f + j)) (z + 1 - f).toNat w) := by
            unfold ptR ptV
            first | exact if_pos (by first | assumption | decide | exact xs_ (by decide) | exact xc_ (by decide) | exact x31_ (by decide) | omega) | (rw [if_pos (by first | assumption | decide | exact xs_ (by decide) | exact xc_ (by decide) | exact x31_ (by decide) | omega)]; first | rfl | (rw [show (z + 1 : Int) = V 7 l 6 from by omega]; done) | (rw [show (z + 1 : Int) = hU V l z from by omega]; done))
          rw [hRr] at k
          exact k _ ⟨Rρ8.1, Rρ8.2.1, Rρ8.2.2⟩
        · refine r_ldc hC dX6_part_33 co_RX6_160 rfl ?_
          refine y_iret hK rfl dX6_part_35 ?_
          have hRr : ptR V l f z w = (-2147483648) := by
            unfold ptR
            exact if_neg (by first | assumption | decide | exact xs_ (by decide) | exact xc_ (by decide) | exact x31_ (by decide) | omega)
          rw [hRr] at k
          exact k _ ⟨hR.1, hR.2.1, hR.2.2⟩
      · refine r_if_eq (tgt := 33) hC dX6_part_25 rfl (fun h9 => ?_) (fun h9 => by omega)
        refine r_ldc hC dX6_part_33 co_RX6_160 rfl ?_
        refine y_iret hK rfl dX6_part_35 ?_
        have hRr : ptR V l f z w = (-2147483648) := by
          unfold ptR
          exact if_neg (by first | assumption | decide | exact xs_ (by decide) | exact xc_ (by decide) | exact x31_ (by decide) | omega)
        rw [hRr] at k
        exact k _ ⟨hR.1, hR.2.1, hR.2.2⟩
    · refine r_if_eq (tgt := 33) hC dX6_part_16 rfl (fun h10 => ?_) (fun h10 => by omega)
      refine r_ldc hC dX6_part_33 co_RX6_160 rfl ?_
      refine y_iret hK rfl dX6_part_35 ?_
      have hRr : ptR V l f z w = (-2147483648) := by
        unfold ptR
        exact if_neg (by first | assumption | decide | exact xs_ (by decide) | exact xc_ (by decide) | exact x31_ (by decide) | omega)
      rw [hRr] at k
      exact k _ ⟨hR.1, hR.2.1, hR.2.2⟩
  · unfold lwC opV at h1
    refine r_if_eq (tgt := 33) hC dX6_part_7 rfl (fun h11 => ?_) (fun h11 => by omega)
    refine r_ldc hC dX6_part_33 co_RX6_160 rfl ?_
    refine y_iret hK rfl dX6_part_35 ?_
    have hRr : ptR V l f z w = (-2147483648) := by
      unfold ptR
      exact if_neg (by first | assumption | decide | exact xs_ (by decide) | exact xc_ (by decide) | exact x31_ (by decide) | omega)
    rw [hRr] at k
    exact k _ ⟨hR.1, hR.2.1, hR.2.2⟩
theorem hU_min {V : Mm} {l t : Int} (hn : 0 ≤ V 7 l 6) (h : ∀ j : Int, 0 ≤ j → j < V 7 l 6 → t < V 8 l j) : hU V l t = 0 := by
  have hb := hU_b (V := V) (i := l) (t := t) hn
  rcases (hc_spec (V 8 l) t (V 7 l 6).toNat).2 with q | q
  · exact q
  · have q2 : V 8 l (hU V l t - 1) ≤ t := q
    by_cases e : hU V l t = 0
    · exact e
    · have := h (hU V l t - 1) (by first | assumption | decide | exact xs_ (by decide) | exact xc_ (by decide) | exact x31_ (by decide) | omega) (by first | assumption | decide | exact xs_ (by decide) | exact xc_ (by decide) | exact x31_ (by decide) | omega)
      omega
theorem y_aheadOf {eb : Bool} {t : Int} {V : Mm} {d : Nat} {P : Option Vl → Mm → Prop} {σ : Mm} {l f : Int} (b_l : 0 ≤ l ∧ l ≤ 3) {σ0 : Mm} (ht : 6 ≤ t ∧ t ≤ 7) (hR : RS t σ0 V σ) (hG : GI V)  (k : 0 ≤ hU V l (f - 1) ∧ hU V l (f - 1) ≤ V 7 l 6 → P (some (vI (hU V l (f - 1)))) σ) : WT (true, eb, true) (d + 4) 216 [vR 30 0, vI l, vI f] σ P := by
  refine WT_in fun K hK => ?_
  have hK : StpY (true, eb, true) cX6_aheadOf RX6 (some .int) (WT (true, eb, true) (d + 3)) P K := hK
  have hM := hK.1
  have hC := hK.1.1
  show K 0 [some (vR 30 0), some (vI l), some (vI f)] [] σ
  refine r_rngz hC (fun g0 => ?_)
  have r_f : -2147483648 ≤ f ∧ f ≤ 2147483647 := inR_le (g0 (vI f) (by simp))
  have h6 := hG.1.h7 (l := l) (by first | assumption | decide | exact xs_ (by decide) | exact xc_ (by decide) | exact x31_ (by decide) | omega) (by first | assumption | decide | exact xs_ (by decide) | exact xc_ (by decide) | exact x31_ (by decide) | omega)
  have hmin : f = -2147483648 → hU V l (f - 1) = 0 := fun q => hU_min (by first | assumption | decide | exact xs_ (by decide) | exact xc_ (by decide) | exact x31_ (by decide) | omega) (fun j a b => by have := (hG.2.1.2.2.1 l j (by first | assumption | decide | exact xs_ (by decide) | exact xc_ (by decide) | exact x31_ (by decide) | omega) (by first | assumption | decide | exact xs_ (by decide) | exact xc_ (by decide) | exact x31_ (by decide) | omega) a (by first | assumption | decide | exact xs_ (by decide) | exact xc_ (by decide) | exact x31_ (by decide) | omega)).1; omega)
  have hbf := hU_b (V := V) (i := l) (t := f - 1) (by first | assumption | decide | exact xs_ (by decide) | exact xc_ (by decide) | exact x31_ (by decide) | omega)
  refine r_iload_n hC dX6_aheadOf_0 rfl ?_
  refine r_ldc hC dX6_aheadOf_1 co_RX6_160 rfl ?_
  refine r_icmp_ne (tgt := 10) hC dX6_aheadOf_3 rfl (fun h1 => ?_) (fun h1 => ?_)
  · refine r_aload_n hC dX6_aheadOf_10 rfl ?_
    refine r_iload_n hC dX6_aheadOf_11 rfl ?_
    refine r_iload_n hC dX6_aheadOf_12 rfl ?_
    refine r_iconst hC dX6_aheadOf_13 rfl ?_
    refine r_isubE hC ((f - 1)) dX6_aheadOf_14 (by first | assumption | decide | exact xs_ (by decide) | exact xc_ (by decide) | exact x31_ (by decide) | omega) (by unfold inR; omega) ?_
    refine z_inv2 hM dX6_aheadOf_15 vl_RX6_224 rfl rfl rfl (Nat.le_of_ble_eq_true rfl) (Nat.le_of_ble_eq_true rfl) ?_
    refine y_placeOf (by first | assumption | decide | exact xs_ (by decide) | exact xc_ (by decide) | exact x31_ (by decide) | omega) ht ⟨hR.1, hR.2.1, hR.2.2⟩ (by first | assumption | decide | exact xs_ (by decide) | exact xc_ (by decide) | exact x31_ (by decide) | omega) (hG.2.1.1 l (by first | assumption | decide | exact xs_ (by decide) | exact xc_ (by decide) | exact x31_ (by decide) | omega) (by first | assumption | decide | exact xs_ (by decide) | exact xc_ (by decide) | exact x31_ (by decide) | omega)) (by first | assumption | decide | exact xs_ (by decide) | exact xc_ (by decide) | exact x31_ (by decide) | omega) (fun h2 => ?_)
    refine y_iret hK rfl dX6_aheadOf_18 ?_
    have hv : hU V l (f - 1) = (hU V l (f - 1)) := by first | omega | rfl
    rw [hv] at k
    rw [hv] at hbf
    exact k hbf
  · refine r_iconst hC dX6_aheadOf_6 rfl ?_
    refine r_goto (tgt := 18) hC dX6_aheadOf_7 rfl ?_
    refine y_iret hK rfl dX6_aheadOf_18 ?_
    have hv : hU V l (f - 1) = 0 := by first | omega | rfl
    rw [hv] at k
    rw [hv] at hbf
    exact k hbf
theorem y_during {eb : Bool} {t : Int} {V : Mm} {d : Nat} {P : Option Vl → Mm → Prop} {σ : Mm} {l f z w : Int}  {σ0 : Mm} (ht : 6 ≤ t ∧ t ≤ 7) (hR : RS t σ0 V σ) (hG : GI V)  (k : ∀ ρ : Mm, RS t σ0 V ρ → P (some (vI (duR V l f z w))) ρ) : WT (true, eb, true) (d + 6) 217 [vR 30 0, vI l, vI f, vI z, vI w] σ P := by
  refine WT_in fun K hK => ?_
  have hK : StpY (true, eb, true) cX6_during RX6 (some .int) (WT (true, eb, true) (d + 5)) P K := hK
  have hM := hK.1
  have hC := hK.1.1
  show K 0 [some (vR 30 0), some (vI l), some (vI f), some (vI z), some (vI w), none, none] [] σ
  refine r_rngz hC (fun g0 => ?_)
  have r_l : -2147483648 ≤ l ∧ l ≤ 2147483647 := inR_le (g0 (vI l) (by simp))
  have r_f : -2147483648 ≤ f ∧ f ≤ 2147483647 := inR_le (g0 (vI f) (by simp))
  have r_z : -2147483648 ≤ z ∧ z ≤ 2147483647 := inR_le (g0 (vI z) (by simp))
  have r_w : -2147483648 ≤ w ∧ w ≤ 2147483647 := inR_le (g0 (vI w) (by simp))
  refine r_aload_n hC dX6_during_0 rfl ?_
  refine r_iload_n hC dX6_during_1 rfl ?_
  refine r_iload hC dX6_during_2 rfl ?_
  refine z_inv2 hM dX6_during_4 vl_RX6_207 rfl rfl rfl (Nat.le_of_ble_eq_true rfl) (Nat.le_of_ble_eq_true rfl) ?_
  refine y_isNumber (V := V) ht ⟨hR.1, hR.2.1, hR.2.2⟩ (fun l a b => (hG.2.1.2.2.2.1 l a b).2) (fun h1 => ?_) (fun h1 => ?_)
  · unfold lwC opV at h1
    have n_h1 := numF_rng (V 7 l 2)
    have h6 := hG.1.h7 (l := l) (by first | assumption | decide | exact xs_ (by decide) | exact xc_ (by decide) | exact x31_ (by decide) | omega) (by first | assumption | decide | exact xs_ (by decide) | exact xc_ (by decide) | exact x31_ (by decide) | omega)
    refine r_if_ne (tgt := 13) hC dX6_during_7 rfl (fun h2 => ?_) (fun h2 => by omega)
    refine r_aload_n hC dX6_during_13 rfl ?_
    refine r_iload_n hC dX6_during_14 rfl ?_
    refine r_iload_n hC dX6_during_15 rfl ?_
    refine z_inv2 hM dX6_during_16 vl_RX6_265 rfl rfl rfl (Nat.le_of_ble_eq_true rfl) (Nat.le_of_ble_eq_true rfl) ?_
    refine y_aheadOf (V := V) (by first | assumption | decide | exact xs_ (by decide) | exact xc_ (by decide) | exact x31_ (by decide) | omega) ht ⟨hR.1, hR.2.1, hR.2.2⟩ hG (fun h3 => ?_)
    refine r_istore hC dX6_during_19 rfl ?_
    refine r_aload_n hC dX6_during_21 rfl ?_
    refine r_iload_n hC dX6_during_22 rfl ?_
    refine r_iload_n hC dX6_during_23 rfl ?_
    refine z_inv2 hM dX6_during_24 vl_RX6_224 rfl rfl rfl (Nat.le_of_ble_eq_true rfl) (Nat.le_of_ble_eq_true rfl) ?_
    refine y_placeOf (by first | assumption | decide | exact xs_ (by decide) | exact xc_ (by decide) | exact x31_ (by decide) | omega) ht ⟨hR.1, hR.2.1, hR.2.2⟩ (by first | assumption | decide | exact xs_ (by decide) | exact xc_ (by decide) | exact x31_ (by decide) | omega) (hG.2.1.1 l (by first | assumption | decide | exact xs_ (by decide) | exact xc_ (by decide) | exact x31_ (by decide) | omega) (by first | assumption | decide | exact xs_ (by decide) | exact xc_ (by decide) | exact x31_ (by decide) | omega)) (by first | assumption | decide | exact xs_ (by decide) | exact xc_ (by decide) | exact x31_ (by decide) | omega) (fun h4 => ?_)
    refine r_iconst hC dX6_during_27 rfl ?_
    refine r_isubE hC (((hU V l z) - 1)) dX6_during_28 (by first | assumption | decide | exact xs_ (by decide) | exact xc_ (by decide) | exact x31_ (by decide) | omega) (by unfold inR; omega) ?_
    refine r_istore hC dX6_during_29 rfl ?_
    refine r_aload_n hC dX6_during_31 rfl ?_
    refine r_iload_n hC dX6_during_32 rfl ?_
    refine r_iload hC dX6_during_33 rfl ?_
    refine r_iload hC dX6_during_35 rfl ?_
    refine r_iload hC dX6_during_37 rfl ?_
    refine z_inv4 hM dX6_during_39 vl_RX6_243 rfl rfl rfl (Nat.le_of_ble_eq_true rfl) (Nat.le_of_ble_eq_true rfl) ?_
    refine y_comesFrom (V := V) (by first | assumption | decide | exact xs_ (by decide) | exact xc_ (by decide) | exact x31_ (by decide) | omega) (by first | assumption | decide | exact xs_ (by decide) | exact xc_ (by decide) | exact x31_ (by decide) | omega) (by first | assumption | decide | exact xs_ (by decide) | exact xc_ (by decide) | exact x31_ (by decide) | omega) (by first | assumption | decide | exact xs_ (by decide) | exact xc_ (by decide) | exact x31_ (by decide) | omega) ht ⟨hR.1, hR.2.1, hR.2.2⟩ (by first | assumption | decide | exact xs_ (by decide) | exact xc_ (by decide) | exact x31_ (by decide) | omega) (hG.2.1.lk hG.1 (l := l) (by first | assumption | decide | exact xs_ (by decide) | exact xc_ (by decide) | exact x31_ (by decide) | omega) (by first | assumption | decide | exact xs_ (by decide) | exact xc_ (by decide) | exact x31_ (by decide) | omega)) (by first | assumption | decide | exact xs_ (by decide) | exact xc_ (by decide) | exact x31_ (by decide) | omega) (fun ρ5 Rρ5 => ?_)
    refine y_iret hK rfl dX6_during_42 ?_
    have hRr : duR V l f z w = (cm (V 16 0) (V 15 0) (V 7 l 2) (fun j => V 9 l ((hU V l (f - 1)) + j)) (((hU V l z) - 1) + 1 - (hU V l (f - 1))).toNat w) := by
      unfold duR ptV
      first | exact if_pos (by first | assumption | decide | exact xs_ (by decide) | exact xc_ (by decide) | exact x31_ (by decide) | omega) | (rw [if_pos (by first | assumption | decide | exact xs_ (by decide) | exact xc_ (by decide) | exact x31_ (by decide) | omega)]; first | rfl | (rw [show (((hU V l z) - 1) + 1 : Int) = V 7 l 6 from by omega]; done) | (rw [show (((hU V l z) - 1) + 1 : Int) = hU V l z from by omega]; done))
    rw [hRr] at k
    exact k _ ⟨Rρ5.1, Rρ5.2.1, Rρ5.2.2⟩
  · unfold lwC opV at h1
    refine r_if_ne (tgt := 13) hC dX6_during_7 rfl (fun h6 => by omega) (fun h6 => ?_)
    refine r_ldc hC dX6_during_10 co_RX6_160 rfl ?_
    refine y_iret hK rfl dX6_during_12 ?_
    have hRr : duR V l f z w = (-2147483648) := by
      unfold duR
      exact if_neg (by first | assumption | decide | exact xs_ (by decide) | exact xc_ (by decide) | exact x31_ (by decide) | omega)
    rw [hRr] at k
    exact k _ ⟨hR.1, hR.2.1, hR.2.2⟩
theorem y_many {eb : Bool} {t : Int} {V : Mm} {d : Nat} {P : Option Vl → Mm → Prop} {σ : Mm} {l f z : Int}  {σ0 : Mm} (ht : 6 ≤ t ∧ t ≤ 7) (hR : RS t σ0 V σ) (hG : GI V)  (k : ∀ ρ : Mm, RS t σ0 V ρ → P (some (vI (mnR V l f z))) ρ) : WT (true, eb, true) (d + 5) 218 [vR 30 0, vI l, vI f, vI z] σ P := by
  refine WT_in fun K hK => ?_
  have hK : StpY (true, eb, true) cX6_many RX6 (some .int) (WT (true, eb, true) (d + 4)) P K := hK
  have hM := hK.1
  have hC := hK.1.1
  show K 0 [some (vR 30 0), some (vI l), some (vI f), some (vI z), none] [] σ
  refine r_rngz hC (fun g0 => ?_)
  have r_l : -2147483648 ≤ l ∧ l ≤ 2147483647 := inR_le (g0 (vI l) (by simp))
  have r_f : -2147483648 ≤ f ∧ f ≤ 2147483647 := inR_le (g0 (vI f) (by simp))
  have r_z : -2147483648 ≤ z ∧ z ≤ 2147483647 := inR_le (g0 (vI z) (by simp))
  refine r_aload_n hC dX6_many_0 rfl ?_
  refine r_iload_n hC dX6_many_1 rfl ?_
  refine z_inv1 hM dX6_many_2 vl_RX6_124 rfl rfl rfl (Nat.le_of_ble_eq_true rfl) (Nat.le_of_ble_eq_true rfl) ?_
  refine y_isLane (V := V) ht ⟨hR.1, hR.2.1, hR.2.2⟩ (fun h1 => ?_) (fun h1 => ?_)
  · unfold opV at h1
    refine r_if_ne (tgt := 10) hC dX6_many_5 rfl (fun h2 => ?_) (fun h2 => by omega)
    have h6 := hG.1.h7 (l := l) (by first | assumption | decide | exact xs_ (by decide) | exact xc_ (by decide) | exact x31_ (by decide) | omega) (by first | assumption | decide | exact xs_ (by decide) | exact xc_ (by decide) | exact x31_ (by decide) | omega)
    have h10 := hG.2.1.2.1 l (by first | assumption | decide | exact xs_ (by decide) | exact xc_ (by decide) | exact x31_ (by decide) | omega) (by first | assumption | decide | exact xs_ (by decide) | exact xc_ (by decide) | exact x31_ (by decide) | omega)
    have hlk := hG.2.1.2.2.2.2.2.1 l (by first | assumption | decide | exact xs_ (by decide) | exact xc_ (by decide) | exact x31_ (by decide) | omega) (by first | assumption | decide | exact xs_ (by decide) | exact xc_ (by decide) | exact x31_ (by decide) | omega)
    unfold opV at hlk
    have hk13 : -1 ≤ V 13 l 0 ∧ V 13 l 0 ≤ 3 := by omega
    have hkn := hG.1.2.2.2 l (by first | assumption | decide | exact xs_ (by decide) | exact xc_ (by decide) | exact x31_ (by decide) | omega) (by first | assumption | decide | exact xs_ (by decide) | exact xc_ (by decide) | exact x31_ (by decide) | omega)
    refine r_aload_n hC dX6_many_10 rfl ?_
    refine r_iload_n hC dX6_many_11 rfl ?_
    refine r_iload_n hC dX6_many_12 rfl ?_
    refine z_inv2 hM dX6_many_13 vl_RX6_224 rfl rfl rfl (Nat.le_of_ble_eq_true rfl) (Nat.le_of_ble_eq_true rfl) ?_
    refine y_placeOf (by first | assumption | decide | exact xs_ (by decide) | exact xc_ (by decide) | exact x31_ (by decide) | omega) ht ⟨hR.1, hR.2.1, hR.2.2⟩ (by first | assumption | decide | exact xs_ (by decide) | exact xc_ (by decide) | exact x31_ (by decide) | omega) (hG.2.1.1 l (by first | assumption | decide | exact xs_ (by decide) | exact xc_ (by decide) | exact x31_ (by decide) | omega) (by first | assumption | decide | exact xs_ (by decide) | exact xc_ (by decide) | exact x31_ (by decide) | omega)) (by first | assumption | decide | exact xs_ (by decide) | exact xc_ (by decide) | exact x31_ (by decide) | omega) (fun h3 => ?_)
    refine r_aload_n hC dX6_many_16 rfl ?_
    refine r_iload_n hC dX6_many_17 rfl ?_
    refine r_iload_n hC dX6_many_18 rfl ?_
    refine z_inv2 hM dX6_many_19 vl_RX6_265 rfl rfl rfl (Nat.le_of_ble_eq_true rfl) (Nat.le_of_ble_eq_true rfl) ?_
    refine y_aheadOf (V := V) (by first | assumption | decide | exact xs_ (by decide) | exact xc_ (by decide) | exact x31_ (by decide) | omega) ht ⟨hR.1, hR.2.1, hR.2.2⟩ hG (fun h4 => ?_)
    refine r_isubE hC (((hU V l z) - (hU V l (f - 1)))) dX6_many_22 (by first | assumption | decide | exact xs_ (by decide) | exact xc_ (by decide) | exact x31_ (by decide) | omega) (by unfold inR; omega) ?_
    refine r_istore hC dX6_many_23 rfl ?_
    refine r_iload hC dX6_many_25 rfl ?_
    refine r_if_ge (tgt := 34) hC dX6_many_27 rfl (fun h5 => ?_) (fun h5 => ?_)
    · refine r_iload hC dX6_many_34 rfl ?_
      refine y_iret hK rfl dX6_many_36 ?_
      have hRr : mnR V l f z = ((hU V l z) - (hU V l (f - 1))) := by
        unfold mnR
        first | exact if_neg (by first | assumption | decide | exact xs_ (by decide) | exact xc_ (by decide) | exact x31_ (by decide) | omega) | (rw [if_pos (by first | assumption | decide | exact xs_ (by decide) | exact xc_ (by decide) | exact x31_ (by decide) | omega)]; omega)
      rw [hRr] at k
      exact k _ ⟨hR.1, hR.2.1, hR.2.2⟩
    · refine r_iconst hC dX6_many_30 rfl ?_
      refine r_goto (tgt := 36) hC dX6_many_31 rfl ?_
      refine y_iret hK rfl dX6_many_36 ?_
      have hRr : mnR V l f z = 0 := by
        unfold mnR
        first | exact if_neg (by first | assumption | decide | exact xs_ (by decide) | exact xc_ (by decide) | exact x31_ (by decide) | omega) | (rw [if_pos (by first | assumption | decide | exact xs_ (by decide) | exact xc_ (by decide) | exact x31_ (by decide) | omega)]; omega)
      rw [hRr] at k
      exact k _ ⟨hR.1, hR.2.1, hR.2.2⟩
  · unfold opV at h1
    refine r_if_ne (tgt := 10) hC dX6_many_5 rfl (fun h6 => by omega) (fun h6 => ?_)
    refine r_iconst hC dX6_many_8 rfl ?_
    refine y_iret hK rfl dX6_many_9 ?_
    have hRr : mnR V l f z = (-1) := by
      unfold mnR
      first | exact if_neg (by first | assumption | decide | exact xs_ (by decide) | exact xc_ (by decide) | exact x31_ (by decide) | omega) | (rw [if_pos (by first | assumption | decide | exact xs_ (by decide) | exact xc_ (by decide) | exact x31_ (by decide) | omega)]; omega)
    rw [hRr] at k
    exact k _ ⟨hR.1, hR.2.1, hR.2.2⟩
theorem y_state {eb : Bool} {t : Int} {V : Mm} {d : Nat} {P : Option Vl → Mm → Prop} {σ : Mm} {l w : Int}  {σ0 : Mm} (ht : 6 ≤ t ∧ t ≤ 7) (hR : RS t σ0 V σ) (hG : GI V)  (k : ∀ ρ : Mm, RS t σ0 V ρ → P (some (vI (stR V l w))) ρ) : WT (true, eb, true) (d + 3) 180 [vR 30 0, vI l, vI w] σ P := by
  refine WT_in fun K hK => ?_
  have hK : StpY (true, eb, true) cX6_state RX6 (some .int) (WT (true, eb, true) (d + 2)) P K := hK
  have hM := hK.1
  have hC := hK.1.1
  show K 0 [some (vR 30 0), some (vI l), some (vI w)] [] σ
  refine r_rngz hC (fun g0 => ?_)
  have r_l : -2147483648 ≤ l ∧ l ≤ 2147483647 := inR_le (g0 (vI l) (by simp))
  have r_w : -2147483648 ≤ w ∧ w ≤ 2147483647 := inR_le (g0 (vI w) (by simp))
  refine r_aload_n hC dX6_state_0 rfl ?_
  refine r_iload_n hC dX6_state_1 rfl ?_
  refine z_inv1 hM dX6_state_2 vl_RX6_124 rfl rfl rfl (Nat.le_of_ble_eq_true rfl) (Nat.le_of_ble_eq_true rfl) ?_
  refine y_isLane (V := V) ht ⟨hR.1, hR.2.1, hR.2.2⟩ (fun h1 => ?_) (fun h1 => ?_)
  · unfold opV at h1
    refine r_if_ne (tgt := 10) hC dX6_state_5 rfl (fun h2 => ?_) (fun h2 => by omega)
    refine r_iload_n hC dX6_state_10 rfl ?_
    rcases (by omega : (w < 0 ∨ 6 < w) ∨ w = 0 ∨ w = 1 ∨ w = 2 ∨ w = 3 ∨ w = 4 ∨ w = 5 ∨ w = 6) with h3 | h3 | h3 | h3 | h3 | h3 | h3 | h3
    · refine r_tableOut (tgt := 108) hC dX6_state_11 h3 rfl ?_
      refine r_iconst hC dX6_state_108 rfl ?_
      refine y_iret hK rfl dX6_state_109 ?_
      have hRr : stR V l w = (-1) := by
        unfold stR
        (repeat' split) <;> first | rfl | omega
      rw [hRr] at k
      exact k _ ⟨hR.1, hR.2.1, hR.2.2⟩
    · refine r_tableIn (tgt := 52) (off := 41) hC dX6_state_11 (by first | assumption | decide | exact xs_ (by decide) | exact xc_ (by decide) | exact x31_ (by decide) | omega) (by first | assumption | decide | exact xs_ (by decide) | exact xc_ (by decide) | exact x31_ (by decide) | omega) (by rw [h3]; rfl) rfl ?_
      refine r_aload_n hC dX6_state_52 rfl ?_
      refine r_iload_n hC dX6_state_53 rfl ?_
      refine r_bipush hC dX6_state_54 rfl ?_
      refine z_inv2 hM dX6_state_56 vl_RX6_80 rfl rfl rfl (Nat.le_of_ble_eq_true rfl) (Nat.le_of_ble_eq_true rfl) ?_
      refine y_of (by first | assumption | decide | exact xs_ (by decide) | exact xc_ (by decide) | exact x31_ (by decide) | omega) (by first | assumption | decide | exact xs_ (by decide) | exact xc_ (by decide) | exact x31_ (by decide) | omega) (by first | assumption | decide | exact xs_ (by decide) | exact xc_ (by decide) | exact x31_ (by decide) | omega) (fun o4 => ?_)
      have e5 : σ 31 0 (22 * l + 12) = (V 11 l 0) := (hR.1.a11 (s := 0) (f := 12) (by first | assumption | decide | exact xs_ (by decide) | exact xc_ (by decide) | exact x31_ (by decide) | omega) (by first | assumption | decide | exact xs_ (by decide) | exact xc_ (by decide) | exact x31_ (by decide) | omega) (by first | assumption | decide | exact xs_ (by decide) | exact xc_ (by decide) | exact x31_ (by decide) | omega)).trans (rfl)
      rw [e5] at o4 ⊢
      refine y_iret hK rfl dX6_state_59 ?_
      have hRr : stR V l w = (V 11 l 0) := by
        unfold stR
        (repeat' split) <;> first | rfl | omega
      rw [hRr] at k
      exact k _ ⟨hR.1, hR.2.1, hR.2.2⟩
    · refine r_tableIn (tgt := 60) (off := 49) hC dX6_state_11 (by first | assumption | decide | exact xs_ (by decide) | exact xc_ (by decide) | exact x31_ (by decide) | omega) (by first | assumption | decide | exact xs_ (by decide) | exact xc_ (by decide) | exact x31_ (by decide) | omega) (by rw [h3]; rfl) rfl ?_
      refine r_aload_n hC dX6_state_60 rfl ?_
      refine r_iload_n hC dX6_state_61 rfl ?_
      refine r_bipush hC dX6_state_62 rfl ?_
      refine z_inv2 hM dX6_state_64 vl_RX6_80 rfl rfl rfl (Nat.le_of_ble_eq_true rfl) (Nat.le_of_ble_eq_true rfl) ?_
      refine y_of (by first | assumption | decide | exact xs_ (by decide) | exact xc_ (by decide) | exact x31_ (by decide) | omega) (by first | assumption | decide | exact xs_ (by decide) | exact xc_ (by decide) | exact x31_ (by decide) | omega) (by first | assumption | decide | exact xs_ (by decide) | exact xc_ (by decide) | exact x31_ (by decide) | omega) (fun o6 => ?_)
      have e7 : σ 31 0 (22 * l + 13) = (V 11 l 1) := (hR.1.a11 (s := 1) (f := 13) (by first | assumption | decide | exact xs_ (by decide) | exact xc_ (by decide) | exact x31_ (by decide) | omega) (by first | assumption | decide | exact xs_ (by decide) | exact xc_ (by decide) | exact x31_ (by decide) | omega) (by first | assumption | decide | exact xs_ (by decide) | exact xc_ (by decide) | exact x31_ (by decide) | omega)).trans (rfl)
      rw [e7] at o6 ⊢
      refine y_iret hK rfl dX6_state_67 ?_
      have hRr : stR V l w = (V 11 l 1) := by
        unfold stR
        (repeat' split) <;> first | rfl | omega
      rw [hRr] at k
      exact k _ ⟨hR.1, hR.2.1, hR.2.2⟩
    · refine r_tableIn (tgt := 68) (off := 57) hC dX6_state_11 (by first | assumption | decide | exact xs_ (by decide) | exact xc_ (by decide) | exact x31_ (by decide) | omega) (by first | assumption | decide | exact xs_ (by decide) | exact xc_ (by decide) | exact x31_ (by decide) | omega) (by rw [h3]; rfl) rfl ?_
      refine r_aload_n hC dX6_state_68 rfl ?_
      refine r_iload_n hC dX6_state_69 rfl ?_
      refine r_bipush hC dX6_state_70 rfl ?_
      refine z_inv2 hM dX6_state_72 vl_RX6_80 rfl rfl rfl (Nat.le_of_ble_eq_true rfl) (Nat.le_of_ble_eq_true rfl) ?_
      refine y_of (by first | assumption | decide | exact xs_ (by decide) | exact xc_ (by decide) | exact x31_ (by decide) | omega) (by first | assumption | decide | exact xs_ (by decide) | exact xc_ (by decide) | exact x31_ (by decide) | omega) (by first | assumption | decide | exact xs_ (by decide) | exact xc_ (by decide) | exact x31_ (by decide) | omega) (fun o8 => ?_)
      have e9 : σ 31 0 (22 * l + 14) = (V 11 l 2) := (hR.1.a11 (s := 2) (f := 14) (by first | assumption | decide | exact xs_ (by decide) | exact xc_ (by decide) | exact x31_ (by decide) | omega) (by first | assumption | decide | exact xs_ (by decide) | exact xc_ (by decide) | exact x31_ (by decide) | omega) (by first | assumption | decide | exact xs_ (by decide) | exact xc_ (by decide) | exact x31_ (by decide) | omega)).trans (rfl)
      rw [e9] at o8 ⊢
      refine y_iret hK rfl dX6_state_75 ?_
      have hRr : stR V l w = (V 11 l 2) := by
        unfold stR
        (repeat' split) <;> first | rfl | omega
      rw [hRr] at k
      exact k _ ⟨hR.1, hR.2.1, hR.2.2⟩
    · refine r_tableIn (tgt := 76) (off := 65) hC dX6_state_11 (by first | assumption | decide | exact xs_ (by decide) | exact xc_ (by decide) | exact x31_ (by decide) | omega) (by first | assumption | decide | exact xs_ (by decide) | exact xc_ (by decide) | exact x31_ (by decide) | omega) (by rw [h3]; rfl) rfl ?_
      refine r_aload_n hC dX6_state_76 rfl ?_
      refine r_iload_n hC dX6_state_77 rfl ?_
      refine r_bipush hC dX6_state_78 rfl ?_
      refine z_inv2 hM dX6_state_80 vl_RX6_80 rfl rfl rfl (Nat.le_of_ble_eq_true rfl) (Nat.le_of_ble_eq_true rfl) ?_
      refine y_of (by first | assumption | decide | exact xs_ (by decide) | exact xc_ (by decide) | exact x31_ (by decide) | omega) (by first | assumption | decide | exact xs_ (by decide) | exact xc_ (by decide) | exact x31_ (by decide) | omega) (by first | assumption | decide | exact xs_ (by decide) | exact xc_ (by decide) | exact x31_ (by decide) | omega) (fun o10 => ?_)
      have e11 : σ 31 0 (22 * l + 15) = (V 11 l 3) := (hR.1.a11 (s := 3) (f := 15) (by first | assumption | decide | exact xs_ (by decide) | exact xc_ (by decide) | exact x31_ (by decide) | omega) (by first | assumption | decide | exact xs_ (by decide) | exact xc_ (by decide) | exact x31_ (by decide) | omega) (by first | assumption | decide | exact xs_ (by decide) | exact xc_ (by decide) | exact x31_ (by decide) | omega)).trans (rfl)
      rw [e11] at o10 ⊢
      refine y_iret hK rfl dX6_state_83 ?_
      have hRr : stR V l w = (V 11 l 3) := by
        unfold stR
        (repeat' split) <;> first | rfl | omega
      rw [hRr] at k
      exact k _ ⟨hR.1, hR.2.1, hR.2.2⟩
    · refine r_tableIn (tgt := 84) (off := 73) hC dX6_state_11 (by first | assumption | decide | exact xs_ (by decide) | exact xc_ (by decide) | exact x31_ (by decide) | omega) (by first | assumption | decide | exact xs_ (by decide) | exact xc_ (by decide) | exact x31_ (by decide) | omega) (by rw [h3]; rfl) rfl ?_
      refine r_aload_n hC dX6_state_84 rfl ?_
      refine r_iload_n hC dX6_state_85 rfl ?_
      refine r_bipush hC dX6_state_86 rfl ?_
      refine z_inv2 hM dX6_state_88 vl_RX6_80 rfl rfl rfl (Nat.le_of_ble_eq_true rfl) (Nat.le_of_ble_eq_true rfl) ?_
      refine y_of (by first | assumption | decide | exact xs_ (by decide) | exact xc_ (by decide) | exact x31_ (by decide) | omega) (by first | assumption | decide | exact xs_ (by decide) | exact xc_ (by decide) | exact x31_ (by decide) | omega) (by first | assumption | decide | exact xs_ (by decide) | exact xc_ (by decide) | exact x31_ (by decide) | omega) (fun o12 => ?_)
      have e13 : σ 31 0 (22 * l + 18) = (V 11 l 4) := (hR.1.a11 (s := 4) (f := 18) (by first | assumption | decide | exact xs_ (by decide) | exact xc_ (by decide) | exact x31_ (by decide) | omega) (by first | assumption | decide | exact xs_ (by decide) | exact xc_ (by decide) | exact x31_ (by decide) | omega) (by first | assumption | decide | exact xs_ (by decide) | exact xc_ (by decide) | exact x31_ (by decide) | omega)).trans (rfl)
      rw [e13] at o12 ⊢
      refine y_iret hK rfl dX6_state_91 ?_
      have hRr : stR V l w = (V 11 l 4) := by
        unfold stR
        (repeat' split) <;> first | rfl | omega
      rw [hRr] at k
      exact k _ ⟨hR.1, hR.2.1, hR.2.2⟩
    · refine r_tableIn (tgt := 92) (off := 81) hC dX6_state_11 (by first | assumption | decide | exact xs_ (by decide) | exact xc_ (by decide) | exact x31_ (by decide) | omega) (by first | assumption | decide | exact xs_ (by decide) | exact xc_ (by decide) | exact x31_ (by decide) | omega) (by rw [h3]; rfl) rfl ?_
      refine r_aload_n hC dX6_state_92 rfl ?_
      refine r_iload_n hC dX6_state_93 rfl ?_
      refine r_bipush hC dX6_state_94 rfl ?_
      refine z_inv2 hM dX6_state_96 vl_RX6_80 rfl rfl rfl (Nat.le_of_ble_eq_true rfl) (Nat.le_of_ble_eq_true rfl) ?_
      refine y_of (by first | assumption | decide | exact xs_ (by decide) | exact xc_ (by decide) | exact x31_ (by decide) | omega) (by first | assumption | decide | exact xs_ (by decide) | exact xc_ (by decide) | exact x31_ (by decide) | omega) (by first | assumption | decide | exact xs_ (by decide) | exact xc_ (by decide) | exact x31_ (by decide) | omega) (fun o14 => ?_)
      have e15 : σ 31 0 (22 * l + 19) = (V 11 l 5) := (hR.1.a11 (s := 5) (f := 19) (by first | assumption | decide | exact xs_ (by decide) | exact xc_ (by decide) | exact x31_ (by decide) | omega) (by first | assumption | decide | exact xs_ (by decide) | exact xc_ (by decide) | exact x31_ (by decide) | omega) (by first | assumption | decide | exact xs_ (by decide) | exact xc_ (by decide) | exact x31_ (by decide) | omega)).trans (rfl)
      rw [e15] at o14 ⊢
      refine y_iret hK rfl dX6_state_99 ?_
      have hRr : stR V l w = (V 11 l 5) := by
        unfold stR
        (repeat' split) <;> first | rfl | omega
      rw [hRr] at k
      exact k _ ⟨hR.1, hR.2.1, hR.2.2⟩
    · refine r_tableIn (tgt := 100) (off := 89) hC dX6_state_11 (by first | assumption | decide | exact xs_ (by decide) | exact xc_ (by decide) | exact x31_ (by decide) | omega) (by first | assumption | decide | exact xs_ (by decide) | exact xc_ (by decide) | exact x31_ (by decide) | omega) (by rw [h3]; rfl) rfl ?_
      refine r_aload_n hC dX6_state_100 rfl ?_
      refine r_iload_n hC dX6_state_101 rfl ?_
      refine r_bipush hC dX6_state_102 rfl ?_
      refine z_inv2 hM dX6_state_104 vl_RX6_80 rfl rfl rfl (Nat.le_of_ble_eq_true rfl) (Nat.le_of_ble_eq_true rfl) ?_
      refine y_of (by first | assumption | decide | exact xs_ (by decide) | exact xc_ (by decide) | exact x31_ (by decide) | omega) (by first | assumption | decide | exact xs_ (by decide) | exact xc_ (by decide) | exact x31_ (by decide) | omega) (by first | assumption | decide | exact xs_ (by decide) | exact xc_ (by decide) | exact x31_ (by decide) | omega) (fun o16 => ?_)
      have e17 : σ 31 0 (22 * l + 20) = (V 11 l 6) := (hR.1.a11 (s := 6) (f := 20) (by first | assumption | decide | exact xs_ (by decide) | exact xc_ (by decide) | exact x31_ (by decide) | omega) (by first | assumption | decide | exact xs_ (by decide) | exact xc_ (by decide) | exact x31_ (by decide) | omega) (by first | assumption | decide | exact xs_ (by decide) | exact xc_ (by decide) | exact x31_ (by decide) | omega)).trans (rfl)
      rw [e17] at o16 ⊢
      refine y_iret hK rfl dX6_state_107 ?_
      have hRr : stR V l w = (V 11 l 6) := by
        unfold stR
        (repeat' split) <;> first | rfl | omega
      rw [hRr] at k
      exact k _ ⟨hR.1, hR.2.1, hR.2.2⟩
  · unfold opV at h1
    refine r_if_ne (tgt := 10) hC dX6_state_5 rfl (fun h18 => by omega) (fun h18 => ?_)
    refine r_iconst hC dX6_state_8 rfl ?_
    refine y_iret hK rfl dX6_state_9 ?_
    have hRr : stR V l w = (-1) := by
      unfold stR
      (repeat' split) <;> first | rfl | omega
    rw [hRr] at k
    exact k _ ⟨hR.1, hR.2.1, hR.2.2⟩
theorem y_soon {eb : Bool} {t : Int} {V : Mm} {d : Nat} {P : Option Vl → Mm → Prop} {σ : Mm} {l w : Int}  {σ0 : Mm} (ht : 6 ≤ t ∧ t ≤ 7) (hR : RS t σ0 V σ) (hG : GI V)  (k : ∀ ρ : Mm, RS t σ0 V ρ → P (some (vI (soR V l w))) ρ) : WT (true, eb, true) (d + 3) 181 [vR 30 0, vI l, vI w] σ P := by
  refine WT_in fun K hK => ?_
  have hK : StpY (true, eb, true) cX6_soon RX6 (some .int) (WT (true, eb, true) (d + 2)) P K := hK
  have hM := hK.1
  have hC := hK.1.1
  show K 0 [some (vR 30 0), some (vI l), some (vI w)] [] σ
  refine r_rngz hC (fun g0 => ?_)
  have r_l : -2147483648 ≤ l ∧ l ≤ 2147483647 := inR_le (g0 (vI l) (by simp))
  have r_w : -2147483648 ≤ w ∧ w ≤ 2147483647 := inR_le (g0 (vI w) (by simp))
  refine r_aload_n hC dX6_soon_0 rfl ?_
  refine r_iload_n hC dX6_soon_1 rfl ?_
  refine z_inv1 hM dX6_soon_2 vl_RX6_124 rfl rfl rfl (Nat.le_of_ble_eq_true rfl) (Nat.le_of_ble_eq_true rfl) ?_
  refine y_isLane (V := V) ht ⟨hR.1, hR.2.1, hR.2.2⟩ (fun h1 => ?_) (fun h1 => ?_)
  · unfold opV at h1
    refine r_if_eq (tgt := 28) hC dX6_soon_5 rfl (fun h2 => by omega) (fun h2 => ?_)
    refine r_iload_n hC dX6_soon_8 rfl ?_
    refine r_iconst hC dX6_soon_9 rfl ?_
    refine r_iconst hC dX6_soon_10 rfl ?_
    refine z_ins3 hM dX6_soon_11 tl_RX6_76 rfl (Nat.le_of_ble_eq_true rfl) (Nat.le_of_ble_eq_true rfl) ?_
    refine m_isIn (fun h4 => ?_) (fun h4 => ?_)
    · refine r_if_eq (tgt := 28) hC dX6_soon_14 rfl (fun h5 => by omega) (fun h5 => ?_)
      refine r_iload_n hC dX6_soon_17 rfl ?_
      refine r_aload_n hC dX6_soon_18 rfl ?_
      refine r_iload_n hC dX6_soon_19 rfl ?_
      refine r_bipush hC dX6_soon_20 rfl ?_
      refine z_inv2 hM dX6_soon_22 vl_RX6_80 rfl rfl rfl (Nat.le_of_ble_eq_true rfl) (Nat.le_of_ble_eq_true rfl) ?_
      refine y_of (by first | assumption | decide | exact xs_ (by decide) | exact xc_ (by decide) | exact x31_ (by decide) | omega) (by first | assumption | decide | exact xs_ (by decide) | exact xc_ (by decide) | exact x31_ (by decide) | omega) (by first | assumption | decide | exact xs_ (by decide) | exact xc_ (by decide) | exact x31_ (by decide) | omega) (fun o6 => ?_)
      rw [(hR.2.1 l (by first | assumption | decide | exact xs_ (by decide) | exact xc_ (by decide) | exact x31_ (by decide) | omega) (by first | assumption | decide | exact xs_ (by decide) | exact xc_ (by decide) | exact x31_ (by decide) | omega)).1]
      have hFl := FIK (hG.1.2.1 l (by first | assumption | decide | exact xs_ (by decide) | exact xc_ (by decide) | exact x31_ (by decide) | omega) (by first | assumption | decide | exact xs_ (by decide) | exact xc_ (by decide) | exact x31_ (by decide) | omega)) (by have := hG.1.h7 (l := l) (by first | assumption | decide | exact xs_ (by decide) | exact xc_ (by decide) | exact x31_ (by decide) | omega) (by first | assumption | decide | exact xs_ (by decide) | exact xc_ (by decide) | exact x31_ (by decide) | omega); omega)
      obtain ⟨fl, hfl⟩ : ∃ fl : Int, fl = (if V 11 l 3 = 0 then 0 else 1) := ⟨_, rfl⟩
      rw [← hfl]
      have hfl2 : (fl = 0 ∧ V 11 l 3 = 0) ∨ (fl = 1 ∧ V 11 l 3 ≠ 0) := by rw [hfl]; split <;> omega
      refine r_icmp_eq (tgt := 30) hC dX6_soon_25 rfl (fun h7 => ?_) (fun h7 => ?_)
      · refine r_iload_n hC dX6_soon_30 rfl ?_
        refine r_if_ne (tgt := 54) hC dX6_soon_31 rfl (fun h8 => ?_) (fun h8 => ?_)
        · refine r_aload_n hC dX6_soon_54 rfl ?_
          refine r_iload_n hC dX6_soon_55 rfl ?_
          refine r_bipush hC dX6_soon_56 rfl ?_
          refine z_inv2 hM dX6_soon_58 vl_RX6_80 rfl rfl rfl (Nat.le_of_ble_eq_true rfl) (Nat.le_of_ble_eq_true rfl) ?_
          refine y_of (by first | assumption | decide | exact xs_ (by decide) | exact xc_ (by decide) | exact x31_ (by decide) | omega) (by first | assumption | decide | exact xs_ (by decide) | exact xc_ (by decide) | exact x31_ (by decide) | omega) (by first | assumption | decide | exact xs_ (by decide) | exact xc_ (by decide) | exact x31_ (by decide) | omega) (fun o9 => ?_)
          have e10 : σ 31 0 (22 * l + 15) = (V 11 l 3) := (hR.1.a11 (s := 3) (f := 15) (by first | assumption | decide | exact xs_ (by decide) | exact xc_ (by decide) | exact x31_ (by decide) | omega) (by first | assumption | decide | exact xs_ (by decide) | exact xc_ (by decide) | exact x31_ (by decide) | omega) (by first | assumption | decide | exact xs_ (by decide) | exact xc_ (by decide) | exact x31_ (by decide) | omega)).trans (rfl)
          rw [e10] at o9 ⊢
          refine r_iconst hC dX6_soon_61 rfl ?_
          refine r_iaddE hC (((V 11 l 3) + 3)) dX6_soon_62 (by first | assumption | decide | exact xs_ (by decide) | exact xc_ (by decide) | exact x31_ (by decide) | omega) (by unfold inR; omega) ?_
          refine r_iconst hC dX6_soon_63 rfl ?_
          refine r_isubE hC (((V 11 l 3) + 2)) dX6_soon_64 (by first | assumption | decide | exact xs_ (by decide) | exact xc_ (by decide) | exact x31_ (by decide) | omega) (by unfold inR; omega) ?_
          refine r_iconst hC dX6_soon_65 rfl ?_
          refine r_idivN hC dX6_soon_66 (by first | assumption | decide | exact xs_ (by decide) | exact xc_ (by decide) | exact x31_ (by decide) | omega) (by first | assumption | decide | exact xs_ (by decide) | exact xc_ (by decide) | exact x31_ (by decide) | omega) ?_
          refine y_iret hK rfl dX6_soon_67 ?_
          have hRr : soR V l w = (((V 11 l 3) + 2) / 3) := by
            unfold soR
            (repeat' split) <;> first | rfl | omega
          rw [hRr] at k
          exact k _ ⟨hR.1, hR.2.1, hR.2.2⟩
        · refine r_aload_n hC dX6_soon_34 rfl ?_
          refine r_iload_n hC dX6_soon_35 rfl ?_
          refine r_bipush hC dX6_soon_36 rfl ?_
          refine z_inv2 hM dX6_soon_38 vl_RX6_80 rfl rfl rfl (Nat.le_of_ble_eq_true rfl) (Nat.le_of_ble_eq_true rfl) ?_
          refine y_of (by first | assumption | decide | exact xs_ (by decide) | exact xc_ (by decide) | exact x31_ (by decide) | omega) (by first | assumption | decide | exact xs_ (by decide) | exact xc_ (by decide) | exact x31_ (by decide) | omega) (by first | assumption | decide | exact xs_ (by decide) | exact xc_ (by decide) | exact x31_ (by decide) | omega) (fun o11 => ?_)
          have e12 : σ 31 0 (22 * l + 12) = (V 11 l 0) := (hR.1.a11 (s := 0) (f := 12) (by first | assumption | decide | exact xs_ (by decide) | exact xc_ (by decide) | exact x31_ (by decide) | omega) (by first | assumption | decide | exact xs_ (by decide) | exact xc_ (by decide) | exact x31_ (by decide) | omega) (by first | assumption | decide | exact xs_ (by decide) | exact xc_ (by decide) | exact x31_ (by decide) | omega)).trans (rfl)
          rw [e12] at o11 ⊢
          refine r_aload_n hC dX6_soon_41 rfl ?_
          refine r_iload_n hC dX6_soon_42 rfl ?_
          refine r_bipush hC dX6_soon_43 rfl ?_
          refine z_inv2 hM dX6_soon_45 vl_RX6_80 rfl rfl rfl (Nat.le_of_ble_eq_true rfl) (Nat.le_of_ble_eq_true rfl) ?_
          refine y_of (by first | assumption | decide | exact xs_ (by decide) | exact xc_ (by decide) | exact x31_ (by decide) | omega) (by first | assumption | decide | exact xs_ (by decide) | exact xc_ (by decide) | exact x31_ (by decide) | omega) (by first | assumption | decide | exact xs_ (by decide) | exact xc_ (by decide) | exact x31_ (by decide) | omega) (fun o13 => ?_)
          have e14 : σ 31 0 (22 * l + 14) = (V 11 l 2) := (hR.1.a11 (s := 2) (f := 14) (by first | assumption | decide | exact xs_ (by decide) | exact xc_ (by decide) | exact x31_ (by decide) | omega) (by first | assumption | decide | exact xs_ (by decide) | exact xc_ (by decide) | exact x31_ (by decide) | omega) (by first | assumption | decide | exact xs_ (by decide) | exact xc_ (by decide) | exact x31_ (by decide) | omega)).trans (rfl)
          rw [e14] at o13 ⊢
          refine r_isubE hC (((V 11 l 0) - (V 11 l 2))) dX6_soon_48 (by first | assumption | decide | exact xs_ (by decide) | exact xc_ (by decide) | exact x31_ (by decide) | omega) (by unfold inR; omega) ?_
          refine r_iconst hC dX6_soon_49 rfl ?_
          refine r_iaddE hC ((((V 11 l 0) - (V 11 l 2)) + 1)) dX6_soon_50 (by first | assumption | decide | exact xs_ (by decide) | exact xc_ (by decide) | exact x31_ (by decide) | omega) (by unfold inR; omega) ?_
          refine r_goto (tgt := 67) hC dX6_soon_51 rfl ?_
          refine y_iret hK rfl dX6_soon_67 ?_
          have hRr : soR V l w = (((V 11 l 0) - (V 11 l 2)) + 1) := by
            unfold soR
            (repeat' split) <;> first | rfl | omega
          rw [hRr] at k
          exact k _ ⟨hR.1, hR.2.1, hR.2.2⟩
      · refine r_iconst hC dX6_soon_28 rfl ?_
        refine y_iret hK rfl dX6_soon_29 ?_
        have hRr : soR V l w = (-1) := by
          unfold soR
          (repeat' split) <;> first | rfl | omega
        rw [hRr] at k
        exact k _ ⟨hR.1, hR.2.1, hR.2.2⟩
    · refine r_if_eq (tgt := 28) hC dX6_soon_14 rfl (fun h15 => ?_) (fun h15 => by omega)
      refine r_iconst hC dX6_soon_28 rfl ?_
      refine y_iret hK rfl dX6_soon_29 ?_
      have hRr : soR V l w = (-1) := by
        unfold soR
        (repeat' split) <;> first | rfl | omega
      rw [hRr] at k
      exact k _ ⟨hR.1, hR.2.1, hR.2.2⟩
  · unfold opV at h1
    refine r_if_eq (tgt := 28) hC dX6_soon_5 rfl (fun h16 => ?_) (fun h16 => by omega)
    refine r_iconst hC dX6_soon_28 rfl ?_
    refine y_iret hK rfl dX6_soon_29 ?_
    have hRr : soR V l w = (-1) := by
      unfold soR
      (repeat' split) <;> first | rfl | omega
    rw [hRr] at k
    exact k _ ⟨hR.1, hR.2.1, hR.2.2⟩
theorem y_linked {eb : Bool} {t : Int} {V : Mm} {d : Nat} {P : Option Vl → Mm → Prop} {σ : Mm} {l w : Int}  {σ0 : Mm} (ht : 6 ≤ t ∧ t ≤ 7) (hR : RS t σ0 V σ) (hG : GI V)  (k : ∀ ρ : Mm, RS t σ0 V ρ → P (some (vI (lkR V l w))) ρ) : WT (true, eb, true) (d + 3) 201 [vR 30 0, vI l, vI w] σ P := by
  refine WT_in fun K hK => ?_
  have hK : StpY (true, eb, true) cX6_linked RX6 (some .int) (WT (true, eb, true) (d + 2)) P K := hK
  have hM := hK.1
  have hC := hK.1.1
  show K 0 [some (vR 30 0), some (vI l), some (vI w)] [] σ
  refine r_rngz hC (fun g0 => ?_)
  have r_l : -2147483648 ≤ l ∧ l ≤ 2147483647 := inR_le (g0 (vI l) (by simp))
  have r_w : -2147483648 ≤ w ∧ w ≤ 2147483647 := inR_le (g0 (vI w) (by simp))
  have hlkA : 0 ≤ l → l ≤ 3 → V 13 l 0 = -1 ∨ (V 7 l 1 = 1 ∧ 0 ≤ V 13 l 0) := fun a b => by
    rcases hG.2.1.2.2.2.2.2.1 l a b with q | q
    · exact Or.inl q
    · exact Or.inr ⟨q.1.2, q.2.1.1.1⟩
  refine r_aload_n hC dX6_linked_0 rfl ?_
  refine r_iload_n hC dX6_linked_1 rfl ?_
  refine z_inv1 hM dX6_linked_2 vl_RX6_124 rfl rfl rfl (Nat.le_of_ble_eq_true rfl) (Nat.le_of_ble_eq_true rfl) ?_
  refine y_isLane (V := V) ht ⟨hR.1, hR.2.1, hR.2.2⟩ (fun h1 => ?_) (fun h1 => ?_)
  · unfold opV at h1
    refine r_if_eq (tgt := 17) hC dX6_linked_5 rfl (fun h2 => by omega) (fun h2 => ?_)
    refine r_aload_n hC dX6_linked_8 rfl ?_
    refine z_getR hM dX6_linked_9 fl_RX6_52 rfl rfl (vld_of (n := 1) rfl (by first | assumption | decide | exact xs_ (by decide) | exact xc_ (by decide) | exact x31_ (by decide) | omega) (by first | assumption | decide | exact xs_ (by decide) | exact xc_ (by decide) | exact x31_ (by decide) | omega)) ?_
    refine r_iload_n hC dX6_linked_12 rfl ?_
    refine z_iald hM dX6_linked_13 rfl (by first | assumption | decide | exact xs_ (by decide) | exact xc_ (by decide) | exact x31_ (by decide) | omega) (by first | assumption | decide | exact xs_ (by decide) | exact xc_ (by decide) | exact x31_ (by decide) | omega) (fun v3 h_v3 o_v3 t_v3 => ?_)
    have w_v3 := ((t_v3 (Or.inl (by simp [Tb]))).trans ((hR.1.k0 (by first | assumption | decide | exact xs_ (by decide) | exact xc_ (by decide) | exact x31_ (by decide) | omega) (by first | assumption | decide | exact xs_ (by decide) | exact xc_ (by decide) | exact x31_ (by decide) | omega)).trans (rfl))).symm
    subst w_v3
    have q_v3 : -1 ≤ (V 13 l 0) ∧ (V 13 l 0) ≤ 3 := o_v3
    refine r_if_ge (tgt := 19) hC dX6_linked_14 rfl (fun h4 => ?_) (fun h4 => ?_)
    · refine r_iload_n hC dX6_linked_19 rfl ?_
      rcases (by omega : (w < 0 ∨ 3 < w) ∨ w = 0 ∨ w = 1 ∨ w = 2 ∨ w = 3) with h5 | h5 | h5 | h5 | h5
      · refine r_tableOut (tgt := 80) hC dX6_linked_20 h5 rfl ?_
        refine r_iconst hC dX6_linked_80 rfl ?_
        refine y_iret hK rfl dX6_linked_81 ?_
        have hRr : lkR V l w = (-1) := by
          unfold lkR
          (repeat' split) <;> first | rfl | omega
        rw [hRr] at k
        exact k _ ⟨hR.1, hR.2.1, hR.2.2⟩
      · refine r_tableIn (tgt := 52) (off := 32) hC dX6_linked_20 (by first | assumption | decide | exact xs_ (by decide) | exact xc_ (by decide) | exact x31_ (by decide) | omega) (by first | assumption | decide | exact xs_ (by decide) | exact xc_ (by decide) | exact x31_ (by decide) | omega) (by rw [h5]; rfl) rfl ?_
        refine r_aload_n hC dX6_linked_52 rfl ?_
        refine z_getR hM dX6_linked_53 fl_RX6_52 rfl rfl (vld_of (n := 1) rfl (by first | assumption | decide | exact xs_ (by decide) | exact xc_ (by decide) | exact x31_ (by decide) | omega) (by first | assumption | decide | exact xs_ (by decide) | exact xc_ (by decide) | exact x31_ (by decide) | omega)) ?_
        refine r_iload_n hC dX6_linked_56 rfl ?_
        refine z_iald hM dX6_linked_57 rfl (by first | assumption | decide | exact xs_ (by decide) | exact xc_ (by decide) | exact x31_ (by decide) | omega) (by first | assumption | decide | exact xs_ (by decide) | exact xc_ (by decide) | exact x31_ (by decide) | omega) (fun v6 h_v6 o_v6 t_v6 => ?_)
        have w_v6 := ((t_v6 (Or.inl (by simp [Tb]))).trans ((hR.1.k0 (by first | assumption | decide | exact xs_ (by decide) | exact xc_ (by decide) | exact x31_ (by decide) | omega) (by first | assumption | decide | exact xs_ (by decide) | exact xc_ (by decide) | exact x31_ (by decide) | omega)).trans (rfl))).symm
        subst w_v6
        have q_v6 : -1 ≤ (V 13 l 0) ∧ (V 13 l 0) ≤ 3 := o_v6
        refine y_iret hK rfl dX6_linked_58 ?_
        have hRr : lkR V l w = (V 13 l 0) := by
          unfold lkR
          (repeat' split) <;> first | rfl | omega
        rw [hRr] at k
        exact k _ ⟨hR.1, hR.2.1, hR.2.2⟩
      · refine r_tableIn (tgt := 59) (off := 39) hC dX6_linked_20 (by first | assumption | decide | exact xs_ (by decide) | exact xc_ (by decide) | exact x31_ (by decide) | omega) (by first | assumption | decide | exact xs_ (by decide) | exact xc_ (by decide) | exact x31_ (by decide) | omega) (by rw [h5]; rfl) rfl ?_
        refine r_aload_n hC dX6_linked_59 rfl ?_
        refine z_getR hM dX6_linked_60 fl_RX6_55 rfl rfl (vld_of (n := 1) rfl (by first | assumption | decide | exact xs_ (by decide) | exact xc_ (by decide) | exact x31_ (by decide) | omega) (by first | assumption | decide | exact xs_ (by decide) | exact xc_ (by decide) | exact x31_ (by decide) | omega)) ?_
        refine r_iload_n hC dX6_linked_63 rfl ?_
        refine z_iald hM dX6_linked_64 rfl (by first | assumption | decide | exact xs_ (by decide) | exact xc_ (by decide) | exact x31_ (by decide) | omega) (by first | assumption | decide | exact xs_ (by decide) | exact xc_ (by decide) | exact x31_ (by decide) | omega) (fun v7 h_v7 o_v7 t_v7 => ?_)
        have w_v7 := ((t_v7 (Or.inl (by simp [Tb]))).trans ((hR.1.k1 (by first | assumption | decide | exact xs_ (by decide) | exact xc_ (by decide) | exact x31_ (by decide) | omega) (by first | assumption | decide | exact xs_ (by decide) | exact xc_ (by decide) | exact x31_ (by decide) | omega)).trans (rfl))).symm
        subst w_v7
        refine y_iret hK rfl dX6_linked_65 ?_
        have hRr : lkR V l w = (V 13 l 1) := by
          unfold lkR
          (repeat' split) <;> first | rfl | omega
        rw [hRr] at k
        exact k _ ⟨hR.1, hR.2.1, hR.2.2⟩
      · refine r_tableIn (tgt := 66) (off := 46) hC dX6_linked_20 (by first | assumption | decide | exact xs_ (by decide) | exact xc_ (by decide) | exact x31_ (by decide) | omega) (by first | assumption | decide | exact xs_ (by decide) | exact xc_ (by decide) | exact x31_ (by decide) | omega) (by rw [h5]; rfl) rfl ?_
        refine r_aload_n hC dX6_linked_66 rfl ?_
        refine z_getR hM dX6_linked_67 fl_RX6_58 rfl rfl (vld_of (n := 1) rfl (by first | assumption | decide | exact xs_ (by decide) | exact xc_ (by decide) | exact x31_ (by decide) | omega) (by first | assumption | decide | exact xs_ (by decide) | exact xc_ (by decide) | exact x31_ (by decide) | omega)) ?_
        refine r_iload_n hC dX6_linked_70 rfl ?_
        refine z_iald hM dX6_linked_71 rfl (by first | assumption | decide | exact xs_ (by decide) | exact xc_ (by decide) | exact x31_ (by decide) | omega) (by first | assumption | decide | exact xs_ (by decide) | exact xc_ (by decide) | exact x31_ (by decide) | omega) (fun v8 h_v8 o_v8 t_v8 => ?_)
        have w_v8 := ((t_v8 (Or.inl (by simp [Tb]))).trans ((hR.1.k2 (by first | assumption | decide | exact xs_ (by decide) | exact xc_ (by decide) | exact x31_ (by decide) | omega) (by first | assumption | decide | exact xs_ (by decide) | exact xc_ (by decide) | exact x31_ (by decide) | omega)).trans (rfl))).symm
        subst w_v8
        have q_v8 : 0 ≤ (V 13 l 2) ∧ (V 13 l 2) ≤ 6 := o_v8
        refine y_iret hK rfl dX6_linked_72 ?_
        have hRr : lkR V l w = (V 13 l 2) := by
          unfold lkR
          (repeat' split) <;> first | rfl | omega
        rw [hRr] at k
        exact k _ ⟨hR.1, hR.2.1, hR.2.2⟩
      · refine r_tableIn (tgt := 73) (off := 53) hC dX6_linked_20 (by first | assumption | decide | exact xs_ (by decide) | exact xc_ (by decide) | exact x31_ (by decide) | omega) (by first | assumption | decide | exact xs_ (by decide) | exact xc_ (by decide) | exact x31_ (by decide) | omega) (by rw [h5]; rfl) rfl ?_
        refine r_aload_n hC dX6_linked_73 rfl ?_
        refine z_getR hM dX6_linked_74 fl_RX6_61 rfl rfl (vld_of (n := 1) rfl (by first | assumption | decide | exact xs_ (by decide) | exact xc_ (by decide) | exact x31_ (by decide) | omega) (by first | assumption | decide | exact xs_ (by decide) | exact xc_ (by decide) | exact x31_ (by decide) | omega)) ?_
        refine r_iload_n hC dX6_linked_77 rfl ?_
        refine z_iald hM dX6_linked_78 rfl (by first | assumption | decide | exact xs_ (by decide) | exact xc_ (by decide) | exact x31_ (by decide) | omega) (by first | assumption | decide | exact xs_ (by decide) | exact xc_ (by decide) | exact x31_ (by decide) | omega) (fun v9 h_v9 o_v9 t_v9 => ?_)
        have w_v9 := ((t_v9 (Or.inl (by simp [Tb]))).trans ((hR.1.k3 (by first | assumption | decide | exact xs_ (by decide) | exact xc_ (by decide) | exact x31_ (by decide) | omega) (by first | assumption | decide | exact xs_ (by decide) | exact xc_ (by decide) | exact x31_ (by decide) | omega)).trans (rfl))).symm
        subst w_v9
        refine y_iret hK rfl dX6_linked_79 ?_
        have hRr : lkR V l w = (V 13 l 3) := by
          unfold lkR
          (repeat' split) <;> first | rfl | omega
        rw [hRr] at k
        exact k _ ⟨hR.1, hR.2.1, hR.2.2⟩
    · refine r_iconst hC dX6_linked_17 rfl ?_
      refine y_iret hK rfl dX6_linked_18 ?_
      have hRr : lkR V l w = (-1) := by
        unfold lkR
        (repeat' split) <;> first | rfl | omega
      rw [hRr] at k
      exact k _ ⟨hR.1, hR.2.1, hR.2.2⟩
  · unfold opV at h1
    refine r_if_eq (tgt := 17) hC dX6_linked_5 rfl (fun h10 => ?_) (fun h10 => by omega)
    refine r_iconst hC dX6_linked_17 rfl ?_
    refine y_iret hK rfl dX6_linked_18 ?_
    have hRr : lkR V l w = (-1) := by
      unfold lkR
      (repeat' split) <;> first | rfl | omega
    rw [hRr] at k
    exact k _ ⟨hR.1, hR.2.1, hR.2.2⟩
theorem y_isTold {eb : Bool} {t : Int} {V : Mm} {d : Nat} {P : Option Vl → Mm → Prop} {σ : Mm} {v : Int}  {σ0 : Mm} (ht : 6 ≤ t ∧ t ≤ 7) (hR : RS t σ0 V σ) (hG : GI V)  (k1 : wtd V v → P (some (vI 1)) σ) (k0 : ¬ wtd V v → P (some (vI 0)) σ) : WT (true, eb, true) (d + 2) 183 [vR 30 0, vI v] σ P := by
  refine WT_in fun K hK => ?_
  have hK : StpY (true, eb, true) cX6_isTold RX6 (some .boolean) (WT (true, eb, true) (d + 1)) P K := hK
  have hM := hK.1
  have hC := hK.1.1
  show K 0 [some (vR 30 0), some (vI v)] [] σ
  refine r_rngz hC (fun g0 => ?_)
  have r_v : -2147483648 ≤ v ∧ v ≤ 2147483647 := inR_le (g0 (vI v) (by simp))
  have hwA : 0 ≤ v → v ≤ 7 → V 12 v 0 = -1 ∨ 0 ≤ V 12 v 0 := fun a b => by
    rcases (hG.2.1.2.2.2.2.2.2.1 v a b).1 with q | q
    · exact Or.inl q
    · exact Or.inr q.1.1.1
  refine r_iload_n hC dX6_isTold_0 rfl ?_
  refine r_iconst hC dX6_isTold_1 rfl ?_
  refine r_bipush hC dX6_isTold_2 rfl ?_
  refine z_ins3 hM dX6_isTold_4 tl_RX6_76 rfl (Nat.le_of_ble_eq_true rfl) (Nat.le_of_ble_eq_true rfl) ?_
  refine m_isIn (fun h2 => ?_) (fun h2 => ?_)
  · refine r_if_eq (tgt := 23) hC dX6_isTold_7 rfl (fun h3 => by omega) (fun h3 => ?_)
    refine r_aload_n hC dX6_isTold_10 rfl ?_
    refine z_getR hM dX6_isTold_11 fl_RX6_34 rfl rfl (vld_of (n := 1) rfl (by first | assumption | decide | exact xs_ (by decide) | exact xc_ (by decide) | exact x31_ (by decide) | omega) (by first | assumption | decide | exact xs_ (by decide) | exact xc_ (by decide) | exact x31_ (by decide) | omega)) ?_
    refine r_iload_n hC dX6_isTold_14 rfl ?_
    refine z_iald hM dX6_isTold_15 rfl (by first | assumption | decide | exact xs_ (by decide) | exact xc_ (by decide) | exact x31_ (by decide) | omega) (by first | assumption | decide | exact xs_ (by decide) | exact xc_ (by decide) | exact x31_ (by decide) | omega) (fun v4 h_v4 o_v4 t_v4 => ?_)
    have w_v4 := ((t_v4 (Or.inl (by simp [Tb]))).trans ((hR.1.w0 (by first | assumption | decide | exact xs_ (by decide) | exact xc_ (by decide) | exact x31_ (by decide) | omega) (by first | assumption | decide | exact xs_ (by decide) | exact xc_ (by decide) | exact x31_ (by decide) | omega)).trans (rfl))).symm
    subst w_v4
    refine r_if_lt (tgt := 23) hC dX6_isTold_16 rfl (fun h5 => ?_) (fun h5 => ?_)
    · refine r_iconst hC dX6_isTold_23 rfl ?_
      refine y_zret hK rfl dX6_isTold_24 (by first | assumption | decide | exact xs_ (by decide) | exact xc_ (by decide) | exact x31_ (by decide) | omega) ?_
      exact k0 (by first | assumption | decide | exact xs_ (by decide) | exact xc_ (by decide) | exact x31_ (by decide) | omega)
    · refine r_iconst hC dX6_isTold_19 rfl ?_
      refine r_goto (tgt := 24) hC dX6_isTold_20 rfl ?_
      refine y_zret hK rfl dX6_isTold_24 (by first | assumption | decide | exact xs_ (by decide) | exact xc_ (by decide) | exact x31_ (by decide) | omega) ?_
      exact k1 (by first | assumption | decide | exact xs_ (by decide) | exact xc_ (by decide) | exact x31_ (by decide) | omega)
  · refine r_if_eq (tgt := 23) hC dX6_isTold_7 rfl (fun h6 => ?_) (fun h6 => by omega)
    refine r_iconst hC dX6_isTold_23 rfl ?_
    refine y_zret hK rfl dX6_isTold_24 (by first | assumption | decide | exact xs_ (by decide) | exact xc_ (by decide) | exact x31_ (by decide) | omega) ?_
    exact k0 (by first | assumption | decide | exact xs_ (by decide) | exact xc_ (by decide) | exact x31_ (by decide) | omega)
theorem y_rings {eb : Bool} {t : Int} {V : Mm} {d : Nat} {P : Option Vl → Mm → Prop} {σ : Mm} {v : Int}  {σ0 : Mm} (ht : 6 ≤ t ∧ t ≤ 7) (hR : RS t σ0 V σ) (hG : GI V)  (k : ∀ ρ : Mm, RS t σ0 V ρ → P (some (vI (riR V v))) ρ) : WT (true, eb, true) (d + 3) 187 [vR 30 0, vI v] σ P := by
  refine WT_in fun K hK => ?_
  have hK : StpY (true, eb, true) cX6_rings RX6 (some .int) (WT (true, eb, true) (d + 2)) P K := hK
  have hM := hK.1
  have hC := hK.1.1
  show K 0 [some (vR 30 0), some (vI v)] [] σ
  refine r_rngz hC (fun g0 => ?_)
  have r_v : -2147483648 ≤ v ∧ v ≤ 2147483647 := inR_le (g0 (vI v) (by simp))
  refine r_aload_n hC dX6_rings_0 rfl ?_
  refine r_iload_n hC dX6_rings_1 rfl ?_
  refine z_inv1 hM dX6_rings_2 vl_RX6_210 rfl rfl rfl (Nat.le_of_ble_eq_true rfl) (Nat.le_of_ble_eq_true rfl) ?_
  refine y_isTold (V := V) ht ⟨hR.1, hR.2.1, hR.2.2⟩ hG (fun h1 => ?_) (fun h1 => ?_)
  · refine r_if_eq (tgt := 17) hC dX6_rings_5 rfl (fun h2 => by omega) (fun h2 => ?_)
    refine r_aload_n hC dX6_rings_8 rfl ?_
    refine z_getR hM dX6_rings_9 fl_RX6_46 rfl rfl (vld_of (n := 1) rfl (by first | assumption | decide | exact xs_ (by decide) | exact xc_ (by decide) | exact x31_ (by decide) | omega) (by first | assumption | decide | exact xs_ (by decide) | exact xc_ (by decide) | exact x31_ (by decide) | omega)) ?_
    refine r_iload_n hC dX6_rings_12 rfl ?_
    refine z_iald hM dX6_rings_13 rfl (by first | assumption | decide | exact xs_ (by decide) | exact xc_ (by decide) | exact x31_ (by decide) | omega) (by first | assumption | decide | exact xs_ (by decide) | exact xc_ (by decide) | exact x31_ (by decide) | omega) (fun v3 h_v3 o_v3 t_v3 => ?_)
    have w_v3 := ((t_v3 (Or.inl (by simp [Tb]))).trans ((hR.1.w4 (by first | assumption | decide | exact xs_ (by decide) | exact xc_ (by decide) | exact x31_ (by decide) | omega) (by first | assumption | decide | exact xs_ (by decide) | exact xc_ (by decide) | exact x31_ (by decide) | omega)).trans (rfl))).symm
    subst w_v3
    refine r_goto (tgt := 18) hC dX6_rings_14 rfl ?_
    refine y_iret hK rfl dX6_rings_18 ?_
    have hRr : riR V v = (V 12 v 4) := by
      unfold riR
      first | exact if_neg (by first | assumption | decide | exact xs_ (by decide) | exact xc_ (by decide) | exact x31_ (by decide) | omega) | exact if_pos (by first | assumption | decide | exact xs_ (by decide) | exact xc_ (by decide) | exact x31_ (by decide) | omega)
    rw [hRr] at k
    exact k _ ⟨hR.1, hR.2.1, hR.2.2⟩
  · refine r_if_eq (tgt := 17) hC dX6_rings_5 rfl (fun h4 => ?_) (fun h4 => by omega)
    refine r_iconst hC dX6_rings_17 rfl ?_
    refine y_iret hK rfl dX6_rings_18 ?_
    have hRr : riR V v = (-1) := by
      unfold riR
      first | exact if_neg (by first | assumption | decide | exact xs_ (by decide) | exact xc_ (by decide) | exact x31_ (by decide) | omega) | exact if_pos (by first | assumption | decide | exact xs_ (by decide) | exact xc_ (by decide) | exact x31_ (by decide) | omega)
    rw [hRr] at k
    exact k _ ⟨hR.1, hR.2.1, hR.2.2⟩
theorem y_rang {eb : Bool} {t : Int} {V : Mm} {d : Nat} {P : Option Vl → Mm → Prop} {σ : Mm} {v : Int}  {σ0 : Mm} (ht : 6 ≤ t ∧ t ≤ 7) (hR : RS t σ0 V σ) (hG : GI V)  (k : ∀ ρ : Mm, RS t σ0 V ρ → P (some (vI (raR V v))) ρ) : WT (true, eb, true) (d + 3) 188 [vR 30 0, vI v] σ P := by
  refine WT_in fun K hK => ?_
  have hK : StpY (true, eb, true) cX6_rang RX6 (some .int) (WT (true, eb, true) (d + 2)) P K := hK
  have hM := hK.1
  have hC := hK.1.1
  show K 0 [some (vR 30 0), some (vI v)] [] σ
  refine r_rngz hC (fun g0 => ?_)
  have r_v : -2147483648 ≤ v ∧ v ≤ 2147483647 := inR_le (g0 (vI v) (by simp))
  refine r_aload_n hC dX6_rang_0 rfl ?_
  refine r_iload_n hC dX6_rang_1 rfl ?_
  refine z_inv1 hM dX6_rang_2 vl_RX6_210 rfl rfl rfl (Nat.le_of_ble_eq_true rfl) (Nat.le_of_ble_eq_true rfl) ?_
  refine y_isTold (V := V) ht ⟨hR.1, hR.2.1, hR.2.2⟩ hG (fun h1 => ?_) (fun h1 => ?_)
  · refine r_if_eq (tgt := 17) hC dX6_rang_5 rfl (fun h2 => by omega) (fun h2 => ?_)
    refine r_aload_n hC dX6_rang_8 rfl ?_
    refine z_getR hM dX6_rang_9 fl_RX6_49 rfl rfl (vld_of (n := 1) rfl (by first | assumption | decide | exact xs_ (by decide) | exact xc_ (by decide) | exact x31_ (by decide) | omega) (by first | assumption | decide | exact xs_ (by decide) | exact xc_ (by decide) | exact x31_ (by decide) | omega)) ?_
    refine r_iload_n hC dX6_rang_12 rfl ?_
    refine z_iald hM dX6_rang_13 rfl (by first | assumption | decide | exact xs_ (by decide) | exact xc_ (by decide) | exact x31_ (by decide) | omega) (by first | assumption | decide | exact xs_ (by decide) | exact xc_ (by decide) | exact x31_ (by decide) | omega) (fun v3 h_v3 o_v3 t_v3 => ?_)
    have w_v3 := ((t_v3 (Or.inl (by simp [Tb]))).trans ((hR.1.w5 (by first | assumption | decide | exact xs_ (by decide) | exact xc_ (by decide) | exact x31_ (by decide) | omega) (by first | assumption | decide | exact xs_ (by decide) | exact xc_ (by decide) | exact x31_ (by decide) | omega)).trans (rfl))).symm
    subst w_v3
    refine r_goto (tgt := 18) hC dX6_rang_14 rfl ?_
    refine y_iret hK rfl dX6_rang_18 ?_
    have hRr : raR V v = (V 12 v 5) := by
      unfold raR
      first | exact if_neg (by first | assumption | decide | exact xs_ (by decide) | exact xc_ (by decide) | exact x31_ (by decide) | omega) | exact if_pos (by first | assumption | decide | exact xs_ (by decide) | exact xc_ (by decide) | exact x31_ (by decide) | omega)
    rw [hRr] at k
    exact k _ ⟨hR.1, hR.2.1, hR.2.2⟩
  · refine r_if_eq (tgt := 17) hC dX6_rang_5 rfl (fun h4 => ?_) (fun h4 => by omega)
    refine r_iconst hC dX6_rang_17 rfl ?_
    refine y_iret hK rfl dX6_rang_18 ?_
    have hRr : raR V v = (-1) := by
      unfold raR
      first | exact if_neg (by first | assumption | decide | exact xs_ (by decide) | exact xc_ (by decide) | exact x31_ (by decide) | omega) | exact if_pos (by first | assumption | decide | exact xs_ (by decide) | exact xc_ (by decide) | exact x31_ (by decide) | omega)
    rw [hRr] at k
    exact k _ ⟨hR.1, hR.2.1, hR.2.2⟩
-- B: the reference: opening, BOXES
theorem SB.v0 {t : Int} {σ0 V ρ : Mm} {b a : Int} (h : SB t σ0 V ρ) : SB t σ0 (mu V 7 b 0 a) ρ := by
  obtain ⟨q1, q2, q3, q4, q5, q6, q7, q8⟩ := h
  refine ⟨fun m u g x y z => ?_, fun m u g x y z => ?_, fun m u x y z k => ?_, fun k x y => ?_, fun k x y => ?_, fun k x y => ?_, fun k x y => ?_, fun c x y z => ?_⟩
  · have z2 := z
    unfold P7 at z2
    rw [mu_ne (by first | assumption | decide | exact xs_ (by decide) | exact xc_ (by decide) | exact x31_ (by decide) | omega)]; exact q1 m u g x y z
  · rw [mu_ne (by first | assumption | decide | exact xs_ (by decide) | exact xc_ (by decide) | exact x31_ (by decide) | omega)]; exact q2 m u g x y z
  · rw [mu_ne (by first | assumption | decide | exact xs_ (by decide) | exact xc_ (by decide) | exact x31_ (by decide) | omega), mu_ne (by first | assumption | decide | exact xs_ (by decide) | exact xc_ (by decide) | exact x31_ (by decide) | omega), mu_ne (by first | assumption | decide | exact xs_ (by decide) | exact xc_ (by decide) | exact x31_ (by decide) | omega)]; exact q3 m u x y z k
  · rw [mu_ne (by first | assumption | decide | exact xs_ (by decide) | exact xc_ (by decide) | exact x31_ (by decide) | omega), mu_ne (by first | assumption | decide | exact xs_ (by decide) | exact xc_ (by decide) | exact x31_ (by decide) | omega), mu_ne (by first | assumption | decide | exact xs_ (by decide) | exact xc_ (by decide) | exact x31_ (by decide) | omega), mu_ne (by first | assumption | decide | exact xs_ (by decide) | exact xc_ (by decide) | exact x31_ (by decide) | omega), mu_ne (by first | assumption | decide | exact xs_ (by decide) | exact xc_ (by decide) | exact x31_ (by decide) | omega), mu_ne (by first | assumption | decide | exact xs_ (by decide) | exact xc_ (by decide) | exact x31_ (by decide) | omega)]; exact q4 k x y
  · rw [mu_ne (by first | assumption | decide | exact xs_ (by decide) | exact xc_ (by decide) | exact x31_ (by decide) | omega), mu_ne (by first | assumption | decide | exact xs_ (by decide) | exact xc_ (by decide) | exact x31_ (by decide) | omega), mu_ne (by first | assumption | decide | exact xs_ (by decide) | exact xc_ (by decide) | exact x31_ (by decide) | omega), mu_ne (by first | assumption | decide | exact xs_ (by decide) | exact xc_ (by decide) | exact x31_ (by decide) | omega)]; exact q5 k x y
  · rw [mu_ne (by first | assumption | decide | exact xs_ (by decide) | exact xc_ (by decide) | exact x31_ (by decide) | omega)]; exact q6 k x y
  · rw [mu_ne (by first | assumption | decide | exact xs_ (by decide) | exact xc_ (by decide) | exact x31_ (by decide) | omega)]; exact q7 k x y
  · exact q8 c x y z
/-- as FB, but for one BOX -/
def FX (b : Int) (V ρ : Mm) : Prop := ∀ l : Int, 4 ≤ l → l ≤ 6 → l ≠ b → V 7 l 1 = 1 → ρ 31 0 (22 * l + 21) = V 7 l 0
theorem FB.fx {V ρ : Mm} (h : FB V ρ) (b : Int) : FX b V ρ := fun l a c _ e => h l a c e
theorem FX.e {b : Int} {V W ρ ρ2 : Mm} (h : FX b V ρ) (e : ∀ m : Int, 4 ≤ m → m ≤ 6 → m ≠ b → ρ2 31 0 (22 * m + 21) = ρ 31 0 (22 * m + 21)) (ev : ∀ m y : Int, m ≠ b → W 7 m y = V 7 m y) : FX b W ρ2 := fun m x y z w => by
  rw [ev m 1 z] at w
  rw [e m x y z, ev m 0 z]
  exact h m x y z w
theorem FX.fb {b v : Int} {V ρ : Mm} (h : FX b V ρ) (e : ρ 31 0 (22 * b + 21) = v) : FB (mu V 7 b 0 v) ρ := fun m x y z => by
  by_cases hm : m = b
  · subst hm
    rw [mu_self]; exact e
  · rw [mu_ne (by first | assumption | decide | exact xs_ (by decide) | exact xc_ (by decide) | exact x31_ (by decide) | omega)] at z
    rw [mu_ne (by first | assumption | decide | exact xs_ (by decide) | exact xc_ (by decide) | exact x31_ (by decide) | omega)]
    exact h m x y hm z
theorem mu_back {V : Mm} {c : Nat} {x y v a : Int} (h : V c x y = a) : mu (mu V c x y v) c x y a = V := by
  funext c2 x2 y2
  by_cases e : c2 = c ∧ x2 = x ∧ y2 = y
  · obtain ⟨rfl, rfl, rfl⟩ := e
    rw [mu_self, h]
  · rw [mu_ne e, mu_ne e]
theorem ft_key {V ρ : Mm} (h : ∀ j : Int, 0 ≤ j → j < 16 → V 15 0 j = ρ 35 0 j) (hb : ∀ j : Int, 0 ≤ j → j < 16 → 0 ≤ V 15 0 j ∧ V 15 0 j ≤ 3) : trpF 15 V 3 = 64 ↔ fstA 35 ρ (64 : Int).toNat < 0 := by
  have e1 : trpF 15 V 3 = cntA 15 V (64 : Int).toNat := if_pos rfl
  have e2 := cnt_eq (k := 15) (k2 := 35) (σ := V) (ρ := ρ) h hb (64 : Int).toNat (by decide)
  have e3 := cnt_fst 35 ρ (64 : Int).toNat
  have e4 : ((64 : Int).toNat : Int) = 64 := by decide
  rw [e1, e2.1]
  constructor
  · intro q
    have := e3.2.1.mp (by first | assumption | decide | exact xs_ (by decide) | exact xc_ (by decide) | exact x31_ (by decide) | omega)
    omega
  · intro q
    have := e3.2.1.mpr (by first | assumption | decide | exact xs_ (by decide) | exact xc_ (by decide) | exact x31_ (by decide) | omega)
    omega
abbrev cpT (y : Int) : Prop := (1 ≤ y ∧ y ≤ 6) ∨ y = 10 ∨ (12 ≤ y ∧ y ≤ 15)
def cpA (V : Mm) (a b : Int) : Mm := fun c x y => if x = b then (if c = 7 then (if cpT y then V 7 a y else V 7 b y) else if c = 11 then (if 0 ≤ y ∧ y ≤ 6 then V 11 a y else V 11 b y) else V c x y) else V c x y
def cpB (V : Mm) (a b n : Int) : Mm := fun c x y => if x = b ∧ (c = 8 ∨ c = 9 ∨ c = 10) ∧ 0 ≤ y ∧ y < n then V c a y else V c x y
theorem cpA_ne {V : Mm} {a b x y : Int} {c : Nat} (h : x ≠ b) : cpA V a b c x y = V c x y := if_neg h
theorem cpA_11 {V : Mm} {a b y : Int} (h : 0 ≤ y ∧ y ≤ 6) : cpA V a b 11 b y = V 11 a y := by
  unfold cpA
  rw [if_pos rfl, if_neg (by first | assumption | decide | exact xs_ (by decide) | exact xc_ (by decide) | exact x31_ (by decide) | omega), if_pos rfl, if_pos h]
theorem cpB_0 {V : Mm} {a b : Int} : cpB V a b 0 = V := by
  funext c x y
  exact if_neg (by first | assumption | decide | exact xs_ (by decide) | exact xc_ (by decide) | exact x31_ (by decide) | omega)
theorem cpB_7 {V : Mm} {a b n x y : Int} : cpB V a b n 7 x y = V 7 x y := if_neg (by first | assumption | decide | exact xs_ (by decide) | exact xc_ (by decide) | exact x31_ (by decide) | omega)
theorem cpB_a {V : Mm} {a b n y : Int} {c : Nat} (h : a ≠ b) : cpB V a b n c a y = V c a y := if_neg (by first | assumption | decide | exact xs_ (by decide) | exact xc_ (by decide) | exact x31_ (by decide) | omega)
theorem cpB_s {V : Mm} {a b n : Int} (h : a ≠ b) (h0 : 0 ≤ n) : ceM (cpB V a b n) a n b n = cpB V a b (n + 1) := by
  funext c x y
  unfold ceM
  rw [cpB_a h, cpB_a h, cpB_a h]
  by_cases hx : x = b ∧ y = n
  · obtain ⟨rfl, rfl⟩ := hx
    by_cases h8 : c = 8
    · subst h8
      rw [mu_ne (by first | assumption | decide | exact xs_ (by decide) | exact xc_ (by decide) | exact x31_ (by decide) | omega), mu_ne (by first | assumption | decide | exact xs_ (by decide) | exact xc_ (by decide) | exact x31_ (by decide) | omega), mu_self]
      exact (if_pos ⟨rfl, by omega, by omega, by omega⟩).symm
    by_cases h9 : c = 9
    · subst h9
      rw [mu_ne (by first | assumption | decide | exact xs_ (by decide) | exact xc_ (by decide) | exact x31_ (by decide) | omega), mu_self]
      exact (if_pos ⟨rfl, by omega, by omega, by omega⟩).symm
    by_cases h10 : c = 10
    · subst h10
      rw [mu_self]
      exact (if_pos ⟨rfl, by omega, by omega, by omega⟩).symm
    · rw [mu_ne (by first | assumption | decide | exact xs_ (by decide) | exact xc_ (by decide) | exact x31_ (by decide) | omega), mu_ne (by first | assumption | decide | exact xs_ (by decide) | exact xc_ (by decide) | exact x31_ (by decide) | omega), mu_ne (by first | assumption | decide | exact xs_ (by decide) | exact xc_ (by decide) | exact x31_ (by decide) | omega)]
      exact (if_neg (by first | assumption | decide | exact xs_ (by decide) | exact xc_ (by decide) | exact x31_ (by decide) | omega)).trans (if_neg (by first | assumption | decide | exact xs_ (by decide) | exact xc_ (by decide) | exact x31_ (by decide) | omega)).symm
  · rw [mu_ne (by first | assumption | decide | exact xs_ (by decide) | exact xc_ (by decide) | exact x31_ (by decide) | omega), mu_ne (by first | assumption | decide | exact xs_ (by decide) | exact xc_ (by decide) | exact x31_ (by decide) | omega), mu_ne (by first | assumption | decide | exact xs_ (by decide) | exact xc_ (by decide) | exact x31_ (by decide) | omega)]
    unfold cpB
    by_cases e : x = b ∧ (c = 8 ∨ c = 9 ∨ c = 10) ∧ 0 ≤ y ∧ y < n
    · rw [if_pos e, if_pos (by first | assumption | decide | exact xs_ (by decide) | exact xc_ (by decide) | exact x31_ (by decide) | omega)]
    · rw [if_neg e, if_neg (by first | assumption | decide | exact xs_ (by decide) | exact xc_ (by decide) | exact x31_ (by decide) | omega)]
theorem cpM_0 {V : Mm} {a b : Int} : cpM V a b 7 b 0 = V 7 a 0 := by
  unfold cpM
  rw [if_pos rfl, if_pos rfl, if_pos (by unfold cpS; omega)]
theorem cpM_6 {V : Mm} {a b : Int} : cpM V a b 7 b 6 = V 7 a 6 := by
  unfold cpM
  rw [if_pos rfl, if_pos rfl, if_pos (by unfold cpS; omega)]
theorem cpM_fin {V : Mm} {a b v : Int} (h : a ≠ b) : cpB (mu (cpA V a b) 7 b 0 v) a b (V 7 a 6) = mu (cpM V a b) 7 b 0 v := by
  funext c x y
  by_cases e0 : c = 7 ∧ x = b ∧ y = 0
  · obtain ⟨rfl, rfl, rfl⟩ := e0
    rw [cpB_7, mu_self, mu_self]
  rw [mu_ne e0]
  unfold cpB
  by_cases e : x = b ∧ (c = 8 ∨ c = 9 ∨ c = 10) ∧ 0 ≤ y ∧ y < V 7 a 6
  · rw [if_pos e, mu_ne (by first | assumption | decide | exact xs_ (by decide) | exact xc_ (by decide) | exact x31_ (by decide) | omega), cpA_ne h]
    obtain ⟨rfl, e8, e2⟩ := e
    unfold cpM
    rw [if_pos rfl, if_neg (by first | assumption | decide | exact xs_ (by decide) | exact xc_ (by decide) | exact x31_ (by decide) | omega), if_pos e8, if_pos e2]
  · rw [if_neg e, mu_ne e0]
    unfold cpA cpM
    by_cases hx : x = b
    · subst hx
      rw [if_pos rfl, if_pos rfl]
      by_cases h7 : c = 7
      · subst h7
        rw [if_pos rfl, if_pos rfl]
        by_cases hy : cpT y
        · rw [if_pos hy, if_pos (by unfold cpT at hy; unfold cpS; omega)]
        · rw [if_neg hy, if_neg (by unfold cpT at hy; unfold cpS; omega)]
      · rw [if_neg h7, if_neg h7]
        by_cases h8 : c = 8 ∨ c = 9 ∨ c = 10
        · rw [if_neg (by first | assumption | decide | exact xs_ (by decide) | exact xc_ (by decide) | exact x31_ (by decide) | omega), if_pos h8, if_neg (by first | assumption | decide | exact xs_ (by decide) | exact xc_ (by decide) | exact x31_ (by decide) | omega)]
        · rw [if_neg h8]
    · rw [if_neg hx, if_neg hx]
theorem bg24 {V : Mm} {l o b z y : Int} : bgM V l o b z y = (mu (mu (mu (mu (mu (mu (mu (mu (mu (mu (mu (mu (mu (mu (mu (mu (mu (mu (mu (mu (mu (mu (mu (mu V 7 l 1 0) 7 l 2 0) 7 l 3 0) 7 l 4 0) 7 l 5 0) 7 l 6 0) 7 l 10 0) 7 l 12 0) 7 l 13 0) 7 l 14 0) 7 l 15 0) 11 l 0 0) 11 l 1 0) 11 l 2 0) 11 l 3 0) 11 l 4 0) 11 l 5 0) 11 l 6 0) 7 l 1 1) 7 l 2 o) 7 l 3 b) 7 l 4 z) 7 l 5 y) 7 l 10 (-1)) := by
  funext c x t
  by_cases hx : l = x
  · subst hx
    unfold bgM
    rw [if_pos rfl]
    by_cases c7 : c = 7
    · subst c7
      rw [if_pos rfl]
      by_cases t1 : t = 1
      · subst t1
        rw [mu_ne (by first | assumption | decide | exact xs_ (by decide) | exact xc_ (by decide) | exact x31_ (by decide) | omega), mu_ne (by first | assumption | decide | exact xs_ (by decide) | exact xc_ (by decide) | exact x31_ (by decide) | omega), mu_ne (by first | assumption | decide | exact xs_ (by decide) | exact xc_ (by decide) | exact x31_ (by decide) | omega), mu_ne (by first | assumption | decide | exact xs_ (by decide) | exact xc_ (by decide) | exact x31_ (by decide) | omega), mu_ne (by first | assumption | decide | exact xs_ (by decide) | exact xc_ (by decide) | exact x31_ (by decide) | omega), mu_self]
        first | rfl | (simp [bgR]; done)
      by_cases t2 : t = 2
      · subst t2
        rw [mu_ne (by first | assumption | decide | exact xs_ (by decide) | exact xc_ (by decide) | exact x31_ (by decide) | omega), mu_ne (by first | assumption | decide | exact xs_ (by decide) | exact xc_ (by decide) | exact x31_ (by decide) | omega), mu_ne (by first | assumption | decide | exact xs_ (by decide) | exact xc_ (by decide) | exact x31_ (by decide) | omega), mu_ne (by first | assumption | decide | exact xs_ (by decide) | exact xc_ (by decide) | exact x31_ (by decide) | omega), mu_self]
        first | rfl | (simp [bgR]; done)
      by_cases t3 : t = 3
      · subst t3
        rw [mu_ne (by first | assumption | decide | exact xs_ (by decide) | exact xc_ (by decide) | exact x31_ (by decide) | omega), mu_ne (by first | assumption | decide | exact xs_ (by decide) | exact xc_ (by decide) | exact x31_ (by decide) | omega), mu_ne (by first | assumption | decide | exact xs_ (by decide) | exact xc_ (by decide) | exact x31_ (by decide) | omega), mu_self]
        first | rfl | (simp [bgR]; done)
      by_cases t4 : t = 4
      · subst t4
        rw [mu_ne (by first | assumption | decide | exact xs_ (by decide) | exact xc_ (by decide) | exact x31_ (by decide) | omega), mu_ne (by first | assumption | decide | exact xs_ (by decide) | exact xc_ (by decide) | exact x31_ (by decide) | omega), mu_self]
        first | rfl | (simp [bgR]; done)
      by_cases t5 : t = 5
      · subst t5
        rw [mu_ne (by first | assumption | decide | exact xs_ (by decide) | exact xc_ (by decide) | exact x31_ (by decide) | omega), mu_self]
        first | rfl | (simp [bgR]; done)
      by_cases t6 : t = 6
      · subst t6
        rw [mu_ne (by first | assumption | decide | exact xs_ (by decide) | exact xc_ (by decide) | exact x31_ (by decide) | omega), mu_ne (by first | assumption | decide | exact xs_ (by decide) | exact xc_ (by decide) | exact x31_ (by decide) | omega), mu_ne (by first | assumption | decide | exact xs_ (by decide) | exact xc_ (by decide) | exact x31_ (by decide) | omega), mu_ne (by first | assumption | decide | exact xs_ (by decide) | exact xc_ (by decide) | exact x31_ (by decide) | omega), mu_ne (by first | assumption | decide | exact xs_ (by decide) | exact xc_ (by decide) | exact x31_ (by decide) | omega), mu_ne (by first | assumption | decide | exact xs_ (by decide) | exact xc_ (by decide) | exact x31_ (by decide) | omega), mu_ne (by first | assumption | decide | exact xs_ (by decide) | exact xc_ (by decide) | exact x31_ (by decide) | omega), mu_ne (by first | assumption | decide | exact xs_ (by decide) | exact xc_ (by decide) | exact x31_ (by decide) | omega), mu_ne (by first | assumption | decide | exact xs_ (by decide) | exact xc_ (by decide) | exact x31_ (by decide) | omega), mu_ne (by first | assumption | decide | exact xs_ (by decide) | exact xc_ (by decide) | exact x31_ (by decide) | omega), mu_ne (by first | assumption | decide | exact xs_ (by decide) | exact xc_ (by decide) | exact x31_ (by decide) | omega), mu_ne (by first | assumption | decide | exact xs_ (by decide) | exact xc_ (by decide) | exact x31_ (by decide) | omega), mu_ne (by first | assumption | decide | exact xs_ (by decide) | exact xc_ (by decide) | exact x31_ (by decide) | omega), mu_ne (by first | assumption | decide | exact xs_ (by decide) | exact xc_ (by decide) | exact x31_ (by decide) | omega), mu_ne (by first | assumption | decide | exact xs_ (by decide) | exact xc_ (by decide) | exact x31_ (by decide) | omega), mu_ne (by first | assumption | decide | exact xs_ (by decide) | exact xc_ (by decide) | exact x31_ (by decide) | omega), mu_ne (by first | assumption | decide | exact xs_ (by decide) | exact xc_ (by decide) | exact x31_ (by decide) | omega), mu_ne (by first | assumption | decide | exact xs_ (by decide) | exact xc_ (by decide) | exact x31_ (by decide) | omega), mu_self]
        first | rfl | (simp [bgR]; done)
      by_cases t10 : t = 10
      · subst t10
        rw [mu_self]
        first | rfl | (simp [bgR]; done)
      by_cases t12 : t = 12
      · subst t12
        rw [mu_ne (by first | assumption | decide | exact xs_ (by decide) | exact xc_ (by decide) | exact x31_ (by decide) | omega), mu_ne (by first | assumption | decide | exact xs_ (by decide) | exact xc_ (by decide) | exact x31_ (by decide) | omega), mu_ne (by first | assumption | decide | exact xs_ (by decide) | exact xc_ (by decide) | exact x31_ (by decide) | omega), mu_ne (by first | assumption | decide | exact xs_ (by decide) | exact xc_ (by decide) | exact x31_ (by decide) | omega), mu_ne (by first | assumption | decide | exact xs_ (by decide) | exact xc_ (by decide) | exact x31_ (by decide) | omega), mu_ne (by first | assumption | decide | exact xs_ (by decide) | exact xc_ (by decide) | exact x31_ (by decide) | omega), mu_ne (by first | assumption | decide | exact xs_ (by decide) | exact xc_ (by decide) | exact x31_ (by decide) | omega), mu_ne (by first | assumption | decide | exact xs_ (by decide) | exact xc_ (by decide) | exact x31_ (by decide) | omega), mu_ne (by first | assumption | decide | exact xs_ (by decide) | exact xc_ (by decide) | exact x31_ (by decide) | omega), mu_ne (by first | assumption | decide | exact xs_ (by decide) | exact xc_ (by decide) | exact x31_ (by decide) | omega), mu_ne (by first | assumption | decide | exact xs_ (by decide) | exact xc_ (by decide) | exact x31_ (by decide) | omega), mu_ne (by first | assumption | decide | exact xs_ (by decide) | exact xc_ (by decide) | exact x31_ (by decide) | omega), mu_ne (by first | assumption | decide | exact xs_ (by decide) | exact xc_ (by decide) | exact x31_ (by decide) | omega), mu_ne (by first | assumption | decide | exact xs_ (by decide) | exact xc_ (by decide) | exact x31_ (by decide) | omega), mu_ne (by first | assumption | decide | exact xs_ (by decide) | exact xc_ (by decide) | exact x31_ (by decide) | omega), mu_ne (by first | assumption | decide | exact xs_ (by decide) | exact xc_ (by decide) | exact x31_ (by decide) | omega), mu_self]
        first | rfl | (simp [bgR]; done)
      by_cases t13 : t = 13
      · subst t13
        rw [mu_ne (by first | assumption | decide | exact xs_ (by decide) | exact xc_ (by decide) | exact x31_ (by decide) | omega), mu_ne (by first | assumption | decide | exact xs_ (by decide) | exact xc_ (by decide) | exact x31_ (by decide) | omega), mu_ne (by first | assumption | decide | exact xs_ (by decide) | exact xc_ (by decide) | exact x31_ (by decide) | omega), mu_ne (by first | assumption | decide | exact xs_ (by decide) | exact xc_ (by decide) | exact x31_ (by decide) | omega), mu_ne (by first | assumption | decide | exact xs_ (by decide) | exact xc_ (by decide) | exact x31_ (by decide) | omega), mu_ne (by first | assumption | decide | exact xs_ (by decide) | exact xc_ (by decide) | exact x31_ (by decide) | omega), mu_ne (by first | assumption | decide | exact xs_ (by decide) | exact xc_ (by decide) | exact x31_ (by decide) | omega), mu_ne (by first | assumption | decide | exact xs_ (by decide) | exact xc_ (by decide) | exact x31_ (by decide) | omega), mu_ne (by first | assumption | decide | exact xs_ (by decide) | exact xc_ (by decide) | exact x31_ (by decide) | omega), mu_ne (by first | assumption | decide | exact xs_ (by decide) | exact xc_ (by decide) | exact x31_ (by decide) | omega), mu_ne (by first | assumption | decide | exact xs_ (by decide) | exact xc_ (by decide) | exact x31_ (by decide) | omega), mu_ne (by first | assumption | decide | exact xs_ (by decide) | exact xc_ (by decide) | exact x31_ (by decide) | omega), mu_ne (by first | assumption | decide | exact xs_ (by decide) | exact xc_ (by decide) | exact x31_ (by decide) | omega), mu_ne (by first | assumption | decide | exact xs_ (by decide) | exact xc_ (by decide) | exact x31_ (by decide) | omega), mu_ne (by first | assumption | decide | exact xs_ (by decide) | exact xc_ (by decide) | exact x31_ (by decide) | omega), mu_self]
        first | rfl | (simp [bgR]; done)
      by_cases t14 : t = 14
      · subst t14
        rw [mu_ne (by first | assumption | decide | exact xs_ (by decide) | exact xc_ (by decide) | exact x31_ (by decide) | omega), mu_ne (by first | assumption | decide | exact xs_ (by decide) | exact xc_ (by decide) | exact x31_ (by decide) | omega), mu_ne (by first | assumption | decide | exact xs_ (by decide) | exact xc_ (by decide) | exact x31_ (by decide) | omega), mu_ne (by first | assumption | decide | exact xs_ (by decide) | exact xc_ (by decide) | exact x31_ (by decide) | omega), mu_ne (by first | assumption | decide | exact xs_ (by decide) | exact xc_ (by decide) | exact x31_ (by decide) | omega), mu_ne (by first | assumption | decide | exact xs_ (by decide) | exact xc_ (by decide) | exact x31_ (by decide) | omega), mu_ne (by first | assumption | decide | exact xs_ (by decide) | exact xc_ (by decide) | exact x31_ (by decide) | omega), mu_ne (by first | assumption | decide | exact xs_ (by decide) | exact xc_ (by decide) | exact x31_ (by decide) | omega), mu_ne (by first | assumption | decide | exact xs_ (by decide) | exact xc_ (by decide) | exact x31_ (by decide) | omega), mu_ne (by first | assumption | decide | exact xs_ (by decide) | exact xc_ (by decide) | exact x31_ (by decide) | omega), mu_ne (by first | assumption | decide | exact xs_ (by decide) | exact xc_ (by decide) | exact x31_ (by decide) | omega), mu_ne (by first | assumption | decide | exact xs_ (by decide) | exact xc_ (by decide) | exact x31_ (by decide) | omega), mu_ne (by first | assumption | decide | exact xs_ (by decide) | exact xc_ (by decide) | exact x31_ (by decide) | omega), mu_ne (by first | assumption | decide | exact xs_ (by decide) | exact xc_ (by decide) | exact x31_ (by decide) | omega), mu_self]
        first | rfl | (simp [bgR]; done)
      by_cases t15 : t = 15
      · subst t15
        rw [mu_ne (by first | assumption | decide | exact xs_ (by decide) | exact xc_ (by decide) | exact x31_ (by decide) | omega), mu_ne (by first | assumption | decide | exact xs_ (by decide) | exact xc_ (by decide) | exact x31_ (by decide) | omega), mu_ne (by first | assumption | decide | exact xs_ (by decide) | exact xc_ (by decide) | exact x31_ (by decide) | omega), mu_ne (by first | assumption | decide | exact xs_ (by decide) | exact xc_ (by decide) | exact x31_ (by decide) | omega), mu_ne (by first | assumption | decide | exact xs_ (by decide) | exact xc_ (by decide) | exact x31_ (by decide) | omega), mu_ne (by first | assumption | decide | exact xs_ (by decide) | exact xc_ (by decide) | exact x31_ (by decide) | omega), mu_ne (by first | assumption | decide | exact xs_ (by decide) | exact xc_ (by decide) | exact x31_ (by decide) | omega), mu_ne (by first | assumption | decide | exact xs_ (by decide) | exact xc_ (by decide) | exact x31_ (by decide) | omega), mu_ne (by first | assumption | decide | exact xs_ (by decide) | exact xc_ (by decide) | exact x31_ (by decide) | omega), mu_ne (by first | assumption | decide | exact xs_ (by decide) | exact xc_ (by decide) | exact x31_ (by decide) | omega), mu_ne (by first | assumption | decide | exact xs_ (by decide) | exact xc_ (by decide) | exact x31_ (by decide) | omega), mu_ne (by first | assumption | decide | exact xs_ (by decide) | exact xc_ (by decide) | exact x31_ (by decide) | omega), mu_ne (by first | assumption | decide | exact xs_ (by decide) | exact xc_ (by decide) | exact x31_ (by decide) | omega), mu_self]
        first | rfl | (simp [bgR]; done)
      rw [mu_ne (by first | assumption | decide | exact xs_ (by decide) | exact xc_ (by decide) | exact x31_ (by decide) | omega), mu_ne (by first | assumption | decide | exact xs_ (by decide) | exact xc_ (by decide) | exact x31_ (by decide) | omega), mu_ne (by first | assumption | decide | exact xs_ (by decide) | exact xc_ (by decide) | exact x31_ (by decide) | omega), mu_ne (by first | assumption | decide | exact xs_ (by decide) | exact xc_ (by decide) | exact x31_ (by decide) | omega), mu_ne (by first | assumption | decide | exact xs_ (by decide) | exact xc_ (by decide) | exact x31_ (by decide) | omega), mu_ne (by first | assumption | decide | exact xs_ (by decide) | exact xc_ (by decide) | exact x31_ (by decide) | omega), mu_ne (by first | assumption | decide | exact xs_ (by decide) | exact xc_ (by decide) | exact x31_ (by decide) | omega), mu_ne (by first | assumption | decide | exact xs_ (by decide) | exact xc_ (by decide) | exact x31_ (by decide) | omega), mu_ne (by first | assumption | decide | exact xs_ (by decide) | exact xc_ (by decide) | exact x31_ (by decide) | omega), mu_ne (by first | assumption | decide | exact xs_ (by decide) | exact xc_ (by decide) | exact x31_ (by decide) | omega), mu_ne (by first | assumption | decide | exact xs_ (by decide) | exact xc_ (by decide) | exact x31_ (by decide) | omega), mu_ne (by first | assumption | decide | exact xs_ (by decide) | exact xc_ (by decide) | exact x31_ (by decide) | omega), mu_ne (by first | assumption | decide | exact xs_ (by decide) | exact xc_ (by decide) | exact x31_ (by decide) | omega), mu_ne (by first | assumption | decide | exact xs_ (by decide) | exact xc_ (by decide) | exact x31_ (by decide) | omega), mu_ne (by first | assumption | decide | exact xs_ (by decide) | exact xc_ (by decide) | exact x31_ (by decide) | omega), mu_ne (by first | assumption | decide | exact xs_ (by decide) | exact xc_ (by decide) | exact x31_ (by decide) | omega), mu_ne (by first | assumption | decide | exact xs_ (by decide) | exact xc_ (by decide) | exact x31_ (by decide) | omega), mu_ne (by first | assumption | decide | exact xs_ (by decide) | exact xc_ (by decide) | exact x31_ (by decide) | omega), mu_ne (by first | assumption | decide | exact xs_ (by decide) | exact xc_ (by decide) | exact x31_ (by decide) | omega), mu_ne (by first | assumption | decide | exact xs_ (by decide) | exact xc_ (by decide) | exact x31_ (by decide) | omega), mu_ne (by first | assumption | decide | exact xs_ (by decide) | exact xc_ (by decide) | exact x31_ (by decide) | omega), mu_ne (by first | assumption | decide | exact xs_ (by decide) | exact xc_ (by decide) | exact x31_ (by decide) | omega), mu_ne (by first | assumption | decide | exact xs_ (by decide) | exact xc_ (by decide) | exact x31_ (by decide) | omega), mu_ne (by first | assumption | decide | exact xs_ (by decide) | exact xc_ (by decide) | exact x31_ (by decide) | omega)]
      unfold bgR
      rw [if_neg t1, if_neg t2, if_neg t3, if_neg t4, if_neg t5, if_neg t10, if_neg (by first | assumption | decide | exact xs_ (by decide) | exact xc_ (by decide) | exact x31_ (by decide) | omega)]
    by_cases c11 : c = 11
    · subst c11
      rw [if_neg (by first | assumption | decide | exact xs_ (by decide) | exact xc_ (by decide) | exact x31_ (by decide) | omega), if_pos rfl]
      by_cases t0 : t = 0
      · subst t0
        rw [mu_ne (by first | assumption | decide | exact xs_ (by decide) | exact xc_ (by decide) | exact x31_ (by decide) | omega), mu_ne (by first | assumption | decide | exact xs_ (by decide) | exact xc_ (by decide) | exact x31_ (by decide) | omega), mu_ne (by first | assumption | decide | exact xs_ (by decide) | exact xc_ (by decide) | exact x31_ (by decide) | omega), mu_ne (by first | assumption | decide | exact xs_ (by decide) | exact xc_ (by decide) | exact x31_ (by decide) | omega), mu_ne (by first | assumption | decide | exact xs_ (by decide) | exact xc_ (by decide) | exact x31_ (by decide) | omega), mu_ne (by first | assumption | decide | exact xs_ (by decide) | exact xc_ (by decide) | exact x31_ (by decide) | omega), mu_ne (by first | assumption | decide | exact xs_ (by decide) | exact xc_ (by decide) | exact x31_ (by decide) | omega), mu_ne (by first | assumption | decide | exact xs_ (by decide) | exact xc_ (by decide) | exact x31_ (by decide) | omega), mu_ne (by first | assumption | decide | exact xs_ (by decide) | exact xc_ (by decide) | exact x31_ (by decide) | omega), mu_ne (by first | assumption | decide | exact xs_ (by decide) | exact xc_ (by decide) | exact x31_ (by decide) | omega), mu_ne (by first | assumption | decide | exact xs_ (by decide) | exact xc_ (by decide) | exact x31_ (by decide) | omega), mu_ne (by first | assumption | decide | exact xs_ (by decide) | exact xc_ (by decide) | exact x31_ (by decide) | omega), mu_self]
        first | rfl | (simp [zrR, r7]; done)
      by_cases t1 : t = 1
      · subst t1
        rw [mu_ne (by first | assumption | decide | exact xs_ (by decide) | exact xc_ (by decide) | exact x31_ (by decide) | omega), mu_ne (by first | assumption | decide | exact xs_ (by decide) | exact xc_ (by decide) | exact x31_ (by decide) | omega), mu_ne (by first | assumption | decide | exact xs_ (by decide) | exact xc_ (by decide) | exact x31_ (by decide) | omega), mu_ne (by first | assumption | decide | exact xs_ (by decide) | exact xc_ (by decide) | exact x31_ (by decide) | omega), mu_ne (by first | assumption | decide | exact xs_ (by decide) | exact xc_ (by decide) | exact x31_ (by decide) | omega), mu_ne (by first | assumption | decide | exact xs_ (by decide) | exact xc_ (by decide) | exact x31_ (by decide) | omega), mu_ne (by first | assumption | decide | exact xs_ (by decide) | exact xc_ (by decide) | exact x31_ (by decide) | omega), mu_ne (by first | assumption | decide | exact xs_ (by decide) | exact xc_ (by decide) | exact x31_ (by decide) | omega), mu_ne (by first | assumption | decide | exact xs_ (by decide) | exact xc_ (by decide) | exact x31_ (by decide) | omega), mu_ne (by first | assumption | decide | exact xs_ (by decide) | exact xc_ (by decide) | exact x31_ (by decide) | omega), mu_ne (by first | assumption | decide | exact xs_ (by decide) | exact xc_ (by decide) | exact x31_ (by decide) | omega), mu_self]
        first | rfl | (simp [zrR, r7]; done)
      by_cases t2 : t = 2
      · subst t2
        rw [mu_ne (by first | assumption | decide | exact xs_ (by decide) | exact xc_ (by decide) | exact x31_ (by decide) | omega), mu_ne (by first | assumption | decide | exact xs_ (by decide) | exact xc_ (by decide) | exact x31_ (by decide) | omega), mu_ne (by first | assumption | decide | exact xs_ (by decide) | exact xc_ (by decide) | exact x31_ (by decide) | omega), mu_ne (by first | assumption | decide | exact xs_ (by decide) | exact xc_ (by decide) | exact x31_ (by decide) | omega), mu_ne (by first | assumption | decide | exact xs_ (by decide) | exact xc_ (by decide) | exact x31_ (by decide) | omega), mu_ne (by first | assumption | decide | exact xs_ (by decide) | exact xc_ (by decide) | exact x31_ (by decide) | omega), mu_ne (by first | assumption | decide | exact xs_ (by decide) | exact xc_ (by decide) | exact x31_ (by decide) | omega), mu_ne (by first | assumption | decide | exact xs_ (by decide) | exact xc_ (by decide) | exact x31_ (by decide) | omega), mu_ne (by first | assumption | decide | exact xs_ (by decide) | exact xc_ (by decide) | exact x31_ (by decide) | omega), mu_ne (by first | assumption | decide | exact xs_ (by decide) | exact xc_ (by decide) | exact x31_ (by decide) | omega), mu_self]
        first | rfl | (simp [zrR, r7]; done)
      by_cases t3 : t = 3
      · subst t3
        rw [mu_ne (by first | assumption | decide | exact xs_ (by decide) | exact xc_ (by decide) | exact x31_ (by decide) | omega), mu_ne (by first | assumption | decide | exact xs_ (by decide) | exact xc_ (by decide) | exact x31_ (by decide) | omega), mu_ne (by first | assumption | decide | exact xs_ (by decide) | exact xc_ (by decide) | exact x31_ (by decide) | omega), mu_ne (by first | assumption | decide | exact xs_ (by decide) | exact xc_ (by decide) | exact x31_ (by decide) | omega), mu_ne (by first | assumption | decide | exact xs_ (by decide) | exact xc_ (by decide) | exact x31_ (by decide) | omega), mu_ne (by first | assumption | decide | exact xs_ (by decide) | exact xc_ (by decide) | exact x31_ (by decide) | omega), mu_ne (by first | assumption | decide | exact xs_ (by decide) | exact xc_ (by decide) | exact x31_ (by decide) | omega), mu_ne (by first | assumption | decide | exact xs_ (by decide) | exact xc_ (by decide) | exact x31_ (by decide) | omega), mu_ne (by first | assumption | decide | exact xs_ (by decide) | exact xc_ (by decide) | exact x31_ (by decide) | omega), mu_self]
        first | rfl | (simp [zrR, r7]; done)
      by_cases t4 : t = 4
      · subst t4
        rw [mu_ne (by first | assumption | decide | exact xs_ (by decide) | exact xc_ (by decide) | exact x31_ (by decide) | omega), mu_ne (by first | assumption | decide | exact xs_ (by decide) | exact xc_ (by decide) | exact x31_ (by decide) | omega), mu_ne (by first | assumption | decide | exact xs_ (by decide) | exact xc_ (by decide) | exact x31_ (by decide) | omega), mu_ne (by first | assumption | decide | exact xs_ (by decide) | exact xc_ (by decide) | exact x31_ (by decide) | omega), mu_ne (by first | assumption | decide | exact xs_ (by decide) | exact xc_ (by decide) | exact x31_ (by decide) | omega), mu_ne (by first | assumption | decide | exact xs_ (by decide) | exact xc_ (by decide) | exact x31_ (by decide) | omega), mu_ne (by first | assumption | decide | exact xs_ (by decide) | exact xc_ (by decide) | exact x31_ (by decide) | omega), mu_ne (by first | assumption | decide | exact xs_ (by decide) | exact xc_ (by decide) | exact x31_ (by decide) | omega), mu_self]
        first | rfl | (simp [zrR, r7]; done)
      by_cases t5 : t = 5
      · subst t5
        rw [mu_ne (by first | assumption | decide | exact xs_ (by decide) | exact xc_ (by decide) | exact x31_ (by decide) | omega), mu_ne (by first | assumption | decide | exact xs_ (by decide) | exact xc_ (by decide) | exact x31_ (by decide) | omega), mu_ne (by first | assumption | decide | exact xs_ (by decide) | exact xc_ (by decide) | exact x31_ (by decide) | omega), mu_ne (by first | assumption | decide | exact xs_ (by decide) | exact xc_ (by decide) | exact x31_ (by decide) | omega), mu_ne (by first | assumption | decide | exact xs_ (by decide) | exact xc_ (by decide) | exact x31_ (by decide) | omega), mu_ne (by first | assumption | decide | exact xs_ (by decide) | exact xc_ (by decide) | exact x31_ (by decide) | omega), mu_ne (by first | assumption | decide | exact xs_ (by decide) | exact xc_ (by decide) | exact x31_ (by decide) | omega), mu_self]
        first | rfl | (simp [zrR, r7]; done)
      by_cases t6 : t = 6
      · subst t6
        rw [mu_ne (by first | assumption | decide | exact xs_ (by decide) | exact xc_ (by decide) | exact x31_ (by decide) | omega), mu_ne (by first | assumption | decide | exact xs_ (by decide) | exact xc_ (by decide) | exact x31_ (by decide) | omega), mu_ne (by first | assumption | decide | exact xs_ (by decide) | exact xc_ (by decide) | exact x31_ (by decide) | omega), mu_ne (by first | assumption | decide | exact xs_ (by decide) | exact xc_ (by decide) | exact x31_ (by decide) | omega), mu_ne (by first | assumption | decide | exact xs_ (by decide) | exact xc_ (by decide) | exact x31_ (by decide) | omega), mu_ne (by first | assumption | decide | exact xs_ (by decide) | exact xc_ (by decide) | exact x31_ (by decide) | omega), mu_self]
        first | rfl | (simp [zrR, r7]; done)
      rw [mu_ne (by first | assumption | decide | exact xs_ (by decide) | exact xc_ (by decide) | exact x31_ (by decide) | omega), mu_ne (by first | assumption | decide | exact xs_ (by decide) | exact xc_ (by decide) | exact x31_ (by decide) | omega), mu_ne (by first | assumption | decide | exact xs_ (by decide) | exact xc_ (by decide) | exact x31_ (by decide) | omega), mu_ne (by first | assumption | decide | exact xs_ (by decide) | exact xc_ (by decide) | exact x31_ (by decide) | omega), mu_ne (by first | assumption | decide | exact xs_ (by decide) | exact xc_ (by decide) | exact x31_ (by decide) | omega), mu_ne (by first | assumption | decide | exact xs_ (by decide) | exact xc_ (by decide) | exact x31_ (by decide) | omega), mu_ne (by first | assumption | decide | exact xs_ (by decide) | exact xc_ (by decide) | exact x31_ (by decide) | omega), mu_ne (by first | assumption | decide | exact xs_ (by decide) | exact xc_ (by decide) | exact x31_ (by decide) | omega), mu_ne (by first | assumption | decide | exact xs_ (by decide) | exact xc_ (by decide) | exact x31_ (by decide) | omega), mu_ne (by first | assumption | decide | exact xs_ (by decide) | exact xc_ (by decide) | exact x31_ (by decide) | omega), mu_ne (by first | assumption | decide | exact xs_ (by decide) | exact xc_ (by decide) | exact x31_ (by decide) | omega), mu_ne (by first | assumption | decide | exact xs_ (by decide) | exact xc_ (by decide) | exact x31_ (by decide) | omega), mu_ne (by first | assumption | decide | exact xs_ (by decide) | exact xc_ (by decide) | exact x31_ (by decide) | omega), mu_ne (by first | assumption | decide | exact xs_ (by decide) | exact xc_ (by decide) | exact x31_ (by decide) | omega), mu_ne (by first | assumption | decide | exact xs_ (by decide) | exact xc_ (by decide) | exact x31_ (by decide) | omega), mu_ne (by first | assumption | decide | exact xs_ (by decide) | exact xc_ (by decide) | exact x31_ (by decide) | omega), mu_ne (by first | assumption | decide | exact xs_ (by decide) | exact xc_ (by decide) | exact x31_ (by decide) | omega), mu_ne (by first | assumption | decide | exact xs_ (by decide) | exact xc_ (by decide) | exact x31_ (by decide) | omega), mu_ne (by first | assumption | decide | exact xs_ (by decide) | exact xc_ (by decide) | exact x31_ (by decide) | omega), mu_ne (by first | assumption | decide | exact xs_ (by decide) | exact xc_ (by decide) | exact x31_ (by decide) | omega), mu_ne (by first | assumption | decide | exact xs_ (by decide) | exact xc_ (by decide) | exact x31_ (by decide) | omega), mu_ne (by first | assumption | decide | exact xs_ (by decide) | exact xc_ (by decide) | exact x31_ (by decide) | omega), mu_ne (by first | assumption | decide | exact xs_ (by decide) | exact xc_ (by decide) | exact x31_ (by decide) | omega), mu_ne (by first | assumption | decide | exact xs_ (by decide) | exact xc_ (by decide) | exact x31_ (by decide) | omega)]
      unfold zrR r7
      rw [if_neg t0, if_neg t1, if_neg t2, if_neg t3, if_neg t4, if_neg t5, if_neg t6]
    rw [if_neg c7, if_neg c11, mu_ne (by first | assumption | decide | exact xs_ (by decide) | exact xc_ (by decide) | exact x31_ (by decide) | omega), mu_ne (by first | assumption | decide | exact xs_ (by decide) | exact xc_ (by decide) | exact x31_ (by decide) | omega), mu_ne (by first | assumption | decide | exact xs_ (by decide) | exact xc_ (by decide) | exact x31_ (by decide) | omega), mu_ne (by first | assumption | decide | exact xs_ (by decide) | exact xc_ (by decide) | exact x31_ (by decide) | omega), mu_ne (by first | assumption | decide | exact xs_ (by decide) | exact xc_ (by decide) | exact x31_ (by decide) | omega), mu_ne (by first | assumption | decide | exact xs_ (by decide) | exact xc_ (by decide) | exact x31_ (by decide) | omega), mu_ne (by first | assumption | decide | exact xs_ (by decide) | exact xc_ (by decide) | exact x31_ (by decide) | omega), mu_ne (by first | assumption | decide | exact xs_ (by decide) | exact xc_ (by decide) | exact x31_ (by decide) | omega), mu_ne (by first | assumption | decide | exact xs_ (by decide) | exact xc_ (by decide) | exact x31_ (by decide) | omega), mu_ne (by first | assumption | decide | exact xs_ (by decide) | exact xc_ (by decide) | exact x31_ (by decide) | omega), mu_ne (by first | assumption | decide | exact xs_ (by decide) | exact xc_ (by decide) | exact x31_ (by decide) | omega), mu_ne (by first | assumption | decide | exact xs_ (by decide) | exact xc_ (by decide) | exact x31_ (by decide) | omega), mu_ne (by first | assumption | decide | exact xs_ (by decide) | exact xc_ (by decide) | exact x31_ (by decide) | omega), mu_ne (by first | assumption | decide | exact xs_ (by decide) | exact xc_ (by decide) | exact x31_ (by decide) | omega), mu_ne (by first | assumption | decide | exact xs_ (by decide) | exact xc_ (by decide) | exact x31_ (by decide) | omega), mu_ne (by first | assumption | decide | exact xs_ (by decide) | exact xc_ (by decide) | exact x31_ (by decide) | omega), mu_ne (by first | assumption | decide | exact xs_ (by decide) | exact xc_ (by decide) | exact x31_ (by decide) | omega), mu_ne (by first | assumption | decide | exact xs_ (by decide) | exact xc_ (by decide) | exact x31_ (by decide) | omega), mu_ne (by first | assumption | decide | exact xs_ (by decide) | exact xc_ (by decide) | exact x31_ (by decide) | omega), mu_ne (by first | assumption | decide | exact xs_ (by decide) | exact xc_ (by decide) | exact x31_ (by decide) | omega), mu_ne (by first | assumption | decide | exact xs_ (by decide) | exact xc_ (by decide) | exact x31_ (by decide) | omega), mu_ne (by first | assumption | decide | exact xs_ (by decide) | exact xc_ (by decide) | exact x31_ (by decide) | omega), mu_ne (by first | assumption | decide | exact xs_ (by decide) | exact xc_ (by decide) | exact x31_ (by decide) | omega), mu_ne (by first | assumption | decide | exact xs_ (by decide) | exact xc_ (by decide) | exact x31_ (by decide) | omega)]
  · unfold bgM
    rw [if_neg (fun q => hx q.symm), mu_ne (by first | assumption | decide | exact xs_ (by decide) | exact xc_ (by decide) | exact x31_ (by decide) | omega), mu_ne (by first | assumption | decide | exact xs_ (by decide) | exact xc_ (by decide) | exact x31_ (by decide) | omega), mu_ne (by first | assumption | decide | exact xs_ (by decide) | exact xc_ (by decide) | exact x31_ (by decide) | omega), mu_ne (by first | assumption | decide | exact xs_ (by decide) | exact xc_ (by decide) | exact x31_ (by decide) | omega), mu_ne (by first | assumption | decide | exact xs_ (by decide) | exact xc_ (by decide) | exact x31_ (by decide) | omega), mu_ne (by first | assumption | decide | exact xs_ (by decide) | exact xc_ (by decide) | exact x31_ (by decide) | omega), mu_ne (by first | assumption | decide | exact xs_ (by decide) | exact xc_ (by decide) | exact x31_ (by decide) | omega), mu_ne (by first | assumption | decide | exact xs_ (by decide) | exact xc_ (by decide) | exact x31_ (by decide) | omega), mu_ne (by first | assumption | decide | exact xs_ (by decide) | exact xc_ (by decide) | exact x31_ (by decide) | omega), mu_ne (by first | assumption | decide | exact xs_ (by decide) | exact xc_ (by decide) | exact x31_ (by decide) | omega), mu_ne (by first | assumption | decide | exact xs_ (by decide) | exact xc_ (by decide) | exact x31_ (by decide) | omega), mu_ne (by first | assumption | decide | exact xs_ (by decide) | exact xc_ (by decide) | exact x31_ (by decide) | omega), mu_ne (by first | assumption | decide | exact xs_ (by decide) | exact xc_ (by decide) | exact x31_ (by decide) | omega), mu_ne (by first | assumption | decide | exact xs_ (by decide) | exact xc_ (by decide) | exact x31_ (by decide) | omega), mu_ne (by first | assumption | decide | exact xs_ (by decide) | exact xc_ (by decide) | exact x31_ (by decide) | omega), mu_ne (by first | assumption | decide | exact xs_ (by decide) | exact xc_ (by decide) | exact x31_ (by decide) | omega), mu_ne (by first | assumption | decide | exact xs_ (by decide) | exact xc_ (by decide) | exact x31_ (by decide) | omega), mu_ne (by first | assumption | decide | exact xs_ (by decide) | exact xc_ (by decide) | exact x31_ (by decide) | omega), mu_ne (by first | assumption | decide | exact xs_ (by decide) | exact xc_ (by decide) | exact x31_ (by decide) | omega), mu_ne (by first | assumption | decide | exact xs_ (by decide) | exact xc_ (by decide) | exact x31_ (by decide) | omega), mu_ne (by first | assumption | decide | exact xs_ (by decide) | exact xc_ (by decide) | exact x31_ (by decide) | omega), mu_ne (by first | assumption | decide | exact xs_ (by decide) | exact xc_ (by decide) | exact x31_ (by decide) | omega), mu_ne (by first | assumption | decide | exact xs_ (by decide) | exact xc_ (by decide) | exact x31_ (by decide) | omega), mu_ne (by first | assumption | decide | exact xs_ (by decide) | exact xc_ (by decide) | exact x31_ (by decide) | omega)]
theorem bg_11 {V : Mm} {l o b z y : Int} : bgM V l o b z y 11 l 3 = 0 := by
  unfold bgM
  rw [if_pos rfl, if_neg (by first | assumption | decide | exact xs_ (by decide) | exact xc_ (by decide) | exact x31_ (by decide) | omega), if_pos rfl]
  rfl
theorem cpA_eq {V : Mm} {l m : Int} : cpA V l m = (mu (mu (mu (mu (mu (mu (mu (mu (mu (mu (mu (mu (mu (mu (mu (mu (mu (mu V 7 m 1 (V 7 l 1)) 7 m 2 (V 7 l 2)) 7 m 3 (V 7 l 3)) 7 m 4 (V 7 l 4)) 7 m 5 (V 7 l 5)) 7 m 6 (V 7 l 6)) 7 m 10 (V 7 l 10)) 7 m 12 (V 7 l 12)) 7 m 13 (V 7 l 13)) 7 m 14 (V 7 l 14)) 7 m 15 (V 7 l 15)) 11 m 0 (V 11 l 0)) 11 m 1 (V 11 l 1)) 11 m 2 (V 11 l 2)) 11 m 3 (V 11 l 3)) 11 m 4 (V 11 l 4)) 11 m 5 (V 11 l 5)) 11 m 6 (V 11 l 6)) := by
  funext c x t
  by_cases hx : m = x
  · subst hx
    unfold cpA
    rw [if_pos rfl]
    by_cases c7 : c = 7
    · subst c7
      rw [if_pos rfl]
      by_cases t1 : t = 1
      · subst t1
        rw [mu_ne (by first | assumption | decide | exact xs_ (by decide) | exact xc_ (by decide) | exact x31_ (by decide) | omega), mu_ne (by first | assumption | decide | exact xs_ (by decide) | exact xc_ (by decide) | exact x31_ (by decide) | omega), mu_ne (by first | assumption | decide | exact xs_ (by decide) | exact xc_ (by decide) | exact x31_ (by decide) | omega), mu_ne (by first | assumption | decide | exact xs_ (by decide) | exact xc_ (by decide) | exact x31_ (by decide) | omega), mu_ne (by first | assumption | decide | exact xs_ (by decide) | exact xc_ (by decide) | exact x31_ (by decide) | omega), mu_ne (by first | assumption | decide | exact xs_ (by decide) | exact xc_ (by decide) | exact x31_ (by decide) | omega), mu_ne (by first | assumption | decide | exact xs_ (by decide) | exact xc_ (by decide) | exact x31_ (by decide) | omega), mu_ne (by first | assumption | decide | exact xs_ (by decide) | exact xc_ (by decide) | exact x31_ (by decide) | omega), mu_ne (by first | assumption | decide | exact xs_ (by decide) | exact xc_ (by decide) | exact x31_ (by decide) | omega), mu_ne (by first | assumption | decide | exact xs_ (by decide) | exact xc_ (by decide) | exact x31_ (by decide) | omega), mu_ne (by first | assumption | decide | exact xs_ (by decide) | exact xc_ (by decide) | exact x31_ (by decide) | omega), mu_ne (by first | assumption | decide | exact xs_ (by decide) | exact xc_ (by decide) | exact x31_ (by decide) | omega), mu_ne (by first | assumption | decide | exact xs_ (by decide) | exact xc_ (by decide) | exact x31_ (by decide) | omega), mu_ne (by first | assumption | decide | exact xs_ (by decide) | exact xc_ (by decide) | exact x31_ (by decide) | omega), mu_ne (by first | assumption | decide | exact xs_ (by decide) | exact xc_ (by decide) | exact x31_ (by decide) | omega), mu_ne (by first | assumption | decide | exact xs_ (by decide) | exact xc_ (by decide) | exact x31_ (by decide) | omega), mu_ne (by first | assumption | decide | exact xs_ (by decide) | exact xc_ (by decide) | exact x31_ (by decide) | omega), mu_self]
        exact if_pos (by first | omega | (unfold cpT; omega))
      by_cases t2 : t = 2
      · subst t2
        rw [mu_ne (by first | assumption | decide | exact xs_ (by decide) | exact xc_ (by decide) | exact x31_ (by decide) | omega), mu_ne (by first | assumption | decide | exact xs_ (by decide) | exact xc_ (by decide) | exact x31_ (by decide) | omega), mu_ne (by first | assumption | decide | exact xs_ (by decide) | exact xc_ (by decide) | exact x31_ (by decide) | omega), mu_ne (by first | assumption | decide | exact xs_ (by decide) | exact xc_ (by decide) | exact x31_ (by decide) | omega), mu_ne (by first | assumption | decide | exact xs_ (by decide) | exact xc_ (by decide) | exact x31_ (by decide) | omega), mu_ne (by first | assumption | decide | exact xs_ (by decide) | exact xc_ (by decide) | exact x31_ (by decide) | omega), mu_ne (by first | assumption | decide | exact xs_ (by decide) | exact xc_ (by decide) | exact x31_ (by decide) | omega), mu_ne (by first | assumption | decide | exact xs_ (by decide) | exact xc_ (by decide) | exact x31_ (by decide) | omega), mu_ne (by first | assumption | decide | exact xs_ (by decide) | exact xc_ (by decide) | exact x31_ (by decide) | omega), mu_ne (by first | assumption | decide | exact xs_ (by decide) | exact xc_ (by decide) | exact x31_ (by decide) | omega), mu_ne (by first | assumption | decide | exact xs_ (by decide) | exact xc_ (by decide) | exact x31_ (by decide) | omega), mu_ne (by first | assumption | decide | exact xs_ (by decide) | exact xc_ (by decide) | exact x31_ (by decide) | omega), mu_ne (by first | assumption | decide | exact xs_ (by decide) | exact xc_ (by decide) | exact x31_ (by decide) | omega), mu_ne (by first | assumption | decide | exact xs_ (by decide) | exact xc_ (by decide) | exact x31_ (by decide) | omega), mu_ne (by first | assumption | decide | exact xs_ (by decide) | exact xc_ (by decide) | exact x31_ (by decide) | omega), mu_ne (by first | assumption | decide | exact xs_ (by decide) | exact xc_ (by decide) | exact x31_ (by decide) | omega), mu_self]
        exact if_pos (by first | omega | (unfold cpT; omega))
      by_cases t3 : t = 3
      · subst t3
        rw [mu_ne (by first | assumption | decide | exact xs_ (by decide) | exact xc_ (by decide) | exact x31_ (by decide) | omega), mu_ne (by first | assumption | decide | exact xs_ (by decide) | exact xc_ (by decide) | exact x31_ (by decide) | omega), mu_ne (by first | assumption | decide | exact xs_ (by decide) | exact xc_ (by decide) | exact x31_ (by decide) | omega), mu_ne (by first | assumption | decide | exact xs_ (by decide) | exact xc_ (by decide) | exact x31_ (by decide) | omega), mu_ne (by first | assumption | decide | exact xs_ (by decide) | exact xc_ (by decide) | exact x31_ (by decide) | omega), mu_ne (by first | assumption | decide | exact xs_ (by decide) | exact xc_ (by decide) | exact x31_ (by decide) | omega), mu_ne (by first | assumption | decide | exact xs_ (by decide) | exact xc_ (by decide) | exact x31_ (by decide) | omega), mu_ne (by first | assumption | decide | exact xs_ (by decide) | exact xc_ (by decide) | exact x31_ (by decide) | omega), mu_ne (by first | assumption | decide | exact xs_ (by decide) | exact xc_ (by decide) | exact x31_ (by decide) | omega), mu_ne (by first | assumption | decide | exact xs_ (by decide) | exact xc_ (by decide) | exact x31_ (by decide) | omega), mu_ne (by first | assumption | decide | exact xs_ (by decide) | exact xc_ (by decide) | exact x31_ (by decide) | omega), mu_ne (by first | assumption | decide | exact xs_ (by decide) | exact xc_ (by decide) | exact x31_ (by decide) | omega), mu_ne (by first | assumption | decide | exact xs_ (by decide) | exact xc_ (by decide) | exact x31_ (by decide) | omega), mu_ne (by first | assumption | decide | exact xs_ (by decide) | exact xc_ (by decide) | exact x31_ (by decide) | omega), mu_ne (by first | assumption | decide | exact xs_ (by decide) | exact xc_ (by decide) | exact x31_ (by decide) | omega), mu_self]
        exact if_pos (by first | omega | (unfold cpT; omega))
      by_cases t4 : t = 4
      · subst t4
        rw [mu_ne (by first | assumption | decide | exact xs_ (by decide) | exact xc_ (by decide) | exact x31_ (by decide) | omega), mu_ne (by first | assumption | decide | exact xs_ (by decide) | exact xc_ (by decide) | exact x31_ (by decide) | omega), mu_ne (by first | assumption | decide | exact xs_ (by decide) | exact xc_ (by decide) | exact x31_ (by decide) | omega), mu_ne (by first | assumption | decide | exact xs_ (by decide) | exact xc_ (by decide) | exact x31_ (by decide) | omega), mu_ne (by first | assumption | decide | exact xs_ (by decide) | exact xc_ (by decide) | exact x31_ (by decide) | omega), mu_ne (by first | assumption | decide | exact xs_ (by decide) | exact xc_ (by decide) | exact x31_ (by decide) | omega), mu_ne (by first | assumption | decide | exact xs_ (by decide) | exact xc_ (by decide) | exact x31_ (by decide) | omega), mu_ne (by first | assumption | decide | exact xs_ (by decide) | exact xc_ (by decide) | exact x31_ (by decide) | omega), mu_ne (by first | assumption | decide | exact xs_ (by decide) | exact xc_ (by decide) | exact x31_ (by decide) | omega), mu_ne (by first | assumption | decide | exact xs_ (by decide) | exact xc_ (by decide) | exact x31_ (by decide) | omega), mu_ne (by first | assumption | decide | exact xs_ (by decide) | exact xc_ (by decide) | exact x31_ (by decide) | omega), mu_ne (by first | assumption | decide | exact xs_ (by decide) | exact xc_ (by decide) | exact x31_ (by decide) | omega), mu_ne (by first | assumption | decide | exact xs_ (by decide) | exact xc_ (by decide) | exact x31_ (by decide) | omega), mu_ne (by first | assumption | decide | exact xs_ (by decide) | exact xc_ (by decide) | exact x31_ (by decide) | omega), mu_self]
        exact if_pos (by first | omega | (unfold cpT; omega))
      by_cases t5 : t = 5
      · subst t5
        rw [mu_ne (by first | assumption | decide | exact xs_ (by decide) | exact xc_ (by decide) | exact x31_ (by decide) | omega), mu_ne (by first | assumption | decide | exact xs_ (by decide) | exact xc_ (by decide) | exact x31_ (by decide) | omega), mu_ne (by first | assumption | decide | exact xs_ (by decide) | exact xc_ (by decide) | exact x31_ (by decide) | omega), mu_ne (by first | assumption | decide | exact xs_ (by decide) | exact xc_ (by decide) | exact x31_ (by decide) | omega), mu_ne (by first | assumption | decide | exact xs_ (by decide) | exact xc_ (by decide) | exact x31_ (by decide) | omega), mu_ne (by first | assumption | decide | exact xs_ (by decide) | exact xc_ (by decide) | exact x31_ (by decide) | omega), mu_ne (by first | assumption | decide | exact xs_ (by decide) | exact xc_ (by decide) | exact x31_ (by decide) | omega), mu_ne (by first | assumption | decide | exact xs_ (by decide) | exact xc_ (by decide) | exact x31_ (by decide) | omega), mu_ne (by first | assumption | decide | exact xs_ (by decide) | exact xc_ (by decide) | exact x31_ (by decide) | omega), mu_ne (by first | assumption | decide | exact xs_ (by decide) | exact xc_ (by decide) | exact x31_ (by decide) | omega), mu_ne (by first | assumption | decide | exact xs_ (by decide) | exact xc_ (by decide) | exact x31_ (by decide) | omega), mu_ne (by first | assumption | decide | exact xs_ (by decide) | exact xc_ (by decide) | exact x31_ (by decide) | omega), mu_ne (by first | assumption | decide | exact xs_ (by decide) | exact xc_ (by decide) | exact x31_ (by decide) | omega), mu_self]
        exact if_pos (by first | omega | (unfold cpT; omega))
      by_cases t6 : t = 6
      · subst t6
        rw [mu_ne (by first | assumption | decide | exact xs_ (by decide) | exact xc_ (by decide) | exact x31_ (by decide) | omega), mu_ne (by first | assumption | decide | exact xs_ (by decide) | exact xc_ (by decide) | exact x31_ (by decide) | omega), mu_ne (by first | assumption | decide | exact xs_ (by decide) | exact xc_ (by decide) | exact x31_ (by decide) | omega), mu_ne (by first | assumption | decide | exact xs_ (by decide) | exact xc_ (by decide) | exact x31_ (by decide) | omega), mu_ne (by first | assumption | decide | exact xs_ (by decide) | exact xc_ (by decide) | exact x31_ (by decide) | omega), mu_ne (by first | assumption | decide | exact xs_ (by decide) | exact xc_ (by decide) | exact x31_ (by decide) | omega), mu_ne (by first | assumption | decide | exact xs_ (by decide) | exact xc_ (by decide) | exact x31_ (by decide) | omega), mu_ne (by first | assumption | decide | exact xs_ (by decide) | exact xc_ (by decide) | exact x31_ (by decide) | omega), mu_ne (by first | assumption | decide | exact xs_ (by decide) | exact xc_ (by decide) | exact x31_ (by decide) | omega), mu_ne (by first | assumption | decide | exact xs_ (by decide) | exact xc_ (by decide) | exact x31_ (by decide) | omega), mu_ne (by first | assumption | decide | exact xs_ (by decide) | exact xc_ (by decide) | exact x31_ (by decide) | omega), mu_ne (by first | assumption | decide | exact xs_ (by decide) | exact xc_ (by decide) | exact x31_ (by decide) | omega), mu_self]
        exact if_pos (by first | omega | (unfold cpT; omega))
      by_cases t10 : t = 10
      · subst t10
        rw [mu_ne (by first | assumption | decide | exact xs_ (by decide) | exact xc_ (by decide) | exact x31_ (by decide) | omega), mu_ne (by first | assumption | decide | exact xs_ (by decide) | exact xc_ (by decide) | exact x31_ (by decide) | omega), mu_ne (by first | assumption | decide | exact xs_ (by decide) | exact xc_ (by decide) | exact x31_ (by decide) | omega), mu_ne (by first | assumption | decide | exact xs_ (by decide) | exact xc_ (by decide) | exact x31_ (by decide) | omega), mu_ne (by first | assumption | decide | exact xs_ (by decide) | exact xc_ (by decide) | exact x31_ (by decide) | omega), mu_ne (by first | assumption | decide | exact xs_ (by decide) | exact xc_ (by decide) | exact x31_ (by decide) | omega), mu_ne (by first | assumption | decide | exact xs_ (by decide) | exact xc_ (by decide) | exact x31_ (by decide) | omega), mu_ne (by first | assumption | decide | exact xs_ (by decide) | exact xc_ (by decide) | exact x31_ (by decide) | omega), mu_ne (by first | assumption | decide | exact xs_ (by decide) | exact xc_ (by decide) | exact x31_ (by decide) | omega), mu_ne (by first | assumption | decide | exact xs_ (by decide) | exact xc_ (by decide) | exact x31_ (by decide) | omega), mu_ne (by first | assumption | decide | exact xs_ (by decide) | exact xc_ (by decide) | exact x31_ (by decide) | omega), mu_self]
        exact if_pos (by first | omega | (unfold cpT; omega))
      by_cases t12 : t = 12
      · subst t12
        rw [mu_ne (by first | assumption | decide | exact xs_ (by decide) | exact xc_ (by decide) | exact x31_ (by decide) | omega), mu_ne (by first | assumption | decide | exact xs_ (by decide) | exact xc_ (by decide) | exact x31_ (by decide) | omega), mu_ne (by first | assumption | decide | exact xs_ (by decide) | exact xc_ (by decide) | exact x31_ (by decide) | omega), mu_ne (by first | assumption | decide | exact xs_ (by decide) | exact xc_ (by decide) | exact x31_ (by decide) | omega), mu_ne (by first | assumption | decide | exact xs_ (by decide) | exact xc_ (by decide) | exact x31_ (by decide) | omega), mu_ne (by first | assumption | decide | exact xs_ (by decide) | exact xc_ (by decide) | exact x31_ (by decide) | omega), mu_ne (by first | assumption | decide | exact xs_ (by decide) | exact xc_ (by decide) | exact x31_ (by decide) | omega), mu_ne (by first | assumption | decide | exact xs_ (by decide) | exact xc_ (by decide) | exact x31_ (by decide) | omega), mu_ne (by first | assumption | decide | exact xs_ (by decide) | exact xc_ (by decide) | exact x31_ (by decide) | omega), mu_ne (by first | assumption | decide | exact xs_ (by decide) | exact xc_ (by decide) | exact x31_ (by decide) | omega), mu_self]
        exact if_pos (by first | omega | (unfold cpT; omega))
      by_cases t13 : t = 13
      · subst t13
        rw [mu_ne (by first | assumption | decide | exact xs_ (by decide) | exact xc_ (by decide) | exact x31_ (by decide) | omega), mu_ne (by first | assumption | decide | exact xs_ (by decide) | exact xc_ (by decide) | exact x31_ (by decide) | omega), mu_ne (by first | assumption | decide | exact xs_ (by decide) | exact xc_ (by decide) | exact x31_ (by decide) | omega), mu_ne (by first | assumption | decide | exact xs_ (by decide) | exact xc_ (by decide) | exact x31_ (by decide) | omega), mu_ne (by first | assumption | decide | exact xs_ (by decide) | exact xc_ (by decide) | exact x31_ (by decide) | omega), mu_ne (by first | assumption | decide | exact xs_ (by decide) | exact xc_ (by decide) | exact x31_ (by decide) | omega), mu_ne (by first | assumption | decide | exact xs_ (by decide) | exact xc_ (by decide) | exact x31_ (by decide) | omega), mu_ne (by first | assumption | decide | exact xs_ (by decide) | exact xc_ (by decide) | exact x31_ (by decide) | omega), mu_ne (by first | assumption | decide | exact xs_ (by decide) | exact xc_ (by decide) | exact x31_ (by decide) | omega), mu_self]
        exact if_pos (by first | omega | (unfold cpT; omega))
      by_cases t14 : t = 14
      · subst t14
        rw [mu_ne (by first | assumption | decide | exact xs_ (by decide) | exact xc_ (by decide) | exact x31_ (by decide) | omega), mu_ne (by first | assumption | decide | exact xs_ (by decide) | exact xc_ (by decide) | exact x31_ (by decide) | omega), mu_ne (by first | assumption | decide | exact xs_ (by decide) | exact xc_ (by decide) | exact x31_ (by decide) | omega), mu_ne (by first | assumption | decide | exact xs_ (by decide) | exact xc_ (by decide) | exact x31_ (by decide) | omega), mu_ne (by first | assumption | decide | exact xs_ (by decide) | exact xc_ (by decide) | exact x31_ (by decide) | omega), mu_ne (by first | assumption | decide | exact xs_ (by decide) | exact xc_ (by decide) | exact x31_ (by decide) | omega), mu_ne (by first | assumption | decide | exact xs_ (by decide) | exact xc_ (by decide) | exact x31_ (by decide) | omega), mu_ne (by first | assumption | decide | exact xs_ (by decide) | exact xc_ (by decide) | exact x31_ (by decide) | omega), mu_self]
        exact if_pos (by first | omega | (unfold cpT; omega))
      by_cases t15 : t = 15
      · subst t15
        rw [mu_ne (by first | assumption | decide | exact xs_ (by decide) | exact xc_ (by decide) | exact x31_ (by decide) | omega), mu_ne (by first | assumption | decide | exact xs_ (by decide) | exact xc_ (by decide) | exact x31_ (by decide) | omega), mu_ne (by first | assumption | decide | exact xs_ (by decide) | exact xc_ (by decide) | exact x31_ (by decide) | omega), mu_ne (by first | assumption | decide | exact xs_ (by decide) | exact xc_ (by decide) | exact x31_ (by decide) | omega), mu_ne (by first | assumption | decide | exact xs_ (by decide) | exact xc_ (by decide) | exact x31_ (by decide) | omega), mu_ne (by first | assumption | decide | exact xs_ (by decide) | exact xc_ (by decide) | exact x31_ (by decide) | omega), mu_ne (by first | assumption | decide | exact xs_ (by decide) | exact xc_ (by decide) | exact x31_ (by decide) | omega), mu_self]
        exact if_pos (by first | omega | (unfold cpT; omega))
      rw [mu_ne (by first | assumption | decide | exact xs_ (by decide) | exact xc_ (by decide) | exact x31_ (by decide) | omega), mu_ne (by first | assumption | decide | exact xs_ (by decide) | exact xc_ (by decide) | exact x31_ (by decide) | omega), mu_ne (by first | assumption | decide | exact xs_ (by decide) | exact xc_ (by decide) | exact x31_ (by decide) | omega), mu_ne (by first | assumption | decide | exact xs_ (by decide) | exact xc_ (by decide) | exact x31_ (by decide) | omega), mu_ne (by first | assumption | decide | exact xs_ (by decide) | exact xc_ (by decide) | exact x31_ (by decide) | omega), mu_ne (by first | assumption | decide | exact xs_ (by decide) | exact xc_ (by decide) | exact x31_ (by decide) | omega), mu_ne (by first | assumption | decide | exact xs_ (by decide) | exact xc_ (by decide) | exact x31_ (by decide) | omega), mu_ne (by first | assumption | decide | exact xs_ (by decide) | exact xc_ (by decide) | exact x31_ (by decide) | omega), mu_ne (by first | assumption | decide | exact xs_ (by decide) | exact xc_ (by decide) | exact x31_ (by decide) | omega), mu_ne (by first | assumption | decide | exact xs_ (by decide) | exact xc_ (by decide) | exact x31_ (by decide) | omega), mu_ne (by first | assumption | decide | exact xs_ (by decide) | exact xc_ (by decide) | exact x31_ (by decide) | omega), mu_ne (by first | assumption | decide | exact xs_ (by decide) | exact xc_ (by decide) | exact x31_ (by decide) | omega), mu_ne (by first | assumption | decide | exact xs_ (by decide) | exact xc_ (by decide) | exact x31_ (by decide) | omega), mu_ne (by first | assumption | decide | exact xs_ (by decide) | exact xc_ (by decide) | exact x31_ (by decide) | omega), mu_ne (by first | assumption | decide | exact xs_ (by decide) | exact xc_ (by decide) | exact x31_ (by decide) | omega), mu_ne (by first | assumption | decide | exact xs_ (by decide) | exact xc_ (by decide) | exact x31_ (by decide) | omega), mu_ne (by first | assumption | decide | exact xs_ (by decide) | exact xc_ (by decide) | exact x31_ (by decide) | omega), mu_ne (by first | assumption | decide | exact xs_ (by decide) | exact xc_ (by decide) | exact x31_ (by decide) | omega)]
      exact if_neg (by first | omega | (unfold cpT; omega))
    by_cases c11 : c = 11
    · subst c11
      rw [if_neg (by first | assumption | decide | exact xs_ (by decide) | exact xc_ (by decide) | exact x31_ (by decide) | omega), if_pos rfl]
      by_cases t0 : t = 0
      · subst t0
        rw [mu_ne (by first | assumption | decide | exact xs_ (by decide) | exact xc_ (by decide) | exact x31_ (by decide) | omega), mu_ne (by first | assumption | decide | exact xs_ (by decide) | exact xc_ (by decide) | exact x31_ (by decide) | omega), mu_ne (by first | assumption | decide | exact xs_ (by decide) | exact xc_ (by decide) | exact x31_ (by decide) | omega), mu_ne (by first | assumption | decide | exact xs_ (by decide) | exact xc_ (by decide) | exact x31_ (by decide) | omega), mu_ne (by first | assumption | decide | exact xs_ (by decide) | exact xc_ (by decide) | exact x31_ (by decide) | omega), mu_ne (by first | assumption | decide | exact xs_ (by decide) | exact xc_ (by decide) | exact x31_ (by decide) | omega), mu_self]
        exact if_pos (by first | assumption | decide | exact xs_ (by decide) | exact xc_ (by decide) | exact x31_ (by decide) | omega)
      by_cases t1 : t = 1
      · subst t1
        rw [mu_ne (by first | assumption | decide | exact xs_ (by decide) | exact xc_ (by decide) | exact x31_ (by decide) | omega), mu_ne (by first | assumption | decide | exact xs_ (by decide) | exact xc_ (by decide) | exact x31_ (by decide) | omega), mu_ne (by first | assumption | decide | exact xs_ (by decide) | exact xc_ (by decide) | exact x31_ (by decide) | omega), mu_ne (by first | assumption | decide | exact xs_ (by decide) | exact xc_ (by decide) | exact x31_ (by decide) | omega), mu_ne (by first | assumption | decide | exact xs_ (by decide) | exact xc_ (by decide) | exact x31_ (by decide) | omega), mu_self]
        exact if_pos (by first | assumption | decide | exact xs_ (by decide) | exact xc_ (by decide) | exact x31_ (by decide) | omega)
      by_cases t2 : t = 2
      · subst t2
        rw [mu_ne (by first | assumption | decide | exact xs_ (by decide) | exact xc_ (by decide) | exact x31_ (by decide) | omega), mu_ne (by first | assumption | decide | exact xs_ (by decide) | exact xc_ (by decide) | exact x31_ (by decide) | omega), mu_ne (by first | assumption | decide | exact xs_ (by decide) | exact xc_ (by decide) | exact x31_ (by decide) | omega), mu_ne (by first | assumption | decide | exact xs_ (by decide) | exact xc_ (by decide) | exact x31_ (by decide) | omega), mu_self]
        exact if_pos (by first | assumption | decide | exact xs_ (by decide) | exact xc_ (by decide) | exact x31_ (by decide) | omega)
      by_cases t3 : t = 3
      · subst t3
        rw [mu_ne (by first | assumption | decide | exact xs_ (by decide) | exact xc_ (by decide) | exact x31_ (by decide) | omega), mu_ne (by first | assumption | decide | exact xs_ (by decide) | exact xc_ (by decide) | exact x31_ (by decide) | omega), mu_ne (by first | assumption | decide | exact xs_ (by decide) | exact xc_ (by decide) | exact x31_ (by decide) | omega), mu_self]
        exact if_pos (by first | assumption | decide | exact xs_ (by decide) | exact xc_ (by decide) | exact x31_ (by decide) | omega)
      by_cases t4 : t = 4
      · subst t4
        rw [mu_ne (by first | assumption | decide | exact xs_ (by decide) | exact xc_ (by decide) | exact x31_ (by decide) | omega), mu_ne (by first | assumption | decide | exact xs_ (by decide) | exact xc_ (by decide) | exact x31_ (by decide) | omega), mu_self]
        exact if_pos (by first | assumption | decide | exact xs_ (by decide) | exact xc_ (by decide) | exact x31_ (by decide) | omega)
      by_cases t5 : t = 5
      · subst t5
        rw [mu_ne (by first | assumption | decide | exact xs_ (by decide) | exact xc_ (by decide) | exact x31_ (by decide) | omega), mu_self]
        exact if_pos (by first | assumption | decide | exact xs_ (by decide) | exact xc_ (by decide) | exact x31_ (by decide) | omega)
      by_cases t6 : t = 6
      · subst t6
        rw [mu_self]
        exact if_pos (by first | assumption | decide | exact xs_ (by decide) | exact xc_ (by decide) | exact x31_ (by decide) | omega)
      rw [mu_ne (by first | assumption | decide | exact xs_ (by decide) | exact xc_ (by decide) | exact x31_ (by decide) | omega), mu_ne (by first | assumption | decide | exact xs_ (by decide) | exact xc_ (by decide) | exact x31_ (by decide) | omega), mu_ne (by first | assumption | decide | exact xs_ (by decide) | exact xc_ (by decide) | exact x31_ (by decide) | omega), mu_ne (by first | assumption | decide | exact xs_ (by decide) | exact xc_ (by decide) | exact x31_ (by decide) | omega), mu_ne (by first | assumption | decide | exact xs_ (by decide) | exact xc_ (by decide) | exact x31_ (by decide) | omega), mu_ne (by first | assumption | decide | exact xs_ (by decide) | exact xc_ (by decide) | exact x31_ (by decide) | omega), mu_ne (by first | assumption | decide | exact xs_ (by decide) | exact xc_ (by decide) | exact x31_ (by decide) | omega), mu_ne (by first | assumption | decide | exact xs_ (by decide) | exact xc_ (by decide) | exact x31_ (by decide) | omega), mu_ne (by first | assumption | decide | exact xs_ (by decide) | exact xc_ (by decide) | exact x31_ (by decide) | omega), mu_ne (by first | assumption | decide | exact xs_ (by decide) | exact xc_ (by decide) | exact x31_ (by decide) | omega), mu_ne (by first | assumption | decide | exact xs_ (by decide) | exact xc_ (by decide) | exact x31_ (by decide) | omega), mu_ne (by first | assumption | decide | exact xs_ (by decide) | exact xc_ (by decide) | exact x31_ (by decide) | omega), mu_ne (by first | assumption | decide | exact xs_ (by decide) | exact xc_ (by decide) | exact x31_ (by decide) | omega), mu_ne (by first | assumption | decide | exact xs_ (by decide) | exact xc_ (by decide) | exact x31_ (by decide) | omega), mu_ne (by first | assumption | decide | exact xs_ (by decide) | exact xc_ (by decide) | exact x31_ (by decide) | omega), mu_ne (by first | assumption | decide | exact xs_ (by decide) | exact xc_ (by decide) | exact x31_ (by decide) | omega), mu_ne (by first | assumption | decide | exact xs_ (by decide) | exact xc_ (by decide) | exact x31_ (by decide) | omega), mu_ne (by first | assumption | decide | exact xs_ (by decide) | exact xc_ (by decide) | exact x31_ (by decide) | omega)]
      exact if_neg (by first | assumption | decide | exact xs_ (by decide) | exact xc_ (by decide) | exact x31_ (by decide) | omega)
    rw [if_neg c7, if_neg c11, mu_ne (by first | assumption | decide | exact xs_ (by decide) | exact xc_ (by decide) | exact x31_ (by decide) | omega), mu_ne (by first | assumption | decide | exact xs_ (by decide) | exact xc_ (by decide) | exact x31_ (by decide) | omega), mu_ne (by first | assumption | decide | exact xs_ (by decide) | exact xc_ (by decide) | exact x31_ (by decide) | omega), mu_ne (by first | assumption | decide | exact xs_ (by decide) | exact xc_ (by decide) | exact x31_ (by decide) | omega), mu_ne (by first | assumption | decide | exact xs_ (by decide) | exact xc_ (by decide) | exact x31_ (by decide) | omega), mu_ne (by first | assumption | decide | exact xs_ (by decide) | exact xc_ (by decide) | exact x31_ (by decide) | omega), mu_ne (by first | assumption | decide | exact xs_ (by decide) | exact xc_ (by decide) | exact x31_ (by decide) | omega), mu_ne (by first | assumption | decide | exact xs_ (by decide) | exact xc_ (by decide) | exact x31_ (by decide) | omega), mu_ne (by first | assumption | decide | exact xs_ (by decide) | exact xc_ (by decide) | exact x31_ (by decide) | omega), mu_ne (by first | assumption | decide | exact xs_ (by decide) | exact xc_ (by decide) | exact x31_ (by decide) | omega), mu_ne (by first | assumption | decide | exact xs_ (by decide) | exact xc_ (by decide) | exact x31_ (by decide) | omega), mu_ne (by first | assumption | decide | exact xs_ (by decide) | exact xc_ (by decide) | exact x31_ (by decide) | omega), mu_ne (by first | assumption | decide | exact xs_ (by decide) | exact xc_ (by decide) | exact x31_ (by decide) | omega), mu_ne (by first | assumption | decide | exact xs_ (by decide) | exact xc_ (by decide) | exact x31_ (by decide) | omega), mu_ne (by first | assumption | decide | exact xs_ (by decide) | exact xc_ (by decide) | exact x31_ (by decide) | omega), mu_ne (by first | assumption | decide | exact xs_ (by decide) | exact xc_ (by decide) | exact x31_ (by decide) | omega), mu_ne (by first | assumption | decide | exact xs_ (by decide) | exact xc_ (by decide) | exact x31_ (by decide) | omega), mu_ne (by first | assumption | decide | exact xs_ (by decide) | exact xc_ (by decide) | exact x31_ (by decide) | omega)]
  · unfold cpA
    rw [if_neg (fun q => hx q.symm), mu_ne (by first | assumption | decide | exact xs_ (by decide) | exact xc_ (by decide) | exact x31_ (by decide) | omega), mu_ne (by first | assumption | decide | exact xs_ (by decide) | exact xc_ (by decide) | exact x31_ (by decide) | omega), mu_ne (by first | assumption | decide | exact xs_ (by decide) | exact xc_ (by decide) | exact x31_ (by decide) | omega), mu_ne (by first | assumption | decide | exact xs_ (by decide) | exact xc_ (by decide) | exact x31_ (by decide) | omega), mu_ne (by first | assumption | decide | exact xs_ (by decide) | exact xc_ (by decide) | exact x31_ (by decide) | omega), mu_ne (by first | assumption | decide | exact xs_ (by decide) | exact xc_ (by decide) | exact x31_ (by decide) | omega), mu_ne (by first | assumption | decide | exact xs_ (by decide) | exact xc_ (by decide) | exact x31_ (by decide) | omega), mu_ne (by first | assumption | decide | exact xs_ (by decide) | exact xc_ (by decide) | exact x31_ (by decide) | omega), mu_ne (by first | assumption | decide | exact xs_ (by decide) | exact xc_ (by decide) | exact x31_ (by decide) | omega), mu_ne (by first | assumption | decide | exact xs_ (by decide) | exact xc_ (by decide) | exact x31_ (by decide) | omega), mu_ne (by first | assumption | decide | exact xs_ (by decide) | exact xc_ (by decide) | exact x31_ (by decide) | omega), mu_ne (by first | assumption | decide | exact xs_ (by decide) | exact xc_ (by decide) | exact x31_ (by decide) | omega), mu_ne (by first | assumption | decide | exact xs_ (by decide) | exact xc_ (by decide) | exact x31_ (by decide) | omega), mu_ne (by first | assumption | decide | exact xs_ (by decide) | exact xc_ (by decide) | exact x31_ (by decide) | omega), mu_ne (by first | assumption | decide | exact xs_ (by decide) | exact xc_ (by decide) | exact x31_ (by decide) | omega), mu_ne (by first | assumption | decide | exact xs_ (by decide) | exact xc_ (by decide) | exact x31_ (by decide) | omega), mu_ne (by first | assumption | decide | exact xs_ (by decide) | exact xc_ (by decide) | exact x31_ (by decide) | omega), mu_ne (by first | assumption | decide | exact xs_ (by decide) | exact xc_ (by decide) | exact x31_ (by decide) | omega)]
theorem y_openLanes {eb : Bool} {t : Int} {V : Mm} {d : Nat} {P : Option Vl → Mm → Prop} {σ : Mm}  {σ0 : Mm} (ht : 6 ≤ t ∧ t ≤ 7) (hR : RS t σ0 V σ)  (k : P (some (vI (cntO V))) σ) : WT (true, eb, true) (d + 2) 175 [vR 30 0] σ P := by
  refine WT_in fun K hK => ?_
  have hK : StpY (true, eb, true) cX6_openLanes RX6 (some .int) (WT (true, eb, true) (d + 1)) P K := hK
  have hM := hK.1
  have hC := hK.1.1
  show K 0 [some (vR 30 0), none, none] [] σ
  refine r_iconst hC dX6_openLanes_0 rfl ?_
  refine r_istore_n hC dX6_openLanes_1 rfl ?_
  refine r_iconst hC dX6_openLanes_2 rfl ?_
  refine r_istore_n hC dX6_openLanes_3 rfl ?_
  refine r_iload_n hC dX6_openLanes_4 rfl ?_
  refine r_iconst hC dX6_openLanes_5 rfl ?_
  refine r_icmp_ge (tgt := 24) hC dX6_openLanes_6 rfl (fun h1 => by omega) (fun h1 => ?_)
  refine r_iload_n hC dX6_openLanes_9 rfl ?_
  refine r_aload_n hC dX6_openLanes_10 rfl ?_
  refine r_iload_n hC dX6_openLanes_11 rfl ?_
  refine r_iconst hC dX6_openLanes_12 rfl ?_
  refine z_inv2 hM dX6_openLanes_13 vl_RX6_80 rfl rfl rfl (Nat.le_of_ble_eq_true rfl) (Nat.le_of_ble_eq_true rfl) ?_
  refine y_of (by first | assumption | decide | exact xs_ (by decide) | exact xc_ (by decide) | exact x31_ (by decide) | omega) (by first | assumption | decide | exact xs_ (by decide) | exact xc_ (by decide) | exact x31_ (by decide) | omega) (by first | assumption | decide | exact xs_ (by decide) | exact xc_ (by decide) | exact x31_ (by decide) | omega) (fun o2 => ?_)
  have e3 : σ 31 0 (22 * 0 + 0) = (V 7 0 1) := (hR.1.a7 (s := 1) (f := 0) (by first | assumption | decide | exact xs_ (by decide) | exact xc_ (by decide) | exact x31_ (by decide) | omega) (by first | assumption | decide | exact xs_ (by decide) | exact xc_ (by decide) | exact x31_ (by decide) | omega) (by first | assumption | decide | exact xs_ (by decide) | exact xc_ (by decide) | exact x31_ (by decide) | omega)).trans (rfl)
  rw [e3] at o2 ⊢
  have qo2 : 0 ≤ (V 7 0 1) ∧ (V 7 0 1) ≤ 1 := by have := o2.2 (by first | assumption | decide | exact xs_ (by decide) | exact xc_ (by decide) | exact x31_ (by decide) | omega); omega
  refine r_iaddE hC ((V 7 0 1)) dX6_openLanes_16 (by first | assumption | decide | exact xs_ (by decide) | exact xc_ (by decide) | exact x31_ (by decide) | omega) (by unfold inR; omega) ?_
  refine r_istore_n hC dX6_openLanes_17 rfl ?_
  show K _ [_, _, _] _ _
  refine r_iincE hC (1) dX6_openLanes_18 rfl rfl (by first | assumption | decide | exact xs_ (by decide) | exact xc_ (by decide) | exact x31_ (by decide) | omega) (by unfold inR; omega) ?_
  refine r_goto (tgt := 4) hC dX6_openLanes_21 rfl ?_
  refine r_iload_n hC dX6_openLanes_4 rfl ?_
  refine r_iconst hC dX6_openLanes_5 rfl ?_
  refine r_icmp_ge (tgt := 24) hC dX6_openLanes_6 rfl (fun h4 => by omega) (fun h4 => ?_)
  refine r_iload_n hC dX6_openLanes_9 rfl ?_
  refine r_aload_n hC dX6_openLanes_10 rfl ?_
  refine r_iload_n hC dX6_openLanes_11 rfl ?_
  refine r_iconst hC dX6_openLanes_12 rfl ?_
  refine z_inv2 hM dX6_openLanes_13 vl_RX6_80 rfl rfl rfl (Nat.le_of_ble_eq_true rfl) (Nat.le_of_ble_eq_true rfl) ?_
  refine y_of (by first | assumption | decide | exact xs_ (by decide) | exact xc_ (by decide) | exact x31_ (by decide) | omega) (by first | assumption | decide | exact xs_ (by decide) | exact xc_ (by decide) | exact x31_ (by decide) | omega) (by first | assumption | decide | exact xs_ (by decide) | exact xc_ (by decide) | exact x31_ (by decide) | omega) (fun o5 => ?_)
  have e6 : σ 31 0 (22 * 1 + 0) = (V 7 1 1) := (hR.1.a7 (s := 1) (f := 0) (by first | assumption | decide | exact xs_ (by decide) | exact xc_ (by decide) | exact x31_ (by decide) | omega) (by first | assumption | decide | exact xs_ (by decide) | exact xc_ (by decide) | exact x31_ (by decide) | omega) (by first | assumption | decide | exact xs_ (by decide) | exact xc_ (by decide) | exact x31_ (by decide) | omega)).trans (rfl)
  rw [e6] at o5 ⊢
  have qo5 : 0 ≤ (V 7 1 1) ∧ (V 7 1 1) ≤ 1 := by have := o5.2 (by first | assumption | decide | exact xs_ (by decide) | exact xc_ (by decide) | exact x31_ (by decide) | omega); omega
  refine r_iaddE hC (((V 7 0 1) + (V 7 1 1))) dX6_openLanes_16 (by first | assumption | decide | exact xs_ (by decide) | exact xc_ (by decide) | exact x31_ (by decide) | omega) (by unfold inR; omega) ?_
  refine r_istore_n hC dX6_openLanes_17 rfl ?_
  refine r_iincE hC (2) dX6_openLanes_18 rfl rfl (by first | assumption | decide | exact xs_ (by decide) | exact xc_ (by decide) | exact x31_ (by decide) | omega) (by unfold inR; omega) ?_
  show K _ [_, _, _] _ _
  refine r_goto (tgt := 4) hC dX6_openLanes_21 rfl ?_
  refine r_iload_n hC dX6_openLanes_4 rfl ?_
  refine r_iconst hC dX6_openLanes_5 rfl ?_
  refine r_icmp_ge (tgt := 24) hC dX6_openLanes_6 rfl (fun h7 => by omega) (fun h7 => ?_)
  refine r_iload_n hC dX6_openLanes_9 rfl ?_
  refine r_aload_n hC dX6_openLanes_10 rfl ?_
  refine r_iload_n hC dX6_openLanes_11 rfl ?_
  refine r_iconst hC dX6_openLanes_12 rfl ?_
  refine z_inv2 hM dX6_openLanes_13 vl_RX6_80 rfl rfl rfl (Nat.le_of_ble_eq_true rfl) (Nat.le_of_ble_eq_true rfl) ?_
  refine y_of (by first | assumption | decide | exact xs_ (by decide) | exact xc_ (by decide) | exact x31_ (by decide) | omega) (by first | assumption | decide | exact xs_ (by decide) | exact xc_ (by decide) | exact x31_ (by decide) | omega) (by first | assumption | decide | exact xs_ (by decide) | exact xc_ (by decide) | exact x31_ (by decide) | omega) (fun o8 => ?_)
  have e9 : σ 31 0 (22 * 2 + 0) = (V 7 2 1) := (hR.1.a7 (s := 1) (f := 0) (by first | assumption | decide | exact xs_ (by decide) | exact xc_ (by decide) | exact x31_ (by decide) | omega) (by first | assumption | decide | exact xs_ (by decide) | exact xc_ (by decide) | exact x31_ (by decide) | omega) (by first | assumption | decide | exact xs_ (by decide) | exact xc_ (by decide) | exact x31_ (by decide) | omega)).trans (rfl)
  rw [e9] at o8 ⊢
  have qo8 : 0 ≤ (V 7 2 1) ∧ (V 7 2 1) ≤ 1 := by have := o8.2 (by first | assumption | decide | exact xs_ (by decide) | exact xc_ (by decide) | exact x31_ (by decide) | omega); omega
  refine r_iaddE hC ((((V 7 0 1) + (V 7 1 1)) + (V 7 2 1))) dX6_openLanes_16 (by first | assumption | decide | exact xs_ (by decide) | exact xc_ (by decide) | exact x31_ (by decide) | omega) (by unfold inR; omega) ?_
  refine r_istore_n hC dX6_openLanes_17 rfl ?_
  refine r_iincE hC (3) dX6_openLanes_18 rfl rfl (by first | assumption | decide | exact xs_ (by decide) | exact xc_ (by decide) | exact x31_ (by decide) | omega) (by unfold inR; omega) ?_
  refine r_goto (tgt := 4) hC dX6_openLanes_21 rfl ?_
  refine r_iload_n hC dX6_openLanes_4 rfl ?_
  refine r_iconst hC dX6_openLanes_5 rfl ?_
  refine r_icmp_ge (tgt := 24) hC dX6_openLanes_6 rfl (fun h10 => by omega) (fun h10 => ?_)
  refine r_iload_n hC dX6_openLanes_9 rfl ?_
  refine r_aload_n hC dX6_openLanes_10 rfl ?_
  refine r_iload_n hC dX6_openLanes_11 rfl ?_
  refine r_iconst hC dX6_openLanes_12 rfl ?_
  refine z_inv2 hM dX6_openLanes_13 vl_RX6_80 rfl rfl rfl (Nat.le_of_ble_eq_true rfl) (Nat.le_of_ble_eq_true rfl) ?_
  refine y_of (by first | assumption | decide | exact xs_ (by decide) | exact xc_ (by decide) | exact x31_ (by decide) | omega) (by first | assumption | decide | exact xs_ (by decide) | exact xc_ (by decide) | exact x31_ (by decide) | omega) (by first | assumption | decide | exact xs_ (by decide) | exact xc_ (by decide) | exact x31_ (by decide) | omega) (fun o11 => ?_)
  have e12 : σ 31 0 (22 * 3 + 0) = (V 7 3 1) := (hR.1.a7 (s := 1) (f := 0) (by first | assumption | decide | exact xs_ (by decide) | exact xc_ (by decide) | exact x31_ (by decide) | omega) (by first | assumption | decide | exact xs_ (by decide) | exact xc_ (by decide) | exact x31_ (by decide) | omega) (by first | assumption | decide | exact xs_ (by decide) | exact xc_ (by decide) | exact x31_ (by decide) | omega)).trans (rfl)
  rw [e12] at o11 ⊢
  have qo11 : 0 ≤ (V 7 3 1) ∧ (V 7 3 1) ≤ 1 := by have := o11.2 (by first | assumption | decide | exact xs_ (by decide) | exact xc_ (by decide) | exact x31_ (by decide) | omega); omega
  refine r_iaddE hC (((((V 7 0 1) + (V 7 1 1)) + (V 7 2 1)) + (V 7 3 1))) dX6_openLanes_16 (by first | assumption | decide | exact xs_ (by decide) | exact xc_ (by decide) | exact x31_ (by decide) | omega) (by unfold inR; omega) ?_
  refine r_istore_n hC dX6_openLanes_17 rfl ?_
  show K _ [_, _, _] _ _
  refine r_iincE hC (4) dX6_openLanes_18 rfl rfl (by first | assumption | decide | exact xs_ (by decide) | exact xc_ (by decide) | exact x31_ (by decide) | omega) (by unfold inR; omega) ?_
  refine r_goto (tgt := 4) hC dX6_openLanes_21 rfl ?_
  refine r_iload_n hC dX6_openLanes_4 rfl ?_
  refine r_iconst hC dX6_openLanes_5 rfl ?_
  refine r_icmp_ge (tgt := 24) hC dX6_openLanes_6 rfl (fun h13 => ?_) (fun h13 => by omega)
  refine r_iload_n hC dX6_openLanes_24 rfl ?_
  refine y_iret hK rfl dX6_openLanes_25 ?_
  have e : cntO V = ((((V 7 0 1) + (V 7 1 1)) + (V 7 2 1)) + (V 7 3 1)) := by unfold cntO; omega
  rw [e] at k
  exact k
theorem y_open {eb : Bool} {t : Int} {V : Mm} {d : Nat} {P : Option Vl → Mm → Prop} {σ : Mm} {l o b z y : Int}  {σ0 : Mm} (ht : 6 ≤ t ∧ t ≤ 7) (hR : RS t σ0 V σ) (hG : GI V)  (k : ∀ ρ : Mm, RS t σ0 (onM V l o b z y) ρ → P (some (vI (onR V l o b z y))) ρ) : WT (true, eb, true) (d + 4) 174 [vR 30 0, vI l, vI o, vI b, vI z, vI y] σ P := by
  refine WT_in fun K hK => ?_
  have hK : StpY (true, eb, true) cX6_open RX6 (some .int) (WT (true, eb, true) (d + 3)) P K := hK
  have hM := hK.1
  have hC := hK.1.1
  show K 0 [some (vR 30 0), some (vI l), some (vI o), some (vI b), some (vI z), some (vI y), none] [] σ
  refine r_rngz hC (fun g0 => ?_)
  have r_l : -2147483648 ≤ l ∧ l ≤ 2147483647 := inR_le (g0 (vI l) (by simp))
  have r_o : -2147483648 ≤ o ∧ o ≤ 2147483647 := inR_le (g0 (vI o) (by simp))
  have r_b : -2147483648 ≤ b ∧ b ≤ 2147483647 := inR_le (g0 (vI b) (by simp))
  have r_z : -2147483648 ≤ z ∧ z ≤ 2147483647 := inR_le (g0 (vI z) (by simp))
  have r_y : -2147483648 ≤ y ∧ y ≤ 2147483647 := inR_le (g0 (vI y) (by simp))
  have J92 : ocC V l o b z y → K 92 [some (vR 30 0), some (vI l), some (vI o), some (vI b), some (vI z), some (vI y), none] [] σ := by
    intro hoc
    obtain ⟨hl_, ho_, hy_, hb_, h9_⟩ := id hoc
    have kxx : KX t l V σ := (hR.2.1).kx l
    refine r_iconst hC dX6_open_92 rfl ?_
    refine r_istore hC dX6_open_93 rfl ?_
    refine r_iload hC dX6_open_95 rfl ?_
    refine r_bipush hC dX6_open_97 rfl ?_
    refine r_icmp_ge (tgt := 116) hC dX6_open_99 rfl (fun h1 => by omega) (fun h1 => ?_)
    refine r_aload_n hC dX6_open_102 rfl ?_
    refine r_iload_n hC dX6_open_103 rfl ?_
    refine r_iload hC dX6_open_104 rfl ?_
    refine r_iconst hC dX6_open_106 rfl ?_
    refine z_inv3 hM dX6_open_107 vl_RX6_173 rfl rfl rfl (Nat.le_of_ble_eq_true rfl) (Nat.le_of_ble_eq_true rfl) ?_
    refine y_set (by first | assumption | decide | exact xs_ (by decide) | exact xc_ (by decide) | exact x31_ (by decide) | omega) (by first | assumption | decide | exact xs_ (by decide) | exact xc_ (by decide) | exact x31_ (by decide) | omega) ⟨fun h => by omega, fun h => by omega⟩ ?_
    obtain ⟨ρ2, e_ρ2⟩ : ∃ zz_, zz_ = mu σ 31 0 ((22 * l) + 0) 0 := ⟨_, rfl⟩
    rw [← e_ρ2]
    have Sρ2 : SB t σ0 (mu V 7 l 1 0) ρ2 := by rw [e_ρ2, show ((22 * l) + 0) = 22 * l + 0 from by omega]; exact hR.1.p7 (by first | assumption | decide | exact xs_ (by decide) | exact xc_ (by decide) | exact x31_ (by decide) | omega) (by first | assumption | decide | exact xs_ (by decide) | exact xc_ (by decide) | exact x31_ (by decide) | omega) (by first | assumption | decide | exact xs_ (by decide) | exact xc_ (by decide) | exact x31_ (by decide) | omega)
    have Xρ2 : KX t l (mu V 7 l 1 0) ρ2 := (kxx).e (fun m a b c => by rw [e_ρ2]; exact ⟨mu_ne (by first | assumption | decide | exact xs_ (by decide) | exact xc_ (by decide) | exact x31_ (by decide) | omega), mu_ne (by first | assumption | decide | exact xs_ (by decide) | exact xc_ (by decide) | exact x31_ (by decide) | omega)⟩) (fun m c => mu_ne (by first | assumption | decide | exact xs_ (by decide) | exact xc_ (by decide) | exact x31_ (by decide) | omega))
    have Fρ2 : FB (mu V 7 l 1 0) ρ2 := by rw [e_ρ2]; exact (hR.2.2).e (fun l a b => mu_ne (by first | assumption | decide | exact xs_ (by decide) | exact xc_ (by decide) | exact x31_ (by decide) | omega)) |>.v (fun l y a b c => mu_ne (by first | assumption | decide | exact xs_ (by decide) | exact xc_ (by decide) | exact x31_ (by decide) | omega))
    refine r_iincE hC (1) dX6_open_110 rfl rfl (by first | assumption | decide | exact xs_ (by decide) | exact xc_ (by decide) | exact x31_ (by decide) | omega) (by unfold inR; omega) ?_
    refine r_goto (tgt := 95) hC dX6_open_113 rfl ?_
    refine r_iload hC dX6_open_95 rfl ?_
    refine r_bipush hC dX6_open_97 rfl ?_
    refine r_icmp_ge (tgt := 116) hC dX6_open_99 rfl (fun h3 => by omega) (fun h3 => ?_)
    refine r_aload_n hC dX6_open_102 rfl ?_
    refine r_iload_n hC dX6_open_103 rfl ?_
    refine r_iload hC dX6_open_104 rfl ?_
    refine r_iconst hC dX6_open_106 rfl ?_
    refine z_inv3 hM dX6_open_107 vl_RX6_173 rfl rfl rfl (Nat.le_of_ble_eq_true rfl) (Nat.le_of_ble_eq_true rfl) ?_
    refine y_set (by first | assumption | decide | exact xs_ (by decide) | exact xc_ (by decide) | exact x31_ (by decide) | omega) (by first | assumption | decide | exact xs_ (by decide) | exact xc_ (by decide) | exact x31_ (by decide) | omega) ⟨fun h => by omega, fun h => by omega⟩ ?_
    obtain ⟨ρ4, e_ρ4⟩ : ∃ zz_, zz_ = mu ρ2 31 0 ((22 * l) + 1) 0 := ⟨_, rfl⟩
    rw [← e_ρ4]
    have Sρ4 : SB t σ0 (mu (mu V 7 l 1 0) 7 l 2 0) ρ4 := by rw [e_ρ4, show ((22 * l) + 1) = 22 * l + 1 from by omega]; exact Sρ2.p7 (by first | assumption | decide | exact xs_ (by decide) | exact xc_ (by decide) | exact x31_ (by decide) | omega) (by first | assumption | decide | exact xs_ (by decide) | exact xc_ (by decide) | exact x31_ (by decide) | omega) (by first | assumption | decide | exact xs_ (by decide) | exact xc_ (by decide) | exact x31_ (by decide) | omega)
    have Xρ4 : KX t l (mu (mu V 7 l 1 0) 7 l 2 0) ρ4 := (Xρ2).e (fun m a b c => by rw [e_ρ4]; exact ⟨mu_ne (by first | assumption | decide | exact xs_ (by decide) | exact xc_ (by decide) | exact x31_ (by decide) | omega), mu_ne (by first | assumption | decide | exact xs_ (by decide) | exact xc_ (by decide) | exact x31_ (by decide) | omega)⟩) (fun m c => mu_ne (by first | assumption | decide | exact xs_ (by decide) | exact xc_ (by decide) | exact x31_ (by decide) | omega))
    have Fρ4 : FB (mu (mu V 7 l 1 0) 7 l 2 0) ρ4 := by rw [e_ρ4]; exact (Fρ2).e (fun l a b => mu_ne (by first | assumption | decide | exact xs_ (by decide) | exact xc_ (by decide) | exact x31_ (by decide) | omega)) |>.v (fun l y a b c => mu_ne (by first | assumption | decide | exact xs_ (by decide) | exact xc_ (by decide) | exact x31_ (by decide) | omega))
    refine r_iincE hC (2) dX6_open_110 rfl rfl (by first | assumption | decide | exact xs_ (by decide) | exact xc_ (by decide) | exact x31_ (by decide) | omega) (by unfold inR; omega) ?_
    show K _ [_, _, _, _, _, _, _] _ _
    refine r_goto (tgt := 95) hC dX6_open_113 rfl ?_
    refine r_iload hC dX6_open_95 rfl ?_
    refine r_bipush hC dX6_open_97 rfl ?_
    refine r_icmp_ge (tgt := 116) hC dX6_open_99 rfl (fun h5 => by omega) (fun h5 => ?_)
    refine r_aload_n hC dX6_open_102 rfl ?_
    refine r_iload_n hC dX6_open_103 rfl ?_
    refine r_iload hC dX6_open_104 rfl ?_
    refine r_iconst hC dX6_open_106 rfl ?_
    refine z_inv3 hM dX6_open_107 vl_RX6_173 rfl rfl rfl (Nat.le_of_ble_eq_true rfl) (Nat.le_of_ble_eq_true rfl) ?_
    refine y_set (by first | assumption | decide | exact xs_ (by decide) | exact xc_ (by decide) | exact x31_ (by decide) | omega) (by first | assumption | decide | exact xs_ (by decide) | exact xc_ (by decide) | exact x31_ (by decide) | omega) ⟨fun h => by omega, fun h => by omega⟩ ?_
    obtain ⟨ρ6, e_ρ6⟩ : ∃ zz_, zz_ = mu ρ4 31 0 ((22 * l) + 2) 0 := ⟨_, rfl⟩
    rw [← e_ρ6]
    have Sρ6 : SB t σ0 (mu (mu (mu V 7 l 1 0) 7 l 2 0) 7 l 3 0) ρ6 := by rw [e_ρ6, show ((22 * l) + 2) = 22 * l + 2 from by omega]; exact Sρ4.p7 (by first | assumption | decide | exact xs_ (by decide) | exact xc_ (by decide) | exact x31_ (by decide) | omega) (by first | assumption | decide | exact xs_ (by decide) | exact xc_ (by decide) | exact x31_ (by decide) | omega) (by first | assumption | decide | exact xs_ (by decide) | exact xc_ (by decide) | exact x31_ (by decide) | omega)
    have Xρ6 : KX t l (mu (mu (mu V 7 l 1 0) 7 l 2 0) 7 l 3 0) ρ6 := (Xρ4).e (fun m a b c => by rw [e_ρ6]; exact ⟨mu_ne (by first | assumption | decide | exact xs_ (by decide) | exact xc_ (by decide) | exact x31_ (by decide) | omega), mu_ne (by first | assumption | decide | exact xs_ (by decide) | exact xc_ (by decide) | exact x31_ (by decide) | omega)⟩) (fun m c => mu_ne (by first | assumption | decide | exact xs_ (by decide) | exact xc_ (by decide) | exact x31_ (by decide) | omega))
    have Fρ6 : FB (mu (mu (mu V 7 l 1 0) 7 l 2 0) 7 l 3 0) ρ6 := by rw [e_ρ6]; exact (Fρ4).e (fun l a b => mu_ne (by first | assumption | decide | exact xs_ (by decide) | exact xc_ (by decide) | exact x31_ (by decide) | omega)) |>.v (fun l y a b c => mu_ne (by first | assumption | decide | exact xs_ (by decide) | exact xc_ (by decide) | exact x31_ (by decide) | omega))
    refine r_iincE hC (3) dX6_open_110 rfl rfl (by first | assumption | decide | exact xs_ (by decide) | exact xc_ (by decide) | exact x31_ (by decide) | omega) (by unfold inR; omega) ?_
    refine r_goto (tgt := 95) hC dX6_open_113 rfl ?_
    refine r_iload hC dX6_open_95 rfl ?_
    refine r_bipush hC dX6_open_97 rfl ?_
    refine r_icmp_ge (tgt := 116) hC dX6_open_99 rfl (fun h7 => by omega) (fun h7 => ?_)
    refine r_aload_n hC dX6_open_102 rfl ?_
    refine r_iload_n hC dX6_open_103 rfl ?_
    refine r_iload hC dX6_open_104 rfl ?_
    refine r_iconst hC dX6_open_106 rfl ?_
    refine z_inv3 hM dX6_open_107 vl_RX6_173 rfl rfl rfl (Nat.le_of_ble_eq_true rfl) (Nat.le_of_ble_eq_true rfl) ?_
    refine y_set (by first | assumption | decide | exact xs_ (by decide) | exact xc_ (by decide) | exact x31_ (by decide) | omega) (by first | assumption | decide | exact xs_ (by decide) | exact xc_ (by decide) | exact x31_ (by decide) | omega) ⟨fun h => by omega, fun h => by omega⟩ ?_
    obtain ⟨ρ8, e_ρ8⟩ : ∃ zz_, zz_ = mu ρ6 31 0 ((22 * l) + 3) 0 := ⟨_, rfl⟩
    rw [← e_ρ8]
    have Sρ8 : SB t σ0 (mu (mu (mu (mu V 7 l 1 0) 7 l 2 0) 7 l 3 0) 7 l 4 0) ρ8 := by rw [e_ρ8, show ((22 * l) + 3) = 22 * l + 3 from by omega]; exact Sρ6.p7 (by first | assumption | decide | exact xs_ (by decide) | exact xc_ (by decide) | exact x31_ (by decide) | omega) (by first | assumption | decide | exact xs_ (by decide) | exact xc_ (by decide) | exact x31_ (by decide) | omega) (by first | assumption | decide | exact xs_ (by decide) | exact xc_ (by decide) | exact x31_ (by decide) | omega)
    have Xρ8 : KX t l (mu (mu (mu (mu V 7 l 1 0) 7 l 2 0) 7 l 3 0) 7 l 4 0) ρ8 := (Xρ6).e (fun m a b c => by rw [e_ρ8]; exact ⟨mu_ne (by first | assumption | decide | exact xs_ (by decide) | exact xc_ (by decide) | exact x31_ (by decide) | omega), mu_ne (by first | assumption | decide | exact xs_ (by decide) | exact xc_ (by decide) | exact x31_ (by decide) | omega)⟩) (fun m c => mu_ne (by first | assumption | decide | exact xs_ (by decide) | exact xc_ (by decide) | exact x31_ (by decide) | omega))
    have Fρ8 : FB (mu (mu (mu (mu V 7 l 1 0) 7 l 2 0) 7 l 3 0) 7 l 4 0) ρ8 := by rw [e_ρ8]; exact (Fρ6).e (fun l a b => mu_ne (by first | assumption | decide | exact xs_ (by decide) | exact xc_ (by decide) | exact x31_ (by decide) | omega)) |>.v (fun l y a b c => mu_ne (by first | assumption | decide | exact xs_ (by decide) | exact xc_ (by decide) | exact x31_ (by decide) | omega))
    refine r_iincE hC (4) dX6_open_110 rfl rfl (by first | assumption | decide | exact xs_ (by decide) | exact xc_ (by decide) | exact x31_ (by decide) | omega) (by unfold inR; omega) ?_
    refine r_goto (tgt := 95) hC dX6_open_113 rfl ?_
    refine r_iload hC dX6_open_95 rfl ?_
    refine r_bipush hC dX6_open_97 rfl ?_
    refine r_icmp_ge (tgt := 116) hC dX6_open_99 rfl (fun h9 => by omega) (fun h9 => ?_)
    refine r_aload_n hC dX6_open_102 rfl ?_
    refine r_iload_n hC dX6_open_103 rfl ?_
    refine r_iload hC dX6_open_104 rfl ?_
    refine r_iconst hC dX6_open_106 rfl ?_
    refine z_inv3 hM dX6_open_107 vl_RX6_173 rfl rfl rfl (Nat.le_of_ble_eq_true rfl) (Nat.le_of_ble_eq_true rfl) ?_
    refine y_set (by first | assumption | decide | exact xs_ (by decide) | exact xc_ (by decide) | exact x31_ (by decide) | omega) (by first | assumption | decide | exact xs_ (by decide) | exact xc_ (by decide) | exact x31_ (by decide) | omega) ⟨fun h => by omega, fun h => by omega⟩ ?_
    obtain ⟨ρ10, e_ρ10⟩ : ∃ zz_, zz_ = mu ρ8 31 0 ((22 * l) + 4) 0 := ⟨_, rfl⟩
    rw [← e_ρ10]
    have Sρ10 : SB t σ0 (mu (mu (mu (mu (mu V 7 l 1 0) 7 l 2 0) 7 l 3 0) 7 l 4 0) 7 l 5 0) ρ10 := by rw [e_ρ10, show ((22 * l) + 4) = 22 * l + 4 from by omega]; exact Sρ8.p7 (by first | assumption | decide | exact xs_ (by decide) | exact xc_ (by decide) | exact x31_ (by decide) | omega) (by first | assumption | decide | exact xs_ (by decide) | exact xc_ (by decide) | exact x31_ (by decide) | omega) (by first | assumption | decide | exact xs_ (by decide) | exact xc_ (by decide) | exact x31_ (by decide) | omega)
    have Xρ10 : KX t l (mu (mu (mu (mu (mu V 7 l 1 0) 7 l 2 0) 7 l 3 0) 7 l 4 0) 7 l 5 0) ρ10 := (Xρ8).e (fun m a b c => by rw [e_ρ10]; exact ⟨mu_ne (by first | assumption | decide | exact xs_ (by decide) | exact xc_ (by decide) | exact x31_ (by decide) | omega), mu_ne (by first | assumption | decide | exact xs_ (by decide) | exact xc_ (by decide) | exact x31_ (by decide) | omega)⟩) (fun m c => mu_ne (by first | assumption | decide | exact xs_ (by decide) | exact xc_ (by decide) | exact x31_ (by decide) | omega))
    have Fρ10 : FB (mu (mu (mu (mu (mu V 7 l 1 0) 7 l 2 0) 7 l 3 0) 7 l 4 0) 7 l 5 0) ρ10 := by rw [e_ρ10]; exact (Fρ8).e (fun l a b => mu_ne (by first | assumption | decide | exact xs_ (by decide) | exact xc_ (by decide) | exact x31_ (by decide) | omega)) |>.v (fun l y a b c => mu_ne (by first | assumption | decide | exact xs_ (by decide) | exact xc_ (by decide) | exact x31_ (by decide) | omega))
    refine r_iincE hC (5) dX6_open_110 rfl rfl (by first | assumption | decide | exact xs_ (by decide) | exact xc_ (by decide) | exact x31_ (by decide) | omega) (by unfold inR; omega) ?_
    show K _ [_, _, _, _, _, _, _] _ _
    refine r_goto (tgt := 95) hC dX6_open_113 rfl ?_
    refine r_iload hC dX6_open_95 rfl ?_
    refine r_bipush hC dX6_open_97 rfl ?_
    refine r_icmp_ge (tgt := 116) hC dX6_open_99 rfl (fun h11 => by omega) (fun h11 => ?_)
    refine r_aload_n hC dX6_open_102 rfl ?_
    refine r_iload_n hC dX6_open_103 rfl ?_
    refine r_iload hC dX6_open_104 rfl ?_
    refine r_iconst hC dX6_open_106 rfl ?_
    refine z_inv3 hM dX6_open_107 vl_RX6_173 rfl rfl rfl (Nat.le_of_ble_eq_true rfl) (Nat.le_of_ble_eq_true rfl) ?_
    refine y_set (by first | assumption | decide | exact xs_ (by decide) | exact xc_ (by decide) | exact x31_ (by decide) | omega) (by first | assumption | decide | exact xs_ (by decide) | exact xc_ (by decide) | exact x31_ (by decide) | omega) ⟨fun h => by omega, fun h => by omega⟩ ?_
    obtain ⟨ρ12, e_ρ12⟩ : ∃ zz_, zz_ = mu ρ10 31 0 ((22 * l) + 5) 0 := ⟨_, rfl⟩
    rw [← e_ρ12]
    have Sρ12 : SB t σ0 (mu (mu (mu (mu (mu (mu V 7 l 1 0) 7 l 2 0) 7 l 3 0) 7 l 4 0) 7 l 5 0) 7 l 6 0) ρ12 := by rw [e_ρ12, show ((22 * l) + 5) = 22 * l + 5 from by omega]; exact Sρ10.p7 (by first | assumption | decide | exact xs_ (by decide) | exact xc_ (by decide) | exact x31_ (by decide) | omega) (by first | assumption | decide | exact xs_ (by decide) | exact xc_ (by decide) | exact x31_ (by decide) | omega) (by first | assumption | decide | exact xs_ (by decide) | exact xc_ (by decide) | exact x31_ (by decide) | omega)
    have Xρ12 : KX t l (mu (mu (mu (mu (mu (mu V 7 l 1 0) 7 l 2 0) 7 l 3 0) 7 l 4 0) 7 l 5 0) 7 l 6 0) ρ12 := (Xρ10).e (fun m a b c => by rw [e_ρ12]; exact ⟨mu_ne (by first | assumption | decide | exact xs_ (by decide) | exact xc_ (by decide) | exact x31_ (by decide) | omega), mu_ne (by first | assumption | decide | exact xs_ (by decide) | exact xc_ (by decide) | exact x31_ (by decide) | omega)⟩) (fun m c => mu_ne (by first | assumption | decide | exact xs_ (by decide) | exact xc_ (by decide) | exact x31_ (by decide) | omega))
    have Fρ12 : FB (mu (mu (mu (mu (mu (mu V 7 l 1 0) 7 l 2 0) 7 l 3 0) 7 l 4 0) 7 l 5 0) 7 l 6 0) ρ12 := by rw [e_ρ12]; exact (Fρ10).e (fun l a b => mu_ne (by first | assumption | decide | exact xs_ (by decide) | exact xc_ (by decide) | exact x31_ (by decide) | omega)) |>.v (fun l y a b c => mu_ne (by first | assumption | decide | exact xs_ (by decide) | exact xc_ (by decide) | exact x31_ (by decide) | omega))
    refine r_iincE hC (6) dX6_open_110 rfl rfl (by first | assumption | decide | exact xs_ (by decide) | exact xc_ (by decide) | exact x31_ (by decide) | omega) (by unfold inR; omega) ?_
    refine r_goto (tgt := 95) hC dX6_open_113 rfl ?_
    refine r_iload hC dX6_open_95 rfl ?_
    refine r_bipush hC dX6_open_97 rfl ?_
    refine r_icmp_ge (tgt := 116) hC dX6_open_99 rfl (fun h13 => by omega) (fun h13 => ?_)
    refine r_aload_n hC dX6_open_102 rfl ?_
    refine r_iload_n hC dX6_open_103 rfl ?_
    refine r_iload hC dX6_open_104 rfl ?_
    refine r_iconst hC dX6_open_106 rfl ?_
    refine z_inv3 hM dX6_open_107 vl_RX6_173 rfl rfl rfl (Nat.le_of_ble_eq_true rfl) (Nat.le_of_ble_eq_true rfl) ?_
    refine y_set (by first | assumption | decide | exact xs_ (by decide) | exact xc_ (by decide) | exact x31_ (by decide) | omega) (by first | assumption | decide | exact xs_ (by decide) | exact xc_ (by decide) | exact x31_ (by decide) | omega) ⟨fun h => by omega, fun h => by omega⟩ ?_
    obtain ⟨ρ14, e_ρ14⟩ : ∃ zz_, zz_ = mu ρ12 31 0 ((22 * l) + 6) 0 := ⟨_, rfl⟩
    rw [← e_ρ14]
    have Sρ14 : SB t σ0 (mu (mu (mu (mu (mu (mu (mu V 7 l 1 0) 7 l 2 0) 7 l 3 0) 7 l 4 0) 7 l 5 0) 7 l 6 0) 7 l 10 0) ρ14 := by rw [e_ρ14, show ((22 * l) + 6) = 22 * l + 6 from by omega]; exact Sρ12.p7 (by first | assumption | decide | exact xs_ (by decide) | exact xc_ (by decide) | exact x31_ (by decide) | omega) (by first | assumption | decide | exact xs_ (by decide) | exact xc_ (by decide) | exact x31_ (by decide) | omega) (by first | assumption | decide | exact xs_ (by decide) | exact xc_ (by decide) | exact x31_ (by decide) | omega)
    have Xρ14 : KX t l (mu (mu (mu (mu (mu (mu (mu V 7 l 1 0) 7 l 2 0) 7 l 3 0) 7 l 4 0) 7 l 5 0) 7 l 6 0) 7 l 10 0) ρ14 := (Xρ12).e (fun m a b c => by rw [e_ρ14]; exact ⟨mu_ne (by first | assumption | decide | exact xs_ (by decide) | exact xc_ (by decide) | exact x31_ (by decide) | omega), mu_ne (by first | assumption | decide | exact xs_ (by decide) | exact xc_ (by decide) | exact x31_ (by decide) | omega)⟩) (fun m c => mu_ne (by first | assumption | decide | exact xs_ (by decide) | exact xc_ (by decide) | exact x31_ (by decide) | omega))
    have Fρ14 : FB (mu (mu (mu (mu (mu (mu (mu V 7 l 1 0) 7 l 2 0) 7 l 3 0) 7 l 4 0) 7 l 5 0) 7 l 6 0) 7 l 10 0) ρ14 := by rw [e_ρ14]; exact (Fρ12).e (fun l a b => mu_ne (by first | assumption | decide | exact xs_ (by decide) | exact xc_ (by decide) | exact x31_ (by decide) | omega)) |>.v (fun l y a b c => mu_ne (by first | assumption | decide | exact xs_ (by decide) | exact xc_ (by decide) | exact x31_ (by decide) | omega))
    refine r_iincE hC (7) dX6_open_110 rfl rfl (by first | assumption | decide | exact xs_ (by decide) | exact xc_ (by decide) | exact x31_ (by decide) | omega) (by unfold inR; omega) ?_
    refine r_goto (tgt := 95) hC dX6_open_113 rfl ?_
    refine r_iload hC dX6_open_95 rfl ?_
    refine r_bipush hC dX6_open_97 rfl ?_
    refine r_icmp_ge (tgt := 116) hC dX6_open_99 rfl (fun h15 => by omega) (fun h15 => ?_)
    refine r_aload_n hC dX6_open_102 rfl ?_
    refine r_iload_n hC dX6_open_103 rfl ?_
    refine r_iload hC dX6_open_104 rfl ?_
    refine r_iconst hC dX6_open_106 rfl ?_
    refine z_inv3 hM dX6_open_107 vl_RX6_173 rfl rfl rfl (Nat.le_of_ble_eq_true rfl) (Nat.le_of_ble_eq_true rfl) ?_
    refine y_set (by first | assumption | decide | exact xs_ (by decide) | exact xc_ (by decide) | exact x31_ (by decide) | omega) (by first | assumption | decide | exact xs_ (by decide) | exact xc_ (by decide) | exact x31_ (by decide) | omega) ⟨fun h => by omega, fun h => by omega⟩ ?_
    obtain ⟨ρ16, e_ρ16⟩ : ∃ zz_, zz_ = mu ρ14 31 0 ((22 * l) + 7) 0 := ⟨_, rfl⟩
    rw [← e_ρ16]
    have Sρ16 : SB t σ0 (mu (mu (mu (mu (mu (mu (mu V 7 l 1 0) 7 l 2 0) 7 l 3 0) 7 l 4 0) 7 l 5 0) 7 l 6 0) 7 l 10 0) ρ16 := by rw [e_ρ16, show ((22 * l) + 7) = 22 * l + 7 from by omega]; exact Sρ14.px (by first | assumption | decide | exact xs_ (by decide) | exact xc_ (by decide) | exact x31_ (by decide) | omega)
    have Xρ16 : KX t l (mu (mu (mu (mu (mu (mu (mu V 7 l 1 0) 7 l 2 0) 7 l 3 0) 7 l 4 0) 7 l 5 0) 7 l 6 0) 7 l 10 0) ρ16 := (Xρ14).e (fun m a b c => by rw [e_ρ16]; exact ⟨mu_ne (by first | assumption | decide | exact xs_ (by decide) | exact xc_ (by decide) | exact x31_ (by decide) | omega), mu_ne (by first | assumption | decide | exact xs_ (by decide) | exact xc_ (by decide) | exact x31_ (by decide) | omega)⟩) (fun m c => rfl)
    have Fρ16 : FB (mu (mu (mu (mu (mu (mu (mu V 7 l 1 0) 7 l 2 0) 7 l 3 0) 7 l 4 0) 7 l 5 0) 7 l 6 0) 7 l 10 0) ρ16 := by rw [e_ρ16]; exact (Fρ14).e (fun l a b => mu_ne (by first | assumption | decide | exact xs_ (by decide) | exact xc_ (by decide) | exact x31_ (by decide) | omega))
    refine r_iincE hC (8) dX6_open_110 rfl rfl (by first | assumption | decide | exact xs_ (by decide) | exact xc_ (by decide) | exact x31_ (by decide) | omega) (by unfold inR; omega) ?_
    show K _ [_, _, _, _, _, _, _] _ _
    refine r_goto (tgt := 95) hC dX6_open_113 rfl ?_
    refine r_iload hC dX6_open_95 rfl ?_
    refine r_bipush hC dX6_open_97 rfl ?_
    refine r_icmp_ge (tgt := 116) hC dX6_open_99 rfl (fun h17 => by omega) (fun h17 => ?_)
    refine r_aload_n hC dX6_open_102 rfl ?_
    refine r_iload_n hC dX6_open_103 rfl ?_
    refine r_iload hC dX6_open_104 rfl ?_
    refine r_iconst hC dX6_open_106 rfl ?_
    refine z_inv3 hM dX6_open_107 vl_RX6_173 rfl rfl rfl (Nat.le_of_ble_eq_true rfl) (Nat.le_of_ble_eq_true rfl) ?_
    refine y_set (by first | assumption | decide | exact xs_ (by decide) | exact xc_ (by decide) | exact x31_ (by decide) | omega) (by first | assumption | decide | exact xs_ (by decide) | exact xc_ (by decide) | exact x31_ (by decide) | omega) ⟨fun h => by omega, fun h => by omega⟩ ?_
    obtain ⟨ρ18, e_ρ18⟩ : ∃ zz_, zz_ = mu ρ16 31 0 ((22 * l) + 8) 0 := ⟨_, rfl⟩
    rw [← e_ρ18]
    have Sρ18 : SB t σ0 (mu (mu (mu (mu (mu (mu (mu (mu V 7 l 1 0) 7 l 2 0) 7 l 3 0) 7 l 4 0) 7 l 5 0) 7 l 6 0) 7 l 10 0) 7 l 12 0) ρ18 := by rw [e_ρ18, show ((22 * l) + 8) = 22 * l + 8 from by omega]; exact Sρ16.p7 (by first | assumption | decide | exact xs_ (by decide) | exact xc_ (by decide) | exact x31_ (by decide) | omega) (by first | assumption | decide | exact xs_ (by decide) | exact xc_ (by decide) | exact x31_ (by decide) | omega) (by first | assumption | decide | exact xs_ (by decide) | exact xc_ (by decide) | exact x31_ (by decide) | omega)
    have Xρ18 : KX t l (mu (mu (mu (mu (mu (mu (mu (mu V 7 l 1 0) 7 l 2 0) 7 l 3 0) 7 l 4 0) 7 l 5 0) 7 l 6 0) 7 l 10 0) 7 l 12 0) ρ18 := (Xρ16).e (fun m a b c => by rw [e_ρ18]; exact ⟨mu_ne (by first | assumption | decide | exact xs_ (by decide) | exact xc_ (by decide) | exact x31_ (by decide) | omega), mu_ne (by first | assumption | decide | exact xs_ (by decide) | exact xc_ (by decide) | exact x31_ (by decide) | omega)⟩) (fun m c => mu_ne (by first | assumption | decide | exact xs_ (by decide) | exact xc_ (by decide) | exact x31_ (by decide) | omega))
    have Fρ18 : FB (mu (mu (mu (mu (mu (mu (mu (mu V 7 l 1 0) 7 l 2 0) 7 l 3 0) 7 l 4 0) 7 l 5 0) 7 l 6 0) 7 l 10 0) 7 l 12 0) ρ18 := by rw [e_ρ18]; exact (Fρ16).e (fun l a b => mu_ne (by first | assumption | decide | exact xs_ (by decide) | exact xc_ (by decide) | exact x31_ (by decide) | omega)) |>.v (fun l y a b c => mu_ne (by first | assumption | decide | exact xs_ (by decide) | exact xc_ (by decide) | exact x31_ (by decide) | omega))
    refine r_iincE hC (9) dX6_open_110 rfl rfl (by first | assumption | decide | exact xs_ (by decide) | exact xc_ (by decide) | exact x31_ (by decide) | omega) (by unfold inR; omega) ?_
    refine r_goto (tgt := 95) hC dX6_open_113 rfl ?_
    refine r_iload hC dX6_open_95 rfl ?_
    refine r_bipush hC dX6_open_97 rfl ?_
    refine r_icmp_ge (tgt := 116) hC dX6_open_99 rfl (fun h19 => by omega) (fun h19 => ?_)
    refine r_aload_n hC dX6_open_102 rfl ?_
    refine r_iload_n hC dX6_open_103 rfl ?_
    refine r_iload hC dX6_open_104 rfl ?_
    refine r_iconst hC dX6_open_106 rfl ?_
    refine z_inv3 hM dX6_open_107 vl_RX6_173 rfl rfl rfl (Nat.le_of_ble_eq_true rfl) (Nat.le_of_ble_eq_true rfl) ?_
    refine y_set (by first | assumption | decide | exact xs_ (by decide) | exact xc_ (by decide) | exact x31_ (by decide) | omega) (by first | assumption | decide | exact xs_ (by decide) | exact xc_ (by decide) | exact x31_ (by decide) | omega) ⟨fun h => by omega, fun h => by omega⟩ ?_
    obtain ⟨ρ20, e_ρ20⟩ : ∃ zz_, zz_ = mu ρ18 31 0 ((22 * l) + 9) 0 := ⟨_, rfl⟩
    rw [← e_ρ20]
    have Sρ20 : SB t σ0 (mu (mu (mu (mu (mu (mu (mu (mu (mu V 7 l 1 0) 7 l 2 0) 7 l 3 0) 7 l 4 0) 7 l 5 0) 7 l 6 0) 7 l 10 0) 7 l 12 0) 7 l 13 0) ρ20 := by rw [e_ρ20, show ((22 * l) + 9) = 22 * l + 9 from by omega]; exact Sρ18.p7 (by first | assumption | decide | exact xs_ (by decide) | exact xc_ (by decide) | exact x31_ (by decide) | omega) (by first | assumption | decide | exact xs_ (by decide) | exact xc_ (by decide) | exact x31_ (by decide) | omega) (by first | assumption | decide | exact xs_ (by decide) | exact xc_ (by decide) | exact x31_ (by decide) | omega)
    have Xρ20 : KX t l (mu (mu (mu (mu (mu (mu (mu (mu (mu V 7 l 1 0) 7 l 2 0) 7 l 3 0) 7 l 4 0) 7 l 5 0) 7 l 6 0) 7 l 10 0) 7 l 12 0) 7 l 13 0) ρ20 := (Xρ18).e (fun m a b c => by rw [e_ρ20]; exact ⟨mu_ne (by first | assumption | decide | exact xs_ (by decide) | exact xc_ (by decide) | exact x31_ (by decide) | omega), mu_ne (by first | assumption | decide | exact xs_ (by decide) | exact xc_ (by decide) | exact x31_ (by decide) | omega)⟩) (fun m c => mu_ne (by first | assumption | decide | exact xs_ (by decide) | exact xc_ (by decide) | exact x31_ (by decide) | omega))
    have Fρ20 : FB (mu (mu (mu (mu (mu (mu (mu (mu (mu V 7 l 1 0) 7 l 2 0) 7 l 3 0) 7 l 4 0) 7 l 5 0) 7 l 6 0) 7 l 10 0) 7 l 12 0) 7 l 13 0) ρ20 := by rw [e_ρ20]; exact (Fρ18).e (fun l a b => mu_ne (by first | assumption | decide | exact xs_ (by decide) | exact xc_ (by decide) | exact x31_ (by decide) | omega)) |>.v (fun l y a b c => mu_ne (by first | assumption | decide | exact xs_ (by decide) | exact xc_ (by decide) | exact x31_ (by decide) | omega))
    refine r_iincE hC (10) dX6_open_110 rfl rfl (by first | assumption | decide | exact xs_ (by decide) | exact xc_ (by decide) | exact x31_ (by decide) | omega) (by unfold inR; omega) ?_
    refine r_goto (tgt := 95) hC dX6_open_113 rfl ?_
    refine r_iload hC dX6_open_95 rfl ?_
    refine r_bipush hC dX6_open_97 rfl ?_
    refine r_icmp_ge (tgt := 116) hC dX6_open_99 rfl (fun h21 => by omega) (fun h21 => ?_)
    refine r_aload_n hC dX6_open_102 rfl ?_
    refine r_iload_n hC dX6_open_103 rfl ?_
    refine r_iload hC dX6_open_104 rfl ?_
    refine r_iconst hC dX6_open_106 rfl ?_
    refine z_inv3 hM dX6_open_107 vl_RX6_173 rfl rfl rfl (Nat.le_of_ble_eq_true rfl) (Nat.le_of_ble_eq_true rfl) ?_
    refine y_set (by first | assumption | decide | exact xs_ (by decide) | exact xc_ (by decide) | exact x31_ (by decide) | omega) (by first | assumption | decide | exact xs_ (by decide) | exact xc_ (by decide) | exact x31_ (by decide) | omega) ⟨fun h => by omega, fun h => by omega⟩ ?_
    obtain ⟨ρ22, e_ρ22⟩ : ∃ zz_, zz_ = mu ρ20 31 0 ((22 * l) + 10) 0 := ⟨_, rfl⟩
    rw [← e_ρ22]
    have Sρ22 : SB t σ0 (mu (mu (mu (mu (mu (mu (mu (mu (mu (mu V 7 l 1 0) 7 l 2 0) 7 l 3 0) 7 l 4 0) 7 l 5 0) 7 l 6 0) 7 l 10 0) 7 l 12 0) 7 l 13 0) 7 l 14 0) ρ22 := by rw [e_ρ22, show ((22 * l) + 10) = 22 * l + 10 from by omega]; exact Sρ20.p7 (by first | assumption | decide | exact xs_ (by decide) | exact xc_ (by decide) | exact x31_ (by decide) | omega) (by first | assumption | decide | exact xs_ (by decide) | exact xc_ (by decide) | exact x31_ (by decide) | omega) (by first | assumption | decide | exact xs_ (by decide) | exact xc_ (by decide) | exact x31_ (by decide) | omega)
    have Xρ22 : KX t l (mu (mu (mu (mu (mu (mu (mu (mu (mu (mu V 7 l 1 0) 7 l 2 0) 7 l 3 0) 7 l 4 0) 7 l 5 0) 7 l 6 0) 7 l 10 0) 7 l 12 0) 7 l 13 0) 7 l 14 0) ρ22 := (Xρ20).e (fun m a b c => by rw [e_ρ22]; exact ⟨mu_ne (by first | assumption | decide | exact xs_ (by decide) | exact xc_ (by decide) | exact x31_ (by decide) | omega), mu_ne (by first | assumption | decide | exact xs_ (by decide) | exact xc_ (by decide) | exact x31_ (by decide) | omega)⟩) (fun m c => mu_ne (by first | assumption | decide | exact xs_ (by decide) | exact xc_ (by decide) | exact x31_ (by decide) | omega))
    have Fρ22 : FB (mu (mu (mu (mu (mu (mu (mu (mu (mu (mu V 7 l 1 0) 7 l 2 0) 7 l 3 0) 7 l 4 0) 7 l 5 0) 7 l 6 0) 7 l 10 0) 7 l 12 0) 7 l 13 0) 7 l 14 0) ρ22 := by rw [e_ρ22]; exact (Fρ20).e (fun l a b => mu_ne (by first | assumption | decide | exact xs_ (by decide) | exact xc_ (by decide) | exact x31_ (by decide) | omega)) |>.v (fun l y a b c => mu_ne (by first | assumption | decide | exact xs_ (by decide) | exact xc_ (by decide) | exact x31_ (by decide) | omega))
    refine r_iincE hC (11) dX6_open_110 rfl rfl (by first | assumption | decide | exact xs_ (by decide) | exact xc_ (by decide) | exact x31_ (by decide) | omega) (by unfold inR; omega) ?_
    show K _ [_, _, _, _, _, _, _] _ _
    refine r_goto (tgt := 95) hC dX6_open_113 rfl ?_
    refine r_iload hC dX6_open_95 rfl ?_
    refine r_bipush hC dX6_open_97 rfl ?_
    refine r_icmp_ge (tgt := 116) hC dX6_open_99 rfl (fun h23 => by omega) (fun h23 => ?_)
    refine r_aload_n hC dX6_open_102 rfl ?_
    refine r_iload_n hC dX6_open_103 rfl ?_
    refine r_iload hC dX6_open_104 rfl ?_
    refine r_iconst hC dX6_open_106 rfl ?_
    refine z_inv3 hM dX6_open_107 vl_RX6_173 rfl rfl rfl (Nat.le_of_ble_eq_true rfl) (Nat.le_of_ble_eq_true rfl) ?_
    refine y_set (by first | assumption | decide | exact xs_ (by decide) | exact xc_ (by decide) | exact x31_ (by decide) | omega) (by first | assumption | decide | exact xs_ (by decide) | exact xc_ (by decide) | exact x31_ (by decide) | omega) ⟨fun h => by omega, fun h => by omega⟩ ?_
    obtain ⟨ρ24, e_ρ24⟩ : ∃ zz_, zz_ = mu ρ22 31 0 ((22 * l) + 11) 0 := ⟨_, rfl⟩
    rw [← e_ρ24]
    have Sρ24 : SB t σ0 (mu (mu (mu (mu (mu (mu (mu (mu (mu (mu (mu V 7 l 1 0) 7 l 2 0) 7 l 3 0) 7 l 4 0) 7 l 5 0) 7 l 6 0) 7 l 10 0) 7 l 12 0) 7 l 13 0) 7 l 14 0) 7 l 15 0) ρ24 := by rw [e_ρ24, show ((22 * l) + 11) = 22 * l + 11 from by omega]; exact Sρ22.p7 (by first | assumption | decide | exact xs_ (by decide) | exact xc_ (by decide) | exact x31_ (by decide) | omega) (by first | assumption | decide | exact xs_ (by decide) | exact xc_ (by decide) | exact x31_ (by decide) | omega) (by first | assumption | decide | exact xs_ (by decide) | exact xc_ (by decide) | exact x31_ (by decide) | omega)
    have Xρ24 : KX t l (mu (mu (mu (mu (mu (mu (mu (mu (mu (mu (mu V 7 l 1 0) 7 l 2 0) 7 l 3 0) 7 l 4 0) 7 l 5 0) 7 l 6 0) 7 l 10 0) 7 l 12 0) 7 l 13 0) 7 l 14 0) 7 l 15 0) ρ24 := (Xρ22).e (fun m a b c => by rw [e_ρ24]; exact ⟨mu_ne (by first | assumption | decide | exact xs_ (by decide) | exact xc_ (by decide) | exact x31_ (by decide) | omega), mu_ne (by first | assumption | decide | exact xs_ (by decide) | exact xc_ (by decide) | exact x31_ (by decide) | omega)⟩) (fun m c => mu_ne (by first | assumption | decide | exact xs_ (by decide) | exact xc_ (by decide) | exact x31_ (by decide) | omega))
    have Fρ24 : FB (mu (mu (mu (mu (mu (mu (mu (mu (mu (mu (mu V 7 l 1 0) 7 l 2 0) 7 l 3 0) 7 l 4 0) 7 l 5 0) 7 l 6 0) 7 l 10 0) 7 l 12 0) 7 l 13 0) 7 l 14 0) 7 l 15 0) ρ24 := by rw [e_ρ24]; exact (Fρ22).e (fun l a b => mu_ne (by first | assumption | decide | exact xs_ (by decide) | exact xc_ (by decide) | exact x31_ (by decide) | omega)) |>.v (fun l y a b c => mu_ne (by first | assumption | decide | exact xs_ (by decide) | exact xc_ (by decide) | exact x31_ (by decide) | omega))
    refine r_iincE hC (12) dX6_open_110 rfl rfl (by first | assumption | decide | exact xs_ (by decide) | exact xc_ (by decide) | exact x31_ (by decide) | omega) (by unfold inR; omega) ?_
    refine r_goto (tgt := 95) hC dX6_open_113 rfl ?_
    refine r_iload hC dX6_open_95 rfl ?_
    refine r_bipush hC dX6_open_97 rfl ?_
    refine r_icmp_ge (tgt := 116) hC dX6_open_99 rfl (fun h25 => by omega) (fun h25 => ?_)
    refine r_aload_n hC dX6_open_102 rfl ?_
    refine r_iload_n hC dX6_open_103 rfl ?_
    refine r_iload hC dX6_open_104 rfl ?_
    refine r_iconst hC dX6_open_106 rfl ?_
    refine z_inv3 hM dX6_open_107 vl_RX6_173 rfl rfl rfl (Nat.le_of_ble_eq_true rfl) (Nat.le_of_ble_eq_true rfl) ?_
    refine y_set (by first | assumption | decide | exact xs_ (by decide) | exact xc_ (by decide) | exact x31_ (by decide) | omega) (by first | assumption | decide | exact xs_ (by decide) | exact xc_ (by decide) | exact x31_ (by decide) | omega) ⟨fun h => by omega, fun h => by omega⟩ ?_
    obtain ⟨ρ26, e_ρ26⟩ : ∃ zz_, zz_ = mu ρ24 31 0 ((22 * l) + 12) 0 := ⟨_, rfl⟩
    rw [← e_ρ26]
    have Sρ26 : SB t σ0 (mu (mu (mu (mu (mu (mu (mu (mu (mu (mu (mu (mu V 7 l 1 0) 7 l 2 0) 7 l 3 0) 7 l 4 0) 7 l 5 0) 7 l 6 0) 7 l 10 0) 7 l 12 0) 7 l 13 0) 7 l 14 0) 7 l 15 0) 11 l 0 0) ρ26 := by rw [e_ρ26, show ((22 * l) + 12) = 22 * l + 12 from by omega]; exact Sρ24.p11 (by first | assumption | decide | exact xs_ (by decide) | exact xc_ (by decide) | exact x31_ (by decide) | omega) (by first | assumption | decide | exact xs_ (by decide) | exact xc_ (by decide) | exact x31_ (by decide) | omega) (by first | assumption | decide | exact xs_ (by decide) | exact xc_ (by decide) | exact x31_ (by decide) | omega)
    have Xρ26 : KX t l (mu (mu (mu (mu (mu (mu (mu (mu (mu (mu (mu (mu V 7 l 1 0) 7 l 2 0) 7 l 3 0) 7 l 4 0) 7 l 5 0) 7 l 6 0) 7 l 10 0) 7 l 12 0) 7 l 13 0) 7 l 14 0) 7 l 15 0) 11 l 0 0) ρ26 := (Xρ24).e (fun m a b c => by rw [e_ρ26]; exact ⟨mu_ne (by first | assumption | decide | exact xs_ (by decide) | exact xc_ (by decide) | exact x31_ (by decide) | omega), mu_ne (by first | assumption | decide | exact xs_ (by decide) | exact xc_ (by decide) | exact x31_ (by decide) | omega)⟩) (fun m c => mu_ne (by first | assumption | decide | exact xs_ (by decide) | exact xc_ (by decide) | exact x31_ (by decide) | omega))
    have Fρ26 : FB (mu (mu (mu (mu (mu (mu (mu (mu (mu (mu (mu (mu V 7 l 1 0) 7 l 2 0) 7 l 3 0) 7 l 4 0) 7 l 5 0) 7 l 6 0) 7 l 10 0) 7 l 12 0) 7 l 13 0) 7 l 14 0) 7 l 15 0) 11 l 0 0) ρ26 := by rw [e_ρ26]; exact (Fρ24).e (fun l a b => mu_ne (by first | assumption | decide | exact xs_ (by decide) | exact xc_ (by decide) | exact x31_ (by decide) | omega)) |>.v (fun l y a b c => mu_ne (by first | assumption | decide | exact xs_ (by decide) | exact xc_ (by decide) | exact x31_ (by decide) | omega))
    refine r_iincE hC (13) dX6_open_110 rfl rfl (by first | assumption | decide | exact xs_ (by decide) | exact xc_ (by decide) | exact x31_ (by decide) | omega) (by unfold inR; omega) ?_
    refine r_goto (tgt := 95) hC dX6_open_113 rfl ?_
    refine r_iload hC dX6_open_95 rfl ?_
    refine r_bipush hC dX6_open_97 rfl ?_
    refine r_icmp_ge (tgt := 116) hC dX6_open_99 rfl (fun h27 => by omega) (fun h27 => ?_)
    refine r_aload_n hC dX6_open_102 rfl ?_
    refine r_iload_n hC dX6_open_103 rfl ?_
    refine r_iload hC dX6_open_104 rfl ?_
    refine r_iconst hC dX6_open_106 rfl ?_
    refine z_inv3 hM dX6_open_107 vl_RX6_173 rfl rfl rfl (Nat.le_of_ble_eq_true rfl) (Nat.le_of_ble_eq_true rfl) ?_
    refine y_set (by first | assumption | decide | exact xs_ (by decide) | exact xc_ (by decide) | exact x31_ (by decide) | omega) (by first | assumption | decide | exact xs_ (by decide) | exact xc_ (by decide) | exact x31_ (by decide) | omega) ⟨fun h => by omega, fun h => by omega⟩ ?_
    obtain ⟨ρ28, e_ρ28⟩ : ∃ zz_, zz_ = mu ρ26 31 0 ((22 * l) + 13) 0 := ⟨_, rfl⟩
    rw [← e_ρ28]
    have Sρ28 : SB t σ0 (mu (mu (mu (mu (mu (mu (mu (mu (mu (mu (mu (mu (mu V 7 l 1 0) 7 l 2 0) 7 l 3 0) 7 l 4 0) 7 l 5 0) 7 l 6 0) 7 l 10 0) 7 l 12 0) 7 l 13 0) 7 l 14 0) 7 l 15 0) 11 l 0 0) 11 l 1 0) ρ28 := by rw [e_ρ28, show ((22 * l) + 13) = 22 * l + 13 from by omega]; exact Sρ26.p11 (by first | assumption | decide | exact xs_ (by decide) | exact xc_ (by decide) | exact x31_ (by decide) | omega) (by first | assumption | decide | exact xs_ (by decide) | exact xc_ (by decide) | exact x31_ (by decide) | omega) (by first | assumption | decide | exact xs_ (by decide) | exact xc_ (by decide) | exact x31_ (by decide) | omega)
    have Xρ28 : KX t l (mu (mu (mu (mu (mu (mu (mu (mu (mu (mu (mu (mu (mu V 7 l 1 0) 7 l 2 0) 7 l 3 0) 7 l 4 0) 7 l 5 0) 7 l 6 0) 7 l 10 0) 7 l 12 0) 7 l 13 0) 7 l 14 0) 7 l 15 0) 11 l 0 0) 11 l 1 0) ρ28 := (Xρ26).e (fun m a b c => by rw [e_ρ28]; exact ⟨mu_ne (by first | assumption | decide | exact xs_ (by decide) | exact xc_ (by decide) | exact x31_ (by decide) | omega), mu_ne (by first | assumption | decide | exact xs_ (by decide) | exact xc_ (by decide) | exact x31_ (by decide) | omega)⟩) (fun m c => mu_ne (by first | assumption | decide | exact xs_ (by decide) | exact xc_ (by decide) | exact x31_ (by decide) | omega))
    have Fρ28 : FB (mu (mu (mu (mu (mu (mu (mu (mu (mu (mu (mu (mu (mu V 7 l 1 0) 7 l 2 0) 7 l 3 0) 7 l 4 0) 7 l 5 0) 7 l 6 0) 7 l 10 0) 7 l 12 0) 7 l 13 0) 7 l 14 0) 7 l 15 0) 11 l 0 0) 11 l 1 0) ρ28 := by rw [e_ρ28]; exact (Fρ26).e (fun l a b => mu_ne (by first | assumption | decide | exact xs_ (by decide) | exact xc_ (by decide) | exact x31_ (by decide) | omega)) |>.v (fun l y a b c => mu_ne (by first | assumption | decide | exact xs_ (by decide) | exact xc_ (by decide) | exact x31_ (by decide) | omega))
    refine r_iincE hC (14) dX6_open_110 rfl rfl (by first | assumption | decide | exact xs_ (by decide) | exact xc_ (by decide) | exact x31_ (by decide) | omega) (by unfold inR; omega) ?_
    show K _ [_, _, _, _, _, _, _] _ _
    refine r_goto (tgt := 95) hC dX6_open_113 rfl ?_
    refine r_iload hC dX6_open_95 rfl ?_
    refine r_bipush hC dX6_open_97 rfl ?_
    refine r_icmp_ge (tgt := 116) hC dX6_open_99 rfl (fun h29 => by omega) (fun h29 => ?_)
    refine r_aload_n hC dX6_open_102 rfl ?_
    refine r_iload_n hC dX6_open_103 rfl ?_
    refine r_iload hC dX6_open_104 rfl ?_
    refine r_iconst hC dX6_open_106 rfl ?_
    refine z_inv3 hM dX6_open_107 vl_RX6_173 rfl rfl rfl (Nat.le_of_ble_eq_true rfl) (Nat.le_of_ble_eq_true rfl) ?_
    refine y_set (by first | assumption | decide | exact xs_ (by decide) | exact xc_ (by decide) | exact x31_ (by decide) | omega) (by first | assumption | decide | exact xs_ (by decide) | exact xc_ (by decide) | exact x31_ (by decide) | omega) ⟨fun h => by omega, fun h => by omega⟩ ?_
    obtain ⟨ρ30, e_ρ30⟩ : ∃ zz_, zz_ = mu ρ28 31 0 ((22 * l) + 14) 0 := ⟨_, rfl⟩
    rw [← e_ρ30]
    have Sρ30 : SB t σ0 (mu (mu (mu (mu (mu (mu (mu (mu (mu (mu (mu (mu (mu (mu V 7 l 1 0) 7 l 2 0) 7 l 3 0) 7 l 4 0) 7 l 5 0) 7 l 6 0) 7 l 10 0) 7 l 12 0) 7 l 13 0) 7 l 14 0) 7 l 15 0) 11 l 0 0) 11 l 1 0) 11 l 2 0) ρ30 := by rw [e_ρ30, show ((22 * l) + 14) = 22 * l + 14 from by omega]; exact Sρ28.p11 (by first | assumption | decide | exact xs_ (by decide) | exact xc_ (by decide) | exact x31_ (by decide) | omega) (by first | assumption | decide | exact xs_ (by decide) | exact xc_ (by decide) | exact x31_ (by decide) | omega) (by first | assumption | decide | exact xs_ (by decide) | exact xc_ (by decide) | exact x31_ (by decide) | omega)
    have Xρ30 : KX t l (mu (mu (mu (mu (mu (mu (mu (mu (mu (mu (mu (mu (mu (mu V 7 l 1 0) 7 l 2 0) 7 l 3 0) 7 l 4 0) 7 l 5 0) 7 l 6 0) 7 l 10 0) 7 l 12 0) 7 l 13 0) 7 l 14 0) 7 l 15 0) 11 l 0 0) 11 l 1 0) 11 l 2 0) ρ30 := (Xρ28).e (fun m a b c => by rw [e_ρ30]; exact ⟨mu_ne (by first | assumption | decide | exact xs_ (by decide) | exact xc_ (by decide) | exact x31_ (by decide) | omega), mu_ne (by first | assumption | decide | exact xs_ (by decide) | exact xc_ (by decide) | exact x31_ (by decide) | omega)⟩) (fun m c => mu_ne (by first | assumption | decide | exact xs_ (by decide) | exact xc_ (by decide) | exact x31_ (by decide) | omega))
    have Fρ30 : FB (mu (mu (mu (mu (mu (mu (mu (mu (mu (mu (mu (mu (mu (mu V 7 l 1 0) 7 l 2 0) 7 l 3 0) 7 l 4 0) 7 l 5 0) 7 l 6 0) 7 l 10 0) 7 l 12 0) 7 l 13 0) 7 l 14 0) 7 l 15 0) 11 l 0 0) 11 l 1 0) 11 l 2 0) ρ30 := by rw [e_ρ30]; exact (Fρ28).e (fun l a b => mu_ne (by first | assumption | decide | exact xs_ (by decide) | exact xc_ (by decide) | exact x31_ (by decide) | omega)) |>.v (fun l y a b c => mu_ne (by first | assumption | decide | exact xs_ (by decide) | exact xc_ (by decide) | exact x31_ (by decide) | omega))
    refine r_iincE hC (15) dX6_open_110 rfl rfl (by first | assumption | decide | exact xs_ (by decide) | exact xc_ (by decide) | exact x31_ (by decide) | omega) (by unfold inR; omega) ?_
    refine r_goto (tgt := 95) hC dX6_open_113 rfl ?_
    refine r_iload hC dX6_open_95 rfl ?_
    refine r_bipush hC dX6_open_97 rfl ?_
    refine r_icmp_ge (tgt := 116) hC dX6_open_99 rfl (fun h31 => by omega) (fun h31 => ?_)
    refine r_aload_n hC dX6_open_102 rfl ?_
    refine r_iload_n hC dX6_open_103 rfl ?_
    refine r_iload hC dX6_open_104 rfl ?_
    refine r_iconst hC dX6_open_106 rfl ?_
    refine z_inv3 hM dX6_open_107 vl_RX6_173 rfl rfl rfl (Nat.le_of_ble_eq_true rfl) (Nat.le_of_ble_eq_true rfl) ?_
    refine y_set (by first | assumption | decide | exact xs_ (by decide) | exact xc_ (by decide) | exact x31_ (by decide) | omega) (by first | assumption | decide | exact xs_ (by decide) | exact xc_ (by decide) | exact x31_ (by decide) | omega) ⟨fun h => by omega, fun h => by omega⟩ ?_
    obtain ⟨ρ32, e_ρ32⟩ : ∃ zz_, zz_ = mu ρ30 31 0 ((22 * l) + 15) 0 := ⟨_, rfl⟩
    rw [← e_ρ32]
    have Sρ32 : SB t σ0 (mu (mu (mu (mu (mu (mu (mu (mu (mu (mu (mu (mu (mu (mu (mu V 7 l 1 0) 7 l 2 0) 7 l 3 0) 7 l 4 0) 7 l 5 0) 7 l 6 0) 7 l 10 0) 7 l 12 0) 7 l 13 0) 7 l 14 0) 7 l 15 0) 11 l 0 0) 11 l 1 0) 11 l 2 0) 11 l 3 0) ρ32 := by rw [e_ρ32, show ((22 * l) + 15) = 22 * l + 15 from by omega]; exact Sρ30.p11 (by first | assumption | decide | exact xs_ (by decide) | exact xc_ (by decide) | exact x31_ (by decide) | omega) (by first | assumption | decide | exact xs_ (by decide) | exact xc_ (by decide) | exact x31_ (by decide) | omega) (by first | assumption | decide | exact xs_ (by decide) | exact xc_ (by decide) | exact x31_ (by decide) | omega)
    have Xρ32 : KX t l (mu (mu (mu (mu (mu (mu (mu (mu (mu (mu (mu (mu (mu (mu (mu V 7 l 1 0) 7 l 2 0) 7 l 3 0) 7 l 4 0) 7 l 5 0) 7 l 6 0) 7 l 10 0) 7 l 12 0) 7 l 13 0) 7 l 14 0) 7 l 15 0) 11 l 0 0) 11 l 1 0) 11 l 2 0) 11 l 3 0) ρ32 := (Xρ30).e (fun m a b c => by rw [e_ρ32]; exact ⟨mu_ne (by first | assumption | decide | exact xs_ (by decide) | exact xc_ (by decide) | exact x31_ (by decide) | omega), mu_ne (by first | assumption | decide | exact xs_ (by decide) | exact xc_ (by decide) | exact x31_ (by decide) | omega)⟩) (fun m c => mu_ne (by first | assumption | decide | exact xs_ (by decide) | exact xc_ (by decide) | exact x31_ (by decide) | omega))
    have Fρ32 : FB (mu (mu (mu (mu (mu (mu (mu (mu (mu (mu (mu (mu (mu (mu (mu V 7 l 1 0) 7 l 2 0) 7 l 3 0) 7 l 4 0) 7 l 5 0) 7 l 6 0) 7 l 10 0) 7 l 12 0) 7 l 13 0) 7 l 14 0) 7 l 15 0) 11 l 0 0) 11 l 1 0) 11 l 2 0) 11 l 3 0) ρ32 := by rw [e_ρ32]; exact (Fρ30).e (fun l a b => mu_ne (by first | assumption | decide | exact xs_ (by decide) | exact xc_ (by decide) | exact x31_ (by decide) | omega)) |>.v (fun l y a b c => mu_ne (by first | assumption | decide | exact xs_ (by decide) | exact xc_ (by decide) | exact x31_ (by decide) | omega))
    refine r_iincE hC (16) dX6_open_110 rfl rfl (by first | assumption | decide | exact xs_ (by decide) | exact xc_ (by decide) | exact x31_ (by decide) | omega) (by unfold inR; omega) ?_
    refine r_goto (tgt := 95) hC dX6_open_113 rfl ?_
    refine r_iload hC dX6_open_95 rfl ?_
    refine r_bipush hC dX6_open_97 rfl ?_
    refine r_icmp_ge (tgt := 116) hC dX6_open_99 rfl (fun h33 => by omega) (fun h33 => ?_)
    refine r_aload_n hC dX6_open_102 rfl ?_
    refine r_iload_n hC dX6_open_103 rfl ?_
    refine r_iload hC dX6_open_104 rfl ?_
    refine r_iconst hC dX6_open_106 rfl ?_
    refine z_inv3 hM dX6_open_107 vl_RX6_173 rfl rfl rfl (Nat.le_of_ble_eq_true rfl) (Nat.le_of_ble_eq_true rfl) ?_
    refine y_set (by first | assumption | decide | exact xs_ (by decide) | exact xc_ (by decide) | exact x31_ (by decide) | omega) (by first | assumption | decide | exact xs_ (by decide) | exact xc_ (by decide) | exact x31_ (by decide) | omega) ⟨fun h => by omega, fun h => by omega⟩ ?_
    obtain ⟨ρ34, e_ρ34⟩ : ∃ zz_, zz_ = mu ρ32 31 0 ((22 * l) + 16) 0 := ⟨_, rfl⟩
    rw [← e_ρ34]
    have Sρ34 : SB t σ0 (mu (mu (mu (mu (mu (mu (mu (mu (mu (mu (mu (mu (mu (mu (mu V 7 l 1 0) 7 l 2 0) 7 l 3 0) 7 l 4 0) 7 l 5 0) 7 l 6 0) 7 l 10 0) 7 l 12 0) 7 l 13 0) 7 l 14 0) 7 l 15 0) 11 l 0 0) 11 l 1 0) 11 l 2 0) 11 l 3 0) ρ34 := by rw [e_ρ34, show ((22 * l) + 16) = 22 * l + 16 from by omega]; exact Sρ32.px (by first | assumption | decide | exact xs_ (by decide) | exact xc_ (by decide) | exact x31_ (by decide) | omega)
    have r16_ρ34 : ρ34 31 0 (22 * l + 16) = 0 := by rw [e_ρ34, show ((22 * l) + 16) = 22 * l + 16 from by omega]; exact mu_self _ _ _ _ _
    have Xρ34 : KX t l (mu (mu (mu (mu (mu (mu (mu (mu (mu (mu (mu (mu (mu (mu (mu V 7 l 1 0) 7 l 2 0) 7 l 3 0) 7 l 4 0) 7 l 5 0) 7 l 6 0) 7 l 10 0) 7 l 12 0) 7 l 13 0) 7 l 14 0) 7 l 15 0) 11 l 0 0) 11 l 1 0) 11 l 2 0) 11 l 3 0) ρ34 := (Xρ32).e (fun m a b c => by rw [e_ρ34]; exact ⟨mu_ne (by first | assumption | decide | exact xs_ (by decide) | exact xc_ (by decide) | exact x31_ (by decide) | omega), mu_ne (by first | assumption | decide | exact xs_ (by decide) | exact xc_ (by decide) | exact x31_ (by decide) | omega)⟩) (fun m c => rfl)
    have Fρ34 : FB (mu (mu (mu (mu (mu (mu (mu (mu (mu (mu (mu (mu (mu (mu (mu V 7 l 1 0) 7 l 2 0) 7 l 3 0) 7 l 4 0) 7 l 5 0) 7 l 6 0) 7 l 10 0) 7 l 12 0) 7 l 13 0) 7 l 14 0) 7 l 15 0) 11 l 0 0) 11 l 1 0) 11 l 2 0) 11 l 3 0) ρ34 := by rw [e_ρ34]; exact (Fρ32).e (fun l a b => mu_ne (by first | assumption | decide | exact xs_ (by decide) | exact xc_ (by decide) | exact x31_ (by decide) | omega))
    refine r_iincE hC (17) dX6_open_110 rfl rfl (by first | assumption | decide | exact xs_ (by decide) | exact xc_ (by decide) | exact x31_ (by decide) | omega) (by unfold inR; omega) ?_
    show K _ [_, _, _, _, _, _, _] _ _
    refine r_goto (tgt := 95) hC dX6_open_113 rfl ?_
    refine r_iload hC dX6_open_95 rfl ?_
    refine r_bipush hC dX6_open_97 rfl ?_
    refine r_icmp_ge (tgt := 116) hC dX6_open_99 rfl (fun h35 => by omega) (fun h35 => ?_)
    refine r_aload_n hC dX6_open_102 rfl ?_
    refine r_iload_n hC dX6_open_103 rfl ?_
    refine r_iload hC dX6_open_104 rfl ?_
    refine r_iconst hC dX6_open_106 rfl ?_
    refine z_inv3 hM dX6_open_107 vl_RX6_173 rfl rfl rfl (Nat.le_of_ble_eq_true rfl) (Nat.le_of_ble_eq_true rfl) ?_
    refine y_set (by first | assumption | decide | exact xs_ (by decide) | exact xc_ (by decide) | exact x31_ (by decide) | omega) (by first | assumption | decide | exact xs_ (by decide) | exact xc_ (by decide) | exact x31_ (by decide) | omega) ⟨fun h => by omega, fun h => by omega⟩ ?_
    obtain ⟨ρ36, e_ρ36⟩ : ∃ zz_, zz_ = mu ρ34 31 0 ((22 * l) + 17) 0 := ⟨_, rfl⟩
    rw [← e_ρ36]
    have Sρ36 : SB t σ0 (mu (mu (mu (mu (mu (mu (mu (mu (mu (mu (mu (mu (mu (mu (mu V 7 l 1 0) 7 l 2 0) 7 l 3 0) 7 l 4 0) 7 l 5 0) 7 l 6 0) 7 l 10 0) 7 l 12 0) 7 l 13 0) 7 l 14 0) 7 l 15 0) 11 l 0 0) 11 l 1 0) 11 l 2 0) 11 l 3 0) ρ36 := by rw [e_ρ36, show ((22 * l) + 17) = 22 * l + 17 from by omega]; exact Sρ34.px (by first | assumption | decide | exact xs_ (by decide) | exact xc_ (by decide) | exact x31_ (by decide) | omega)
    have r16a_ρ36 : ρ36 31 0 (22 * l + 16) = 0 := by rw [e_ρ36]; exact (mu_ne (by first | assumption | decide | exact xs_ (by decide) | exact xc_ (by decide) | exact x31_ (by decide) | omega)).trans r16_ρ34
    have r17_ρ36 : ρ36 31 0 (22 * l + 17) = 0 := by rw [e_ρ36, show ((22 * l) + 17) = 22 * l + 17 from by omega]; exact mu_self _ _ _ _ _
    have Xρ36 : KX t l (mu (mu (mu (mu (mu (mu (mu (mu (mu (mu (mu (mu (mu (mu (mu V 7 l 1 0) 7 l 2 0) 7 l 3 0) 7 l 4 0) 7 l 5 0) 7 l 6 0) 7 l 10 0) 7 l 12 0) 7 l 13 0) 7 l 14 0) 7 l 15 0) 11 l 0 0) 11 l 1 0) 11 l 2 0) 11 l 3 0) ρ36 := (Xρ34).e (fun m a b c => by rw [e_ρ36]; exact ⟨mu_ne (by first | assumption | decide | exact xs_ (by decide) | exact xc_ (by decide) | exact x31_ (by decide) | omega), mu_ne (by first | assumption | decide | exact xs_ (by decide) | exact xc_ (by decide) | exact x31_ (by decide) | omega)⟩) (fun m c => rfl)
    have Fρ36 : FB (mu (mu (mu (mu (mu (mu (mu (mu (mu (mu (mu (mu (mu (mu (mu V 7 l 1 0) 7 l 2 0) 7 l 3 0) 7 l 4 0) 7 l 5 0) 7 l 6 0) 7 l 10 0) 7 l 12 0) 7 l 13 0) 7 l 14 0) 7 l 15 0) 11 l 0 0) 11 l 1 0) 11 l 2 0) 11 l 3 0) ρ36 := by rw [e_ρ36]; exact (Fρ34).e (fun l a b => mu_ne (by first | assumption | decide | exact xs_ (by decide) | exact xc_ (by decide) | exact x31_ (by decide) | omega))
    refine r_iincE hC (18) dX6_open_110 rfl rfl (by first | assumption | decide | exact xs_ (by decide) | exact xc_ (by decide) | exact x31_ (by decide) | omega) (by unfold inR; omega) ?_
    refine r_goto (tgt := 95) hC dX6_open_113 rfl ?_
    refine r_iload hC dX6_open_95 rfl ?_
    refine r_bipush hC dX6_open_97 rfl ?_
    refine r_icmp_ge (tgt := 116) hC dX6_open_99 rfl (fun h37 => by omega) (fun h37 => ?_)
    refine r_aload_n hC dX6_open_102 rfl ?_
    refine r_iload_n hC dX6_open_103 rfl ?_
    refine r_iload hC dX6_open_104 rfl ?_
    refine r_iconst hC dX6_open_106 rfl ?_
    refine z_inv3 hM dX6_open_107 vl_RX6_173 rfl rfl rfl (Nat.le_of_ble_eq_true rfl) (Nat.le_of_ble_eq_true rfl) ?_
    refine y_set (by first | assumption | decide | exact xs_ (by decide) | exact xc_ (by decide) | exact x31_ (by decide) | omega) (by first | assumption | decide | exact xs_ (by decide) | exact xc_ (by decide) | exact x31_ (by decide) | omega) ⟨fun h => by omega, fun h => by omega⟩ ?_
    obtain ⟨ρ38, e_ρ38⟩ : ∃ zz_, zz_ = mu ρ36 31 0 ((22 * l) + 18) 0 := ⟨_, rfl⟩
    rw [← e_ρ38]
    have Sρ38 : SB t σ0 (mu (mu (mu (mu (mu (mu (mu (mu (mu (mu (mu (mu (mu (mu (mu (mu V 7 l 1 0) 7 l 2 0) 7 l 3 0) 7 l 4 0) 7 l 5 0) 7 l 6 0) 7 l 10 0) 7 l 12 0) 7 l 13 0) 7 l 14 0) 7 l 15 0) 11 l 0 0) 11 l 1 0) 11 l 2 0) 11 l 3 0) 11 l 4 0) ρ38 := by rw [e_ρ38, show ((22 * l) + 18) = 22 * l + 18 from by omega]; exact Sρ36.p11 (by first | assumption | decide | exact xs_ (by decide) | exact xc_ (by decide) | exact x31_ (by decide) | omega) (by first | assumption | decide | exact xs_ (by decide) | exact xc_ (by decide) | exact x31_ (by decide) | omega) (by first | assumption | decide | exact xs_ (by decide) | exact xc_ (by decide) | exact x31_ (by decide) | omega)
    have r16a_ρ38 : ρ38 31 0 (22 * l + 16) = 0 := by rw [e_ρ38]; exact (mu_ne (by first | assumption | decide | exact xs_ (by decide) | exact xc_ (by decide) | exact x31_ (by decide) | omega)).trans r16a_ρ36
    have r17b_ρ38 : ρ38 31 0 (22 * l + 17) = 0 := by rw [e_ρ38]; exact (mu_ne (by first | assumption | decide | exact xs_ (by decide) | exact xc_ (by decide) | exact x31_ (by decide) | omega)).trans r17_ρ36
    have Xρ38 : KX t l (mu (mu (mu (mu (mu (mu (mu (mu (mu (mu (mu (mu (mu (mu (mu (mu V 7 l 1 0) 7 l 2 0) 7 l 3 0) 7 l 4 0) 7 l 5 0) 7 l 6 0) 7 l 10 0) 7 l 12 0) 7 l 13 0) 7 l 14 0) 7 l 15 0) 11 l 0 0) 11 l 1 0) 11 l 2 0) 11 l 3 0) 11 l 4 0) ρ38 := (Xρ36).e (fun m a b c => by rw [e_ρ38]; exact ⟨mu_ne (by first | assumption | decide | exact xs_ (by decide) | exact xc_ (by decide) | exact x31_ (by decide) | omega), mu_ne (by first | assumption | decide | exact xs_ (by decide) | exact xc_ (by decide) | exact x31_ (by decide) | omega)⟩) (fun m c => mu_ne (by first | assumption | decide | exact xs_ (by decide) | exact xc_ (by decide) | exact x31_ (by decide) | omega))
    have Fρ38 : FB (mu (mu (mu (mu (mu (mu (mu (mu (mu (mu (mu (mu (mu (mu (mu (mu V 7 l 1 0) 7 l 2 0) 7 l 3 0) 7 l 4 0) 7 l 5 0) 7 l 6 0) 7 l 10 0) 7 l 12 0) 7 l 13 0) 7 l 14 0) 7 l 15 0) 11 l 0 0) 11 l 1 0) 11 l 2 0) 11 l 3 0) 11 l 4 0) ρ38 := by rw [e_ρ38]; exact (Fρ36).e (fun l a b => mu_ne (by first | assumption | decide | exact xs_ (by decide) | exact xc_ (by decide) | exact x31_ (by decide) | omega)) |>.v (fun l y a b c => mu_ne (by first | assumption | decide | exact xs_ (by decide) | exact xc_ (by decide) | exact x31_ (by decide) | omega))
    refine r_iincE hC (19) dX6_open_110 rfl rfl (by first | assumption | decide | exact xs_ (by decide) | exact xc_ (by decide) | exact x31_ (by decide) | omega) (by unfold inR; omega) ?_
    refine r_goto (tgt := 95) hC dX6_open_113 rfl ?_
    refine r_iload hC dX6_open_95 rfl ?_
    refine r_bipush hC dX6_open_97 rfl ?_
    refine r_icmp_ge (tgt := 116) hC dX6_open_99 rfl (fun h39 => by omega) (fun h39 => ?_)
    refine r_aload_n hC dX6_open_102 rfl ?_
    refine r_iload_n hC dX6_open_103 rfl ?_
    refine r_iload hC dX6_open_104 rfl ?_
    refine r_iconst hC dX6_open_106 rfl ?_
    refine z_inv3 hM dX6_open_107 vl_RX6_173 rfl rfl rfl (Nat.le_of_ble_eq_true rfl) (Nat.le_of_ble_eq_true rfl) ?_
    refine y_set (by first | assumption | decide | exact xs_ (by decide) | exact xc_ (by decide) | exact x31_ (by decide) | omega) (by first | assumption | decide | exact xs_ (by decide) | exact xc_ (by decide) | exact x31_ (by decide) | omega) ⟨fun h => by omega, fun h => by omega⟩ ?_
    obtain ⟨ρ40, e_ρ40⟩ : ∃ zz_, zz_ = mu ρ38 31 0 ((22 * l) + 19) 0 := ⟨_, rfl⟩
    rw [← e_ρ40]
    have Sρ40 : SB t σ0 (mu (mu (mu (mu (mu (mu (mu (mu (mu (mu (mu (mu (mu (mu (mu (mu (mu V 7 l 1 0) 7 l 2 0) 7 l 3 0) 7 l 4 0) 7 l 5 0) 7 l 6 0) 7 l 10 0) 7 l 12 0) 7 l 13 0) 7 l 14 0) 7 l 15 0) 11 l 0 0) 11 l 1 0) 11 l 2 0) 11 l 3 0) 11 l 4 0) 11 l 5 0) ρ40 := by rw [e_ρ40, show ((22 * l) + 19) = 22 * l + 19 from by omega]; exact Sρ38.p11 (by first | assumption | decide | exact xs_ (by decide) | exact xc_ (by decide) | exact x31_ (by decide) | omega) (by first | assumption | decide | exact xs_ (by decide) | exact xc_ (by decide) | exact x31_ (by decide) | omega) (by first | assumption | decide | exact xs_ (by decide) | exact xc_ (by decide) | exact x31_ (by decide) | omega)
    have r16a_ρ40 : ρ40 31 0 (22 * l + 16) = 0 := by rw [e_ρ40]; exact (mu_ne (by first | assumption | decide | exact xs_ (by decide) | exact xc_ (by decide) | exact x31_ (by decide) | omega)).trans r16a_ρ38
    have r17b_ρ40 : ρ40 31 0 (22 * l + 17) = 0 := by rw [e_ρ40]; exact (mu_ne (by first | assumption | decide | exact xs_ (by decide) | exact xc_ (by decide) | exact x31_ (by decide) | omega)).trans r17b_ρ38
    have Xρ40 : KX t l (mu (mu (mu (mu (mu (mu (mu (mu (mu (mu (mu (mu (mu (mu (mu (mu (mu V 7 l 1 0) 7 l 2 0) 7 l 3 0) 7 l 4 0) 7 l 5 0) 7 l 6 0) 7 l 10 0) 7 l 12 0) 7 l 13 0) 7 l 14 0) 7 l 15 0) 11 l 0 0) 11 l 1 0) 11 l 2 0) 11 l 3 0) 11 l 4 0) 11 l 5 0) ρ40 := (Xρ38).e (fun m a b c => by rw [e_ρ40]; exact ⟨mu_ne (by first | assumption | decide | exact xs_ (by decide) | exact xc_ (by decide) | exact x31_ (by decide) | omega), mu_ne (by first | assumption | decide | exact xs_ (by decide) | exact xc_ (by decide) | exact x31_ (by decide) | omega)⟩) (fun m c => mu_ne (by first | assumption | decide | exact xs_ (by decide) | exact xc_ (by decide) | exact x31_ (by decide) | omega))
    have Fρ40 : FB (mu (mu (mu (mu (mu (mu (mu (mu (mu (mu (mu (mu (mu (mu (mu (mu (mu V 7 l 1 0) 7 l 2 0) 7 l 3 0) 7 l 4 0) 7 l 5 0) 7 l 6 0) 7 l 10 0) 7 l 12 0) 7 l 13 0) 7 l 14 0) 7 l 15 0) 11 l 0 0) 11 l 1 0) 11 l 2 0) 11 l 3 0) 11 l 4 0) 11 l 5 0) ρ40 := by rw [e_ρ40]; exact (Fρ38).e (fun l a b => mu_ne (by first | assumption | decide | exact xs_ (by decide) | exact xc_ (by decide) | exact x31_ (by decide) | omega)) |>.v (fun l y a b c => mu_ne (by first | assumption | decide | exact xs_ (by decide) | exact xc_ (by decide) | exact x31_ (by decide) | omega))
    refine r_iincE hC (20) dX6_open_110 rfl rfl (by first | assumption | decide | exact xs_ (by decide) | exact xc_ (by decide) | exact x31_ (by decide) | omega) (by unfold inR; omega) ?_
    show K _ [_, _, _, _, _, _, _] _ _
    refine r_goto (tgt := 95) hC dX6_open_113 rfl ?_
    refine r_iload hC dX6_open_95 rfl ?_
    refine r_bipush hC dX6_open_97 rfl ?_
    refine r_icmp_ge (tgt := 116) hC dX6_open_99 rfl (fun h41 => by omega) (fun h41 => ?_)
    refine r_aload_n hC dX6_open_102 rfl ?_
    refine r_iload_n hC dX6_open_103 rfl ?_
    refine r_iload hC dX6_open_104 rfl ?_
    refine r_iconst hC dX6_open_106 rfl ?_
    refine z_inv3 hM dX6_open_107 vl_RX6_173 rfl rfl rfl (Nat.le_of_ble_eq_true rfl) (Nat.le_of_ble_eq_true rfl) ?_
    refine y_set (by first | assumption | decide | exact xs_ (by decide) | exact xc_ (by decide) | exact x31_ (by decide) | omega) (by first | assumption | decide | exact xs_ (by decide) | exact xc_ (by decide) | exact x31_ (by decide) | omega) ⟨fun h => by omega, fun h => by omega⟩ ?_
    obtain ⟨ρ42, e_ρ42⟩ : ∃ zz_, zz_ = mu ρ40 31 0 ((22 * l) + 20) 0 := ⟨_, rfl⟩
    rw [← e_ρ42]
    have Sρ42 : SB t σ0 (mu (mu (mu (mu (mu (mu (mu (mu (mu (mu (mu (mu (mu (mu (mu (mu (mu (mu V 7 l 1 0) 7 l 2 0) 7 l 3 0) 7 l 4 0) 7 l 5 0) 7 l 6 0) 7 l 10 0) 7 l 12 0) 7 l 13 0) 7 l 14 0) 7 l 15 0) 11 l 0 0) 11 l 1 0) 11 l 2 0) 11 l 3 0) 11 l 4 0) 11 l 5 0) 11 l 6 0) ρ42 := by rw [e_ρ42, show ((22 * l) + 20) = 22 * l + 20 from by omega]; exact Sρ40.p11 (by first | assumption | decide | exact xs_ (by decide) | exact xc_ (by decide) | exact x31_ (by decide) | omega) (by first | assumption | decide | exact xs_ (by decide) | exact xc_ (by decide) | exact x31_ (by decide) | omega) (by first | assumption | decide | exact xs_ (by decide) | exact xc_ (by decide) | exact x31_ (by decide) | omega)
    have r16a_ρ42 : ρ42 31 0 (22 * l + 16) = 0 := by rw [e_ρ42]; exact (mu_ne (by first | assumption | decide | exact xs_ (by decide) | exact xc_ (by decide) | exact x31_ (by decide) | omega)).trans r16a_ρ40
    have r17b_ρ42 : ρ42 31 0 (22 * l + 17) = 0 := by rw [e_ρ42]; exact (mu_ne (by first | assumption | decide | exact xs_ (by decide) | exact xc_ (by decide) | exact x31_ (by decide) | omega)).trans r17b_ρ40
    have Xρ42 : KX t l (mu (mu (mu (mu (mu (mu (mu (mu (mu (mu (mu (mu (mu (mu (mu (mu (mu (mu V 7 l 1 0) 7 l 2 0) 7 l 3 0) 7 l 4 0) 7 l 5 0) 7 l 6 0) 7 l 10 0) 7 l 12 0) 7 l 13 0) 7 l 14 0) 7 l 15 0) 11 l 0 0) 11 l 1 0) 11 l 2 0) 11 l 3 0) 11 l 4 0) 11 l 5 0) 11 l 6 0) ρ42 := (Xρ40).e (fun m a b c => by rw [e_ρ42]; exact ⟨mu_ne (by first | assumption | decide | exact xs_ (by decide) | exact xc_ (by decide) | exact x31_ (by decide) | omega), mu_ne (by first | assumption | decide | exact xs_ (by decide) | exact xc_ (by decide) | exact x31_ (by decide) | omega)⟩) (fun m c => mu_ne (by first | assumption | decide | exact xs_ (by decide) | exact xc_ (by decide) | exact x31_ (by decide) | omega))
    have Fρ42 : FB (mu (mu (mu (mu (mu (mu (mu (mu (mu (mu (mu (mu (mu (mu (mu (mu (mu (mu V 7 l 1 0) 7 l 2 0) 7 l 3 0) 7 l 4 0) 7 l 5 0) 7 l 6 0) 7 l 10 0) 7 l 12 0) 7 l 13 0) 7 l 14 0) 7 l 15 0) 11 l 0 0) 11 l 1 0) 11 l 2 0) 11 l 3 0) 11 l 4 0) 11 l 5 0) 11 l 6 0) ρ42 := by rw [e_ρ42]; exact (Fρ40).e (fun l a b => mu_ne (by first | assumption | decide | exact xs_ (by decide) | exact xc_ (by decide) | exact x31_ (by decide) | omega)) |>.v (fun l y a b c => mu_ne (by first | assumption | decide | exact xs_ (by decide) | exact xc_ (by decide) | exact x31_ (by decide) | omega))
    refine r_iincE hC (21) dX6_open_110 rfl rfl (by first | assumption | decide | exact xs_ (by decide) | exact xc_ (by decide) | exact x31_ (by decide) | omega) (by unfold inR; omega) ?_
    refine r_goto (tgt := 95) hC dX6_open_113 rfl ?_
    refine r_iload hC dX6_open_95 rfl ?_
    refine r_bipush hC dX6_open_97 rfl ?_
    refine r_icmp_ge (tgt := 116) hC dX6_open_99 rfl (fun h43 => by omega) (fun h43 => ?_)
    refine r_aload_n hC dX6_open_102 rfl ?_
    refine r_iload_n hC dX6_open_103 rfl ?_
    refine r_iload hC dX6_open_104 rfl ?_
    refine r_iconst hC dX6_open_106 rfl ?_
    refine z_inv3 hM dX6_open_107 vl_RX6_173 rfl rfl rfl (Nat.le_of_ble_eq_true rfl) (Nat.le_of_ble_eq_true rfl) ?_
    refine y_set (by first | assumption | decide | exact xs_ (by decide) | exact xc_ (by decide) | exact x31_ (by decide) | omega) (by first | assumption | decide | exact xs_ (by decide) | exact xc_ (by decide) | exact x31_ (by decide) | omega) ⟨fun h => by omega, fun h => by omega⟩ ?_
    obtain ⟨ρ44, e_ρ44⟩ : ∃ zz_, zz_ = mu ρ42 31 0 ((22 * l) + 21) 0 := ⟨_, rfl⟩
    rw [← e_ρ44]
    have Sρ44 : SB t σ0 (mu (mu (mu (mu (mu (mu (mu (mu (mu (mu (mu (mu (mu (mu (mu (mu (mu (mu V 7 l 1 0) 7 l 2 0) 7 l 3 0) 7 l 4 0) 7 l 5 0) 7 l 6 0) 7 l 10 0) 7 l 12 0) 7 l 13 0) 7 l 14 0) 7 l 15 0) 11 l 0 0) 11 l 1 0) 11 l 2 0) 11 l 3 0) 11 l 4 0) 11 l 5 0) 11 l 6 0) ρ44 := by rw [e_ρ44, show ((22 * l) + 21) = 22 * l + 21 from by omega]; exact Sρ42.px (by first | assumption | decide | exact xs_ (by decide) | exact xc_ (by decide) | exact x31_ (by decide) | omega)
    have r16a_ρ44 : ρ44 31 0 (22 * l + 16) = 0 := by rw [e_ρ44]; exact (mu_ne (by first | assumption | decide | exact xs_ (by decide) | exact xc_ (by decide) | exact x31_ (by decide) | omega)).trans r16a_ρ42
    have r17b_ρ44 : ρ44 31 0 (22 * l + 17) = 0 := by rw [e_ρ44]; exact (mu_ne (by first | assumption | decide | exact xs_ (by decide) | exact xc_ (by decide) | exact x31_ (by decide) | omega)).trans r17b_ρ42
    have r21_ρ44 : ρ44 31 0 (22 * l + 21) = 0 := by rw [e_ρ44, show ((22 * l) + 21) = 22 * l + 21 from by omega]; exact mu_self _ _ _ _ _
    have Xρ44 : KX t l (mu (mu (mu (mu (mu (mu (mu (mu (mu (mu (mu (mu (mu (mu (mu (mu (mu (mu V 7 l 1 0) 7 l 2 0) 7 l 3 0) 7 l 4 0) 7 l 5 0) 7 l 6 0) 7 l 10 0) 7 l 12 0) 7 l 13 0) 7 l 14 0) 7 l 15 0) 11 l 0 0) 11 l 1 0) 11 l 2 0) 11 l 3 0) 11 l 4 0) 11 l 5 0) 11 l 6 0) ρ44 := (Xρ42).e (fun m a b c => by rw [e_ρ44]; exact ⟨mu_ne (by first | assumption | decide | exact xs_ (by decide) | exact xc_ (by decide) | exact x31_ (by decide) | omega), mu_ne (by first | assumption | decide | exact xs_ (by decide) | exact xc_ (by decide) | exact x31_ (by decide) | omega)⟩) (fun m c => rfl)
    have Fρ44 : FB (mu (mu (mu (mu (mu (mu (mu (mu (mu (mu (mu (mu (mu (mu (mu (mu (mu (mu V 7 l 1 0) 7 l 2 0) 7 l 3 0) 7 l 4 0) 7 l 5 0) 7 l 6 0) 7 l 10 0) 7 l 12 0) 7 l 13 0) 7 l 14 0) 7 l 15 0) 11 l 0 0) 11 l 1 0) 11 l 2 0) 11 l 3 0) 11 l 4 0) 11 l 5 0) 11 l 6 0) ρ44 := by rw [e_ρ44]; exact (Fρ42).e (fun l a b => mu_ne (by first | assumption | decide | exact xs_ (by decide) | exact xc_ (by decide) | exact x31_ (by decide) | omega))
    refine r_iincE hC (22) dX6_open_110 rfl rfl (by first | assumption | decide | exact xs_ (by decide) | exact xc_ (by decide) | exact x31_ (by decide) | omega) (by unfold inR; omega) ?_
    refine r_goto (tgt := 95) hC dX6_open_113 rfl ?_
    refine r_iload hC dX6_open_95 rfl ?_
    refine r_bipush hC dX6_open_97 rfl ?_
    refine r_icmp_ge (tgt := 116) hC dX6_open_99 rfl (fun h45 => ?_) (fun h45 => by omega)
    refine r_aload_n hC dX6_open_116 rfl ?_
    refine r_iload_n hC dX6_open_117 rfl ?_
    refine r_iconst hC dX6_open_118 rfl ?_
    refine r_iconst hC dX6_open_119 rfl ?_
    refine z_inv3 hM dX6_open_120 vl_RX6_173 rfl rfl rfl (Nat.le_of_ble_eq_true rfl) (Nat.le_of_ble_eq_true rfl) ?_
    refine y_set (by first | assumption | decide | exact xs_ (by decide) | exact xc_ (by decide) | exact x31_ (by decide) | omega) (by first | assumption | decide | exact xs_ (by decide) | exact xc_ (by decide) | exact x31_ (by decide) | omega) ⟨fun h => by omega, fun h => by omega⟩ ?_
    obtain ⟨ρ46, e_ρ46⟩ : ∃ zz_, zz_ = mu ρ44 31 0 ((22 * l) + 0) 1 := ⟨_, rfl⟩
    rw [← e_ρ46]
    have Sρ46 : SB t σ0 (mu (mu (mu (mu (mu (mu (mu (mu (mu (mu (mu (mu (mu (mu (mu (mu (mu (mu (mu V 7 l 1 0) 7 l 2 0) 7 l 3 0) 7 l 4 0) 7 l 5 0) 7 l 6 0) 7 l 10 0) 7 l 12 0) 7 l 13 0) 7 l 14 0) 7 l 15 0) 11 l 0 0) 11 l 1 0) 11 l 2 0) 11 l 3 0) 11 l 4 0) 11 l 5 0) 11 l 6 0) 7 l 1 1) ρ46 := by rw [e_ρ46, show ((22 * l) + 0) = 22 * l + 0 from by omega]; exact Sρ44.p7 (by first | assumption | decide | exact xs_ (by decide) | exact xc_ (by decide) | exact x31_ (by decide) | omega) (by first | assumption | decide | exact xs_ (by decide) | exact xc_ (by decide) | exact x31_ (by decide) | omega) (by first | assumption | decide | exact xs_ (by decide) | exact xc_ (by decide) | exact x31_ (by decide) | omega)
    have r16a_ρ46 : ρ46 31 0 (22 * l + 16) = 0 := by rw [e_ρ46]; exact (mu_ne (by first | assumption | decide | exact xs_ (by decide) | exact xc_ (by decide) | exact x31_ (by decide) | omega)).trans r16a_ρ44
    have r17b_ρ46 : ρ46 31 0 (22 * l + 17) = 0 := by rw [e_ρ46]; exact (mu_ne (by first | assumption | decide | exact xs_ (by decide) | exact xc_ (by decide) | exact x31_ (by decide) | omega)).trans r17b_ρ44
    have r21c_ρ46 : ρ46 31 0 (22 * l + 21) = 0 := by rw [e_ρ46]; exact (mu_ne (by first | assumption | decide | exact xs_ (by decide) | exact xc_ (by decide) | exact x31_ (by decide) | omega)).trans r21_ρ44
    have Xρ46 : KX t l (mu (mu (mu (mu (mu (mu (mu (mu (mu (mu (mu (mu (mu (mu (mu (mu (mu (mu (mu V 7 l 1 0) 7 l 2 0) 7 l 3 0) 7 l 4 0) 7 l 5 0) 7 l 6 0) 7 l 10 0) 7 l 12 0) 7 l 13 0) 7 l 14 0) 7 l 15 0) 11 l 0 0) 11 l 1 0) 11 l 2 0) 11 l 3 0) 11 l 4 0) 11 l 5 0) 11 l 6 0) 7 l 1 1) ρ46 := (Xρ44).e (fun m a b c => by rw [e_ρ46]; exact ⟨mu_ne (by first | assumption | decide | exact xs_ (by decide) | exact xc_ (by decide) | exact x31_ (by decide) | omega), mu_ne (by first | assumption | decide | exact xs_ (by decide) | exact xc_ (by decide) | exact x31_ (by decide) | omega)⟩) (fun m c => mu_ne (by first | assumption | decide | exact xs_ (by decide) | exact xc_ (by decide) | exact x31_ (by decide) | omega))
    have Fρ46 : FB (mu (mu (mu (mu (mu (mu (mu (mu (mu (mu (mu (mu (mu (mu (mu (mu (mu (mu (mu V 7 l 1 0) 7 l 2 0) 7 l 3 0) 7 l 4 0) 7 l 5 0) 7 l 6 0) 7 l 10 0) 7 l 12 0) 7 l 13 0) 7 l 14 0) 7 l 15 0) 11 l 0 0) 11 l 1 0) 11 l 2 0) 11 l 3 0) 11 l 4 0) 11 l 5 0) 11 l 6 0) 7 l 1 1) ρ46 := by rw [e_ρ46]; exact (Fρ44).e (fun l a b => mu_ne (by first | assumption | decide | exact xs_ (by decide) | exact xc_ (by decide) | exact x31_ (by decide) | omega)) |>.v (fun l y a b c => mu_ne (by first | assumption | decide | exact xs_ (by decide) | exact xc_ (by decide) | exact x31_ (by decide) | omega))
    refine r_aload_n hC dX6_open_123 rfl ?_
    refine r_iload_n hC dX6_open_124 rfl ?_
    refine r_iconst hC dX6_open_125 rfl ?_
    refine r_iload_n hC dX6_open_126 rfl ?_
    refine z_inv3 hM dX6_open_127 vl_RX6_173 rfl rfl rfl (Nat.le_of_ble_eq_true rfl) (Nat.le_of_ble_eq_true rfl) ?_
    refine y_set (by first | assumption | decide | exact xs_ (by decide) | exact xc_ (by decide) | exact x31_ (by decide) | omega) (by first | assumption | decide | exact xs_ (by decide) | exact xc_ (by decide) | exact x31_ (by decide) | omega) ⟨fun h => by omega, fun h => by omega⟩ ?_
    obtain ⟨ρ47, e_ρ47⟩ : ∃ zz_, zz_ = mu ρ46 31 0 ((22 * l) + 1) o := ⟨_, rfl⟩
    rw [← e_ρ47]
    have Sρ47 : SB t σ0 (mu (mu (mu (mu (mu (mu (mu (mu (mu (mu (mu (mu (mu (mu (mu (mu (mu (mu (mu (mu V 7 l 1 0) 7 l 2 0) 7 l 3 0) 7 l 4 0) 7 l 5 0) 7 l 6 0) 7 l 10 0) 7 l 12 0) 7 l 13 0) 7 l 14 0) 7 l 15 0) 11 l 0 0) 11 l 1 0) 11 l 2 0) 11 l 3 0) 11 l 4 0) 11 l 5 0) 11 l 6 0) 7 l 1 1) 7 l 2 o) ρ47 := by rw [e_ρ47, show ((22 * l) + 1) = 22 * l + 1 from by omega]; exact Sρ46.p7 (by first | assumption | decide | exact xs_ (by decide) | exact xc_ (by decide) | exact x31_ (by decide) | omega) (by first | assumption | decide | exact xs_ (by decide) | exact xc_ (by decide) | exact x31_ (by decide) | omega) (by first | assumption | decide | exact xs_ (by decide) | exact xc_ (by decide) | exact x31_ (by decide) | omega)
    have r16a_ρ47 : ρ47 31 0 (22 * l + 16) = 0 := by rw [e_ρ47]; exact (mu_ne (by first | assumption | decide | exact xs_ (by decide) | exact xc_ (by decide) | exact x31_ (by decide) | omega)).trans r16a_ρ46
    have r17b_ρ47 : ρ47 31 0 (22 * l + 17) = 0 := by rw [e_ρ47]; exact (mu_ne (by first | assumption | decide | exact xs_ (by decide) | exact xc_ (by decide) | exact x31_ (by decide) | omega)).trans r17b_ρ46
    have r21c_ρ47 : ρ47 31 0 (22 * l + 21) = 0 := by rw [e_ρ47]; exact (mu_ne (by first | assumption | decide | exact xs_ (by decide) | exact xc_ (by decide) | exact x31_ (by decide) | omega)).trans r21c_ρ46
    have Xρ47 : KX t l (mu (mu (mu (mu (mu (mu (mu (mu (mu (mu (mu (mu (mu (mu (mu (mu (mu (mu (mu (mu V 7 l 1 0) 7 l 2 0) 7 l 3 0) 7 l 4 0) 7 l 5 0) 7 l 6 0) 7 l 10 0) 7 l 12 0) 7 l 13 0) 7 l 14 0) 7 l 15 0) 11 l 0 0) 11 l 1 0) 11 l 2 0) 11 l 3 0) 11 l 4 0) 11 l 5 0) 11 l 6 0) 7 l 1 1) 7 l 2 o) ρ47 := (Xρ46).e (fun m a b c => by rw [e_ρ47]; exact ⟨mu_ne (by first | assumption | decide | exact xs_ (by decide) | exact xc_ (by decide) | exact x31_ (by decide) | omega), mu_ne (by first | assumption | decide | exact xs_ (by decide) | exact xc_ (by decide) | exact x31_ (by decide) | omega)⟩) (fun m c => mu_ne (by first | assumption | decide | exact xs_ (by decide) | exact xc_ (by decide) | exact x31_ (by decide) | omega))
    have Fρ47 : FB (mu (mu (mu (mu (mu (mu (mu (mu (mu (mu (mu (mu (mu (mu (mu (mu (mu (mu (mu (mu V 7 l 1 0) 7 l 2 0) 7 l 3 0) 7 l 4 0) 7 l 5 0) 7 l 6 0) 7 l 10 0) 7 l 12 0) 7 l 13 0) 7 l 14 0) 7 l 15 0) 11 l 0 0) 11 l 1 0) 11 l 2 0) 11 l 3 0) 11 l 4 0) 11 l 5 0) 11 l 6 0) 7 l 1 1) 7 l 2 o) ρ47 := by rw [e_ρ47]; exact (Fρ46).e (fun l a b => mu_ne (by first | assumption | decide | exact xs_ (by decide) | exact xc_ (by decide) | exact x31_ (by decide) | omega)) |>.v (fun l y a b c => mu_ne (by first | assumption | decide | exact xs_ (by decide) | exact xc_ (by decide) | exact x31_ (by decide) | omega))
    refine r_aload_n hC dX6_open_130 rfl ?_
    refine r_iload_n hC dX6_open_131 rfl ?_
    refine r_iconst hC dX6_open_132 rfl ?_
    refine r_iload_n hC dX6_open_133 rfl ?_
    refine z_inv3 hM dX6_open_134 vl_RX6_173 rfl rfl rfl (Nat.le_of_ble_eq_true rfl) (Nat.le_of_ble_eq_true rfl) ?_
    refine y_set (by first | assumption | decide | exact xs_ (by decide) | exact xc_ (by decide) | exact x31_ (by decide) | omega) (by first | assumption | decide | exact xs_ (by decide) | exact xc_ (by decide) | exact x31_ (by decide) | omega) ⟨fun h => by omega, fun h => by omega⟩ ?_
    obtain ⟨ρ48, e_ρ48⟩ : ∃ zz_, zz_ = mu ρ47 31 0 ((22 * l) + 2) b := ⟨_, rfl⟩
    rw [← e_ρ48]
    have Sρ48 : SB t σ0 (mu (mu (mu (mu (mu (mu (mu (mu (mu (mu (mu (mu (mu (mu (mu (mu (mu (mu (mu (mu (mu V 7 l 1 0) 7 l 2 0) 7 l 3 0) 7 l 4 0) 7 l 5 0) 7 l 6 0) 7 l 10 0) 7 l 12 0) 7 l 13 0) 7 l 14 0) 7 l 15 0) 11 l 0 0) 11 l 1 0) 11 l 2 0) 11 l 3 0) 11 l 4 0) 11 l 5 0) 11 l 6 0) 7 l 1 1) 7 l 2 o) 7 l 3 b) ρ48 := by rw [e_ρ48, show ((22 * l) + 2) = 22 * l + 2 from by omega]; exact Sρ47.p7 (by first | assumption | decide | exact xs_ (by decide) | exact xc_ (by decide) | exact x31_ (by decide) | omega) (by first | assumption | decide | exact xs_ (by decide) | exact xc_ (by decide) | exact x31_ (by decide) | omega) (by first | assumption | decide | exact xs_ (by decide) | exact xc_ (by decide) | exact x31_ (by decide) | omega)
    have r16a_ρ48 : ρ48 31 0 (22 * l + 16) = 0 := by rw [e_ρ48]; exact (mu_ne (by first | assumption | decide | exact xs_ (by decide) | exact xc_ (by decide) | exact x31_ (by decide) | omega)).trans r16a_ρ47
    have r17b_ρ48 : ρ48 31 0 (22 * l + 17) = 0 := by rw [e_ρ48]; exact (mu_ne (by first | assumption | decide | exact xs_ (by decide) | exact xc_ (by decide) | exact x31_ (by decide) | omega)).trans r17b_ρ47
    have r21c_ρ48 : ρ48 31 0 (22 * l + 21) = 0 := by rw [e_ρ48]; exact (mu_ne (by first | assumption | decide | exact xs_ (by decide) | exact xc_ (by decide) | exact x31_ (by decide) | omega)).trans r21c_ρ47
    have Xρ48 : KX t l (mu (mu (mu (mu (mu (mu (mu (mu (mu (mu (mu (mu (mu (mu (mu (mu (mu (mu (mu (mu (mu V 7 l 1 0) 7 l 2 0) 7 l 3 0) 7 l 4 0) 7 l 5 0) 7 l 6 0) 7 l 10 0) 7 l 12 0) 7 l 13 0) 7 l 14 0) 7 l 15 0) 11 l 0 0) 11 l 1 0) 11 l 2 0) 11 l 3 0) 11 l 4 0) 11 l 5 0) 11 l 6 0) 7 l 1 1) 7 l 2 o) 7 l 3 b) ρ48 := (Xρ47).e (fun m a b c => by rw [e_ρ48]; exact ⟨mu_ne (by first | assumption | decide | exact xs_ (by decide) | exact xc_ (by decide) | exact x31_ (by decide) | omega), mu_ne (by first | assumption | decide | exact xs_ (by decide) | exact xc_ (by decide) | exact x31_ (by decide) | omega)⟩) (fun m c => mu_ne (by first | assumption | decide | exact xs_ (by decide) | exact xc_ (by decide) | exact x31_ (by decide) | omega))
    have Fρ48 : FB (mu (mu (mu (mu (mu (mu (mu (mu (mu (mu (mu (mu (mu (mu (mu (mu (mu (mu (mu (mu (mu V 7 l 1 0) 7 l 2 0) 7 l 3 0) 7 l 4 0) 7 l 5 0) 7 l 6 0) 7 l 10 0) 7 l 12 0) 7 l 13 0) 7 l 14 0) 7 l 15 0) 11 l 0 0) 11 l 1 0) 11 l 2 0) 11 l 3 0) 11 l 4 0) 11 l 5 0) 11 l 6 0) 7 l 1 1) 7 l 2 o) 7 l 3 b) ρ48 := by rw [e_ρ48]; exact (Fρ47).e (fun l a b => mu_ne (by first | assumption | decide | exact xs_ (by decide) | exact xc_ (by decide) | exact x31_ (by decide) | omega)) |>.v (fun l y a b c => mu_ne (by first | assumption | decide | exact xs_ (by decide) | exact xc_ (by decide) | exact x31_ (by decide) | omega))
    refine r_aload_n hC dX6_open_137 rfl ?_
    refine r_iload_n hC dX6_open_138 rfl ?_
    refine r_iconst hC dX6_open_139 rfl ?_
    refine r_iload_n hC dX6_open_140 rfl ?_
    refine r_if_ne (tgt := 148) hC dX6_open_141 rfl (fun h49 => ?_) (fun h49 => ?_)
    · refine r_iload hC dX6_open_148 rfl ?_
      refine z_inv3 hM dX6_open_150 vl_RX6_173 rfl rfl rfl (Nat.le_of_ble_eq_true rfl) (Nat.le_of_ble_eq_true rfl) ?_
      refine y_set (by first | assumption | decide | exact xs_ (by decide) | exact xc_ (by decide) | exact x31_ (by decide) | omega) (by first | assumption | decide | exact xs_ (by decide) | exact xc_ (by decide) | exact x31_ (by decide) | omega) ⟨fun h => by omega, fun h => by omega⟩ ?_
      obtain ⟨ρ50, e_ρ50⟩ : ∃ zz_, zz_ = mu ρ48 31 0 ((22 * l) + 3) z := ⟨_, rfl⟩
      rw [← e_ρ50]
      have Sρ50 : SB t σ0 (mu (mu (mu (mu (mu (mu (mu (mu (mu (mu (mu (mu (mu (mu (mu (mu (mu (mu (mu (mu (mu (mu V 7 l 1 0) 7 l 2 0) 7 l 3 0) 7 l 4 0) 7 l 5 0) 7 l 6 0) 7 l 10 0) 7 l 12 0) 7 l 13 0) 7 l 14 0) 7 l 15 0) 11 l 0 0) 11 l 1 0) 11 l 2 0) 11 l 3 0) 11 l 4 0) 11 l 5 0) 11 l 6 0) 7 l 1 1) 7 l 2 o) 7 l 3 b) 7 l 4 z) ρ50 := by rw [e_ρ50, show ((22 * l) + 3) = 22 * l + 3 from by omega]; exact Sρ48.p7 (by first | assumption | decide | exact xs_ (by decide) | exact xc_ (by decide) | exact x31_ (by decide) | omega) (by first | assumption | decide | exact xs_ (by decide) | exact xc_ (by decide) | exact x31_ (by decide) | omega) (by first | assumption | decide | exact xs_ (by decide) | exact xc_ (by decide) | exact x31_ (by decide) | omega)
      have r16a_ρ50 : ρ50 31 0 (22 * l + 16) = 0 := by rw [e_ρ50]; exact (mu_ne (by first | assumption | decide | exact xs_ (by decide) | exact xc_ (by decide) | exact x31_ (by decide) | omega)).trans r16a_ρ48
      have r17b_ρ50 : ρ50 31 0 (22 * l + 17) = 0 := by rw [e_ρ50]; exact (mu_ne (by first | assumption | decide | exact xs_ (by decide) | exact xc_ (by decide) | exact x31_ (by decide) | omega)).trans r17b_ρ48
      have r21c_ρ50 : ρ50 31 0 (22 * l + 21) = 0 := by rw [e_ρ50]; exact (mu_ne (by first | assumption | decide | exact xs_ (by decide) | exact xc_ (by decide) | exact x31_ (by decide) | omega)).trans r21c_ρ48
      have Xρ50 : KX t l (mu (mu (mu (mu (mu (mu (mu (mu (mu (mu (mu (mu (mu (mu (mu (mu (mu (mu (mu (mu (mu (mu V 7 l 1 0) 7 l 2 0) 7 l 3 0) 7 l 4 0) 7 l 5 0) 7 l 6 0) 7 l 10 0) 7 l 12 0) 7 l 13 0) 7 l 14 0) 7 l 15 0) 11 l 0 0) 11 l 1 0) 11 l 2 0) 11 l 3 0) 11 l 4 0) 11 l 5 0) 11 l 6 0) 7 l 1 1) 7 l 2 o) 7 l 3 b) 7 l 4 z) ρ50 := (Xρ48).e (fun m a b c => by rw [e_ρ50]; exact ⟨mu_ne (by first | assumption | decide | exact xs_ (by decide) | exact xc_ (by decide) | exact x31_ (by decide) | omega), mu_ne (by first | assumption | decide | exact xs_ (by decide) | exact xc_ (by decide) | exact x31_ (by decide) | omega)⟩) (fun m c => mu_ne (by first | assumption | decide | exact xs_ (by decide) | exact xc_ (by decide) | exact x31_ (by decide) | omega))
      have Fρ50 : FB (mu (mu (mu (mu (mu (mu (mu (mu (mu (mu (mu (mu (mu (mu (mu (mu (mu (mu (mu (mu (mu (mu V 7 l 1 0) 7 l 2 0) 7 l 3 0) 7 l 4 0) 7 l 5 0) 7 l 6 0) 7 l 10 0) 7 l 12 0) 7 l 13 0) 7 l 14 0) 7 l 15 0) 11 l 0 0) 11 l 1 0) 11 l 2 0) 11 l 3 0) 11 l 4 0) 11 l 5 0) 11 l 6 0) 7 l 1 1) 7 l 2 o) 7 l 3 b) 7 l 4 z) ρ50 := by rw [e_ρ50]; exact (Fρ48).e (fun l a b => mu_ne (by first | assumption | decide | exact xs_ (by decide) | exact xc_ (by decide) | exact x31_ (by decide) | omega)) |>.v (fun l y a b c => mu_ne (by first | assumption | decide | exact xs_ (by decide) | exact xc_ (by decide) | exact x31_ (by decide) | omega))
      refine r_aload_n hC dX6_open_153 rfl ?_
      refine r_iload_n hC dX6_open_154 rfl ?_
      refine r_iconst hC dX6_open_155 rfl ?_
      refine r_iload hC dX6_open_156 rfl ?_
      refine z_inv3 hM dX6_open_158 vl_RX6_173 rfl rfl rfl (Nat.le_of_ble_eq_true rfl) (Nat.le_of_ble_eq_true rfl) ?_
      refine y_set (by first | assumption | decide | exact xs_ (by decide) | exact xc_ (by decide) | exact x31_ (by decide) | omega) (by first | assumption | decide | exact xs_ (by decide) | exact xc_ (by decide) | exact x31_ (by decide) | omega) ⟨fun h => by omega, fun h => by omega⟩ ?_
      obtain ⟨ρ51, e_ρ51⟩ : ∃ zz_, zz_ = mu ρ50 31 0 ((22 * l) + 4) y := ⟨_, rfl⟩
      rw [← e_ρ51]
      have Sρ51 : SB t σ0 (mu (mu (mu (mu (mu (mu (mu (mu (mu (mu (mu (mu (mu (mu (mu (mu (mu (mu (mu (mu (mu (mu (mu V 7 l 1 0) 7 l 2 0) 7 l 3 0) 7 l 4 0) 7 l 5 0) 7 l 6 0) 7 l 10 0) 7 l 12 0) 7 l 13 0) 7 l 14 0) 7 l 15 0) 11 l 0 0) 11 l 1 0) 11 l 2 0) 11 l 3 0) 11 l 4 0) 11 l 5 0) 11 l 6 0) 7 l 1 1) 7 l 2 o) 7 l 3 b) 7 l 4 z) 7 l 5 y) ρ51 := by rw [e_ρ51, show ((22 * l) + 4) = 22 * l + 4 from by omega]; exact Sρ50.p7 (by first | assumption | decide | exact xs_ (by decide) | exact xc_ (by decide) | exact x31_ (by decide) | omega) (by first | assumption | decide | exact xs_ (by decide) | exact xc_ (by decide) | exact x31_ (by decide) | omega) (by first | assumption | decide | exact xs_ (by decide) | exact xc_ (by decide) | exact x31_ (by decide) | omega)
      have r16a_ρ51 : ρ51 31 0 (22 * l + 16) = 0 := by rw [e_ρ51]; exact (mu_ne (by first | assumption | decide | exact xs_ (by decide) | exact xc_ (by decide) | exact x31_ (by decide) | omega)).trans r16a_ρ50
      have r17b_ρ51 : ρ51 31 0 (22 * l + 17) = 0 := by rw [e_ρ51]; exact (mu_ne (by first | assumption | decide | exact xs_ (by decide) | exact xc_ (by decide) | exact x31_ (by decide) | omega)).trans r17b_ρ50
      have r21c_ρ51 : ρ51 31 0 (22 * l + 21) = 0 := by rw [e_ρ51]; exact (mu_ne (by first | assumption | decide | exact xs_ (by decide) | exact xc_ (by decide) | exact x31_ (by decide) | omega)).trans r21c_ρ50
      have Xρ51 : KX t l (mu (mu (mu (mu (mu (mu (mu (mu (mu (mu (mu (mu (mu (mu (mu (mu (mu (mu (mu (mu (mu (mu (mu V 7 l 1 0) 7 l 2 0) 7 l 3 0) 7 l 4 0) 7 l 5 0) 7 l 6 0) 7 l 10 0) 7 l 12 0) 7 l 13 0) 7 l 14 0) 7 l 15 0) 11 l 0 0) 11 l 1 0) 11 l 2 0) 11 l 3 0) 11 l 4 0) 11 l 5 0) 11 l 6 0) 7 l 1 1) 7 l 2 o) 7 l 3 b) 7 l 4 z) 7 l 5 y) ρ51 := (Xρ50).e (fun m a b c => by rw [e_ρ51]; exact ⟨mu_ne (by first | assumption | decide | exact xs_ (by decide) | exact xc_ (by decide) | exact x31_ (by decide) | omega), mu_ne (by first | assumption | decide | exact xs_ (by decide) | exact xc_ (by decide) | exact x31_ (by decide) | omega)⟩) (fun m c => mu_ne (by first | assumption | decide | exact xs_ (by decide) | exact xc_ (by decide) | exact x31_ (by decide) | omega))
      have Fρ51 : FB (mu (mu (mu (mu (mu (mu (mu (mu (mu (mu (mu (mu (mu (mu (mu (mu (mu (mu (mu (mu (mu (mu (mu V 7 l 1 0) 7 l 2 0) 7 l 3 0) 7 l 4 0) 7 l 5 0) 7 l 6 0) 7 l 10 0) 7 l 12 0) 7 l 13 0) 7 l 14 0) 7 l 15 0) 11 l 0 0) 11 l 1 0) 11 l 2 0) 11 l 3 0) 11 l 4 0) 11 l 5 0) 11 l 6 0) 7 l 1 1) 7 l 2 o) 7 l 3 b) 7 l 4 z) 7 l 5 y) ρ51 := by rw [e_ρ51]; exact (Fρ50).e (fun l a b => mu_ne (by first | assumption | decide | exact xs_ (by decide) | exact xc_ (by decide) | exact x31_ (by decide) | omega)) |>.v (fun l y a b c => mu_ne (by first | assumption | decide | exact xs_ (by decide) | exact xc_ (by decide) | exact x31_ (by decide) | omega))
      refine r_aload_n hC dX6_open_161 rfl ?_
      refine r_iload_n hC dX6_open_162 rfl ?_
      refine r_bipush hC dX6_open_163 rfl ?_
      refine r_iconst hC dX6_open_165 rfl ?_
      refine z_inv3 hM dX6_open_166 vl_RX6_173 rfl rfl rfl (Nat.le_of_ble_eq_true rfl) (Nat.le_of_ble_eq_true rfl) ?_
      refine y_set (by first | assumption | decide | exact xs_ (by decide) | exact xc_ (by decide) | exact x31_ (by decide) | omega) (by first | assumption | decide | exact xs_ (by decide) | exact xc_ (by decide) | exact x31_ (by decide) | omega) ⟨fun h => by omega, fun h => by omega⟩ ?_
      obtain ⟨ρ52, e_ρ52⟩ : ∃ zz_, zz_ = mu ρ51 31 0 ((22 * l) + 6) (-1) := ⟨_, rfl⟩
      rw [← e_ρ52]
      have Sρ52 : SB t σ0 (mu (mu (mu (mu (mu (mu (mu (mu (mu (mu (mu (mu (mu (mu (mu (mu (mu (mu (mu (mu (mu (mu (mu (mu V 7 l 1 0) 7 l 2 0) 7 l 3 0) 7 l 4 0) 7 l 5 0) 7 l 6 0) 7 l 10 0) 7 l 12 0) 7 l 13 0) 7 l 14 0) 7 l 15 0) 11 l 0 0) 11 l 1 0) 11 l 2 0) 11 l 3 0) 11 l 4 0) 11 l 5 0) 11 l 6 0) 7 l 1 1) 7 l 2 o) 7 l 3 b) 7 l 4 z) 7 l 5 y) 7 l 10 (-1)) ρ52 := by rw [e_ρ52, show ((22 * l) + 6) = 22 * l + 6 from by omega]; exact Sρ51.p7 (by first | assumption | decide | exact xs_ (by decide) | exact xc_ (by decide) | exact x31_ (by decide) | omega) (by first | assumption | decide | exact xs_ (by decide) | exact xc_ (by decide) | exact x31_ (by decide) | omega) (by first | assumption | decide | exact xs_ (by decide) | exact xc_ (by decide) | exact x31_ (by decide) | omega)
      have r16a_ρ52 : ρ52 31 0 (22 * l + 16) = 0 := by rw [e_ρ52]; exact (mu_ne (by first | assumption | decide | exact xs_ (by decide) | exact xc_ (by decide) | exact x31_ (by decide) | omega)).trans r16a_ρ51
      have r17b_ρ52 : ρ52 31 0 (22 * l + 17) = 0 := by rw [e_ρ52]; exact (mu_ne (by first | assumption | decide | exact xs_ (by decide) | exact xc_ (by decide) | exact x31_ (by decide) | omega)).trans r17b_ρ51
      have r21c_ρ52 : ρ52 31 0 (22 * l + 21) = 0 := by rw [e_ρ52]; exact (mu_ne (by first | assumption | decide | exact xs_ (by decide) | exact xc_ (by decide) | exact x31_ (by decide) | omega)).trans r21c_ρ51
      have Xρ52 : KX t l (mu (mu (mu (mu (mu (mu (mu (mu (mu (mu (mu (mu (mu (mu (mu (mu (mu (mu (mu (mu (mu (mu (mu (mu V 7 l 1 0) 7 l 2 0) 7 l 3 0) 7 l 4 0) 7 l 5 0) 7 l 6 0) 7 l 10 0) 7 l 12 0) 7 l 13 0) 7 l 14 0) 7 l 15 0) 11 l 0 0) 11 l 1 0) 11 l 2 0) 11 l 3 0) 11 l 4 0) 11 l 5 0) 11 l 6 0) 7 l 1 1) 7 l 2 o) 7 l 3 b) 7 l 4 z) 7 l 5 y) 7 l 10 (-1)) ρ52 := (Xρ51).e (fun m a b c => by rw [e_ρ52]; exact ⟨mu_ne (by first | assumption | decide | exact xs_ (by decide) | exact xc_ (by decide) | exact x31_ (by decide) | omega), mu_ne (by first | assumption | decide | exact xs_ (by decide) | exact xc_ (by decide) | exact x31_ (by decide) | omega)⟩) (fun m c => mu_ne (by first | assumption | decide | exact xs_ (by decide) | exact xc_ (by decide) | exact x31_ (by decide) | omega))
      have Fρ52 : FB (mu (mu (mu (mu (mu (mu (mu (mu (mu (mu (mu (mu (mu (mu (mu (mu (mu (mu (mu (mu (mu (mu (mu (mu V 7 l 1 0) 7 l 2 0) 7 l 3 0) 7 l 4 0) 7 l 5 0) 7 l 6 0) 7 l 10 0) 7 l 12 0) 7 l 13 0) 7 l 14 0) 7 l 15 0) 11 l 0 0) 11 l 1 0) 11 l 2 0) 11 l 3 0) 11 l 4 0) 11 l 5 0) 11 l 6 0) 7 l 1 1) 7 l 2 o) 7 l 3 b) 7 l 4 z) 7 l 5 y) 7 l 10 (-1)) ρ52 := by rw [e_ρ52]; exact (Fρ51).e (fun l a b => mu_ne (by first | assumption | decide | exact xs_ (by decide) | exact xc_ (by decide) | exact x31_ (by decide) | omega)) |>.v (fun l y a b c => mu_ne (by first | assumption | decide | exact xs_ (by decide) | exact xc_ (by decide) | exact x31_ (by decide) | omega))
      have hV : (mu (mu (mu (mu (mu (mu (mu (mu (mu (mu (mu (mu (mu (mu (mu (mu (mu (mu (mu (mu (mu (mu (mu (mu V 7 l 1 0) 7 l 2 0) 7 l 3 0) 7 l 4 0) 7 l 5 0) 7 l 6 0) 7 l 10 0) 7 l 12 0) 7 l 13 0) 7 l 14 0) 7 l 15 0) 11 l 0 0) 11 l 1 0) 11 l 2 0) 11 l 3 0) 11 l 4 0) 11 l 5 0) 11 l 6 0) 7 l 1 1) 7 l 2 o) 7 l 3 b) 7 l 4 z) 7 l 5 y) 7 l 10 (-1)) = (bgM V l o b z y) := bg24.symm
      have iS := Sρ52
      have iX := Xρ52
      have iF := Fρ52
      rw [hV] at iS iX iF
      have iK : KF t (bgM V l o b z y) ρ52 := iX.kf (r16a_ρ52.trans (if_pos bg_11).symm) r17b_ρ52
      refine r_aload_n hC dX6_open_169 rfl ?_
      refine r_iload_n hC dX6_open_170 rfl ?_
      refine z_inv1 hM dX6_open_171 vl_RX6_176 rfl rfl rfl (Nat.le_of_ble_eq_true rfl) (Nat.le_of_ble_eq_true rfl) ?_
      refine y_endWatches (V := (bgM V l o b z y)) (by first | assumption | decide | exact xs_ (by decide) | exact xc_ (by decide) | exact x31_ (by decide) | omega) ht ⟨iS, iK, iF⟩ (fun ρ53 Rρ53 => ?_)
      refine r_aload_n hC dX6_open_174 rfl ?_
      refine r_iload_n hC dX6_open_175 rfl ?_
      refine z_inv1 hM dX6_open_176 vl_RX6_179 rfl rfl rfl (Nat.le_of_ble_eq_true rfl) (Nat.le_of_ble_eq_true rfl) ?_
      refine y_endLinks (V := (etA (bgM V l o b z y) l 8)) (by first | assumption | decide | exact xs_ (by decide) | exact xc_ (by decide) | exact x31_ (by decide) | omega) ht ⟨Rρ53.1, Rρ53.2.1, Rρ53.2.2⟩ (fun ρ54 Rρ54 => ?_)
      refine r_aload_n hC dX6_open_179 rfl ?_
      refine z_inv0 hM dX6_open_180 vl_RX6_182 rfl rfl rfl (Nat.le_of_ble_eq_true rfl) (Nat.le_of_ble_eq_true rfl) ?_
      refine y_openLanes (V := (etB (etA (bgM V l o b z y) l 8) l 4)) ht ⟨Rρ54.1, Rρ54.2.1, Rρ54.2.2⟩ ?_
      refine y_iret hK rfl dX6_open_183 ?_
      have hM : onM V l o b z y = (etB (etA (bgM V l o b z y) l 8) l 4) := by
        first
        | exact (if_pos hoc).trans (by rw [if_pos (by first | assumption | decide | exact xs_ (by decide) | exact xc_ (by decide) | exact x31_ (by decide) | omega)]; first | done | rfl)
        | exact (if_pos hoc).trans (by rw [if_neg (by first | assumption | decide | exact xs_ (by decide) | exact xc_ (by decide) | exact x31_ (by decide) | omega)]; first | done | rfl)
      have hRr : onR V l o b z y = (cntO (etB (etA (bgM V l o b z y) l 8) l 4)) := by
        exact (if_pos hoc).trans (by rw [hM])
      rw [hM] at k
      rw [hRr] at k
      exact k _ ⟨Rρ54.1, Rρ54.2.1, Rρ54.2.2⟩
    · refine r_iconst hC dX6_open_144 rfl ?_
      refine r_goto (tgt := 150) hC dX6_open_145 rfl ?_
      refine z_inv3 hM dX6_open_150 vl_RX6_173 rfl rfl rfl (Nat.le_of_ble_eq_true rfl) (Nat.le_of_ble_eq_true rfl) ?_
      refine y_set (by first | assumption | decide | exact xs_ (by decide) | exact xc_ (by decide) | exact x31_ (by decide) | omega) (by first | assumption | decide | exact xs_ (by decide) | exact xc_ (by decide) | exact x31_ (by decide) | omega) ⟨fun h => by omega, fun h => by omega⟩ ?_
      obtain ⟨ρ55, e_ρ55⟩ : ∃ zz_, zz_ = mu ρ48 31 0 ((22 * l) + 3) 0 := ⟨_, rfl⟩
      rw [← e_ρ55]
      have Sρ55 : SB t σ0 (mu (mu (mu (mu (mu (mu (mu (mu (mu (mu (mu (mu (mu (mu (mu (mu (mu (mu (mu (mu (mu (mu V 7 l 1 0) 7 l 2 0) 7 l 3 0) 7 l 4 0) 7 l 5 0) 7 l 6 0) 7 l 10 0) 7 l 12 0) 7 l 13 0) 7 l 14 0) 7 l 15 0) 11 l 0 0) 11 l 1 0) 11 l 2 0) 11 l 3 0) 11 l 4 0) 11 l 5 0) 11 l 6 0) 7 l 1 1) 7 l 2 o) 7 l 3 b) 7 l 4 0) ρ55 := by rw [e_ρ55, show ((22 * l) + 3) = 22 * l + 3 from by omega]; exact Sρ48.p7 (by first | assumption | decide | exact xs_ (by decide) | exact xc_ (by decide) | exact x31_ (by decide) | omega) (by first | assumption | decide | exact xs_ (by decide) | exact xc_ (by decide) | exact x31_ (by decide) | omega) (by first | assumption | decide | exact xs_ (by decide) | exact xc_ (by decide) | exact x31_ (by decide) | omega)
      have r16a_ρ55 : ρ55 31 0 (22 * l + 16) = 0 := by rw [e_ρ55]; exact (mu_ne (by first | assumption | decide | exact xs_ (by decide) | exact xc_ (by decide) | exact x31_ (by decide) | omega)).trans r16a_ρ48
      have r17b_ρ55 : ρ55 31 0 (22 * l + 17) = 0 := by rw [e_ρ55]; exact (mu_ne (by first | assumption | decide | exact xs_ (by decide) | exact xc_ (by decide) | exact x31_ (by decide) | omega)).trans r17b_ρ48
      have r21c_ρ55 : ρ55 31 0 (22 * l + 21) = 0 := by rw [e_ρ55]; exact (mu_ne (by first | assumption | decide | exact xs_ (by decide) | exact xc_ (by decide) | exact x31_ (by decide) | omega)).trans r21c_ρ48
      have Xρ55 : KX t l (mu (mu (mu (mu (mu (mu (mu (mu (mu (mu (mu (mu (mu (mu (mu (mu (mu (mu (mu (mu (mu (mu V 7 l 1 0) 7 l 2 0) 7 l 3 0) 7 l 4 0) 7 l 5 0) 7 l 6 0) 7 l 10 0) 7 l 12 0) 7 l 13 0) 7 l 14 0) 7 l 15 0) 11 l 0 0) 11 l 1 0) 11 l 2 0) 11 l 3 0) 11 l 4 0) 11 l 5 0) 11 l 6 0) 7 l 1 1) 7 l 2 o) 7 l 3 b) 7 l 4 0) ρ55 := (Xρ48).e (fun m a b c => by rw [e_ρ55]; exact ⟨mu_ne (by first | assumption | decide | exact xs_ (by decide) | exact xc_ (by decide) | exact x31_ (by decide) | omega), mu_ne (by first | assumption | decide | exact xs_ (by decide) | exact xc_ (by decide) | exact x31_ (by decide) | omega)⟩) (fun m c => mu_ne (by first | assumption | decide | exact xs_ (by decide) | exact xc_ (by decide) | exact x31_ (by decide) | omega))
      have Fρ55 : FB (mu (mu (mu (mu (mu (mu (mu (mu (mu (mu (mu (mu (mu (mu (mu (mu (mu (mu (mu (mu (mu (mu V 7 l 1 0) 7 l 2 0) 7 l 3 0) 7 l 4 0) 7 l 5 0) 7 l 6 0) 7 l 10 0) 7 l 12 0) 7 l 13 0) 7 l 14 0) 7 l 15 0) 11 l 0 0) 11 l 1 0) 11 l 2 0) 11 l 3 0) 11 l 4 0) 11 l 5 0) 11 l 6 0) 7 l 1 1) 7 l 2 o) 7 l 3 b) 7 l 4 0) ρ55 := by rw [e_ρ55]; exact (Fρ48).e (fun l a b => mu_ne (by first | assumption | decide | exact xs_ (by decide) | exact xc_ (by decide) | exact x31_ (by decide) | omega)) |>.v (fun l y a b c => mu_ne (by first | assumption | decide | exact xs_ (by decide) | exact xc_ (by decide) | exact x31_ (by decide) | omega))
      refine r_aload_n hC dX6_open_153 rfl ?_
      refine r_iload_n hC dX6_open_154 rfl ?_
      refine r_iconst hC dX6_open_155 rfl ?_
      refine r_iload hC dX6_open_156 rfl ?_
      refine z_inv3 hM dX6_open_158 vl_RX6_173 rfl rfl rfl (Nat.le_of_ble_eq_true rfl) (Nat.le_of_ble_eq_true rfl) ?_
      refine y_set (by first | assumption | decide | exact xs_ (by decide) | exact xc_ (by decide) | exact x31_ (by decide) | omega) (by first | assumption | decide | exact xs_ (by decide) | exact xc_ (by decide) | exact x31_ (by decide) | omega) ⟨fun h => by omega, fun h => by omega⟩ ?_
      obtain ⟨ρ56, e_ρ56⟩ : ∃ zz_, zz_ = mu ρ55 31 0 ((22 * l) + 4) y := ⟨_, rfl⟩
      rw [← e_ρ56]
      have Sρ56 : SB t σ0 (mu (mu (mu (mu (mu (mu (mu (mu (mu (mu (mu (mu (mu (mu (mu (mu (mu (mu (mu (mu (mu (mu (mu V 7 l 1 0) 7 l 2 0) 7 l 3 0) 7 l 4 0) 7 l 5 0) 7 l 6 0) 7 l 10 0) 7 l 12 0) 7 l 13 0) 7 l 14 0) 7 l 15 0) 11 l 0 0) 11 l 1 0) 11 l 2 0) 11 l 3 0) 11 l 4 0) 11 l 5 0) 11 l 6 0) 7 l 1 1) 7 l 2 o) 7 l 3 b) 7 l 4 0) 7 l 5 y) ρ56 := by rw [e_ρ56, show ((22 * l) + 4) = 22 * l + 4 from by omega]; exact Sρ55.p7 (by first | assumption | decide | exact xs_ (by decide) | exact xc_ (by decide) | exact x31_ (by decide) | omega) (by first | assumption | decide | exact xs_ (by decide) | exact xc_ (by decide) | exact x31_ (by decide) | omega) (by first | assumption | decide | exact xs_ (by decide) | exact xc_ (by decide) | exact x31_ (by decide) | omega)
      have r16a_ρ56 : ρ56 31 0 (22 * l + 16) = 0 := by rw [e_ρ56]; exact (mu_ne (by first | assumption | decide | exact xs_ (by decide) | exact xc_ (by decide) | exact x31_ (by decide) | omega)).trans r16a_ρ55
      have r17b_ρ56 : ρ56 31 0 (22 * l + 17) = 0 := by rw [e_ρ56]; exact (mu_ne (by first | assumption | decide | exact xs_ (by decide) | exact xc_ (by decide) | exact x31_ (by decide) | omega)).trans r17b_ρ55
      have r21c_ρ56 : ρ56 31 0 (22 * l + 21) = 0 := by rw [e_ρ56]; exact (mu_ne (by first | assumption | decide | exact xs_ (by decide) | exact xc_ (by decide) | exact x31_ (by decide) | omega)).trans r21c_ρ55
      have Xρ56 : KX t l (mu (mu (mu (mu (mu (mu (mu (mu (mu (mu (mu (mu (mu (mu (mu (mu (mu (mu (mu (mu (mu (mu (mu V 7 l 1 0) 7 l 2 0) 7 l 3 0) 7 l 4 0) 7 l 5 0) 7 l 6 0) 7 l 10 0) 7 l 12 0) 7 l 13 0) 7 l 14 0) 7 l 15 0) 11 l 0 0) 11 l 1 0) 11 l 2 0) 11 l 3 0) 11 l 4 0) 11 l 5 0) 11 l 6 0) 7 l 1 1) 7 l 2 o) 7 l 3 b) 7 l 4 0) 7 l 5 y) ρ56 := (Xρ55).e (fun m a b c => by rw [e_ρ56]; exact ⟨mu_ne (by first | assumption | decide | exact xs_ (by decide) | exact xc_ (by decide) | exact x31_ (by decide) | omega), mu_ne (by first | assumption | decide | exact xs_ (by decide) | exact xc_ (by decide) | exact x31_ (by decide) | omega)⟩) (fun m c => mu_ne (by first | assumption | decide | exact xs_ (by decide) | exact xc_ (by decide) | exact x31_ (by decide) | omega))
      have Fρ56 : FB (mu (mu (mu (mu (mu (mu (mu (mu (mu (mu (mu (mu (mu (mu (mu (mu (mu (mu (mu (mu (mu (mu (mu V 7 l 1 0) 7 l 2 0) 7 l 3 0) 7 l 4 0) 7 l 5 0) 7 l 6 0) 7 l 10 0) 7 l 12 0) 7 l 13 0) 7 l 14 0) 7 l 15 0) 11 l 0 0) 11 l 1 0) 11 l 2 0) 11 l 3 0) 11 l 4 0) 11 l 5 0) 11 l 6 0) 7 l 1 1) 7 l 2 o) 7 l 3 b) 7 l 4 0) 7 l 5 y) ρ56 := by rw [e_ρ56]; exact (Fρ55).e (fun l a b => mu_ne (by first | assumption | decide | exact xs_ (by decide) | exact xc_ (by decide) | exact x31_ (by decide) | omega)) |>.v (fun l y a b c => mu_ne (by first | assumption | decide | exact xs_ (by decide) | exact xc_ (by decide) | exact x31_ (by decide) | omega))
      refine r_aload_n hC dX6_open_161 rfl ?_
      refine r_iload_n hC dX6_open_162 rfl ?_
      refine r_bipush hC dX6_open_163 rfl ?_
      refine r_iconst hC dX6_open_165 rfl ?_
      refine z_inv3 hM dX6_open_166 vl_RX6_173 rfl rfl rfl (Nat.le_of_ble_eq_true rfl) (Nat.le_of_ble_eq_true rfl) ?_
      refine y_set (by first | assumption | decide | exact xs_ (by decide) | exact xc_ (by decide) | exact x31_ (by decide) | omega) (by first | assumption | decide | exact xs_ (by decide) | exact xc_ (by decide) | exact x31_ (by decide) | omega) ⟨fun h => by omega, fun h => by omega⟩ ?_
      obtain ⟨ρ57, e_ρ57⟩ : ∃ zz_, zz_ = mu ρ56 31 0 ((22 * l) + 6) (-1) := ⟨_, rfl⟩
      rw [← e_ρ57]
      have Sρ57 : SB t σ0 (mu (mu (mu (mu (mu (mu (mu (mu (mu (mu (mu (mu (mu (mu (mu (mu (mu (mu (mu (mu (mu (mu (mu (mu V 7 l 1 0) 7 l 2 0) 7 l 3 0) 7 l 4 0) 7 l 5 0) 7 l 6 0) 7 l 10 0) 7 l 12 0) 7 l 13 0) 7 l 14 0) 7 l 15 0) 11 l 0 0) 11 l 1 0) 11 l 2 0) 11 l 3 0) 11 l 4 0) 11 l 5 0) 11 l 6 0) 7 l 1 1) 7 l 2 o) 7 l 3 b) 7 l 4 0) 7 l 5 y) 7 l 10 (-1)) ρ57 := by rw [e_ρ57, show ((22 * l) + 6) = 22 * l + 6 from by omega]; exact Sρ56.p7 (by first | assumption | decide | exact xs_ (by decide) | exact xc_ (by decide) | exact x31_ (by decide) | omega) (by first | assumption | decide | exact xs_ (by decide) | exact xc_ (by decide) | exact x31_ (by decide) | omega) (by first | assumption | decide | exact xs_ (by decide) | exact xc_ (by decide) | exact x31_ (by decide) | omega)
      have r16a_ρ57 : ρ57 31 0 (22 * l + 16) = 0 := by rw [e_ρ57]; exact (mu_ne (by first | assumption | decide | exact xs_ (by decide) | exact xc_ (by decide) | exact x31_ (by decide) | omega)).trans r16a_ρ56
      have r17b_ρ57 : ρ57 31 0 (22 * l + 17) = 0 := by rw [e_ρ57]; exact (mu_ne (by first | assumption | decide | exact xs_ (by decide) | exact xc_ (by decide) | exact x31_ (by decide) | omega)).trans r17b_ρ56
      have r21c_ρ57 : ρ57 31 0 (22 * l + 21) = 0 := by rw [e_ρ57]; exact (mu_ne (by first | assumption | decide | exact xs_ (by decide) | exact xc_ (by decide) | exact x31_ (by decide) | omega)).trans r21c_ρ56
      have Xρ57 : KX t l (mu (mu (mu (mu (mu (mu (mu (mu (mu (mu (mu (mu (mu (mu (mu (mu (mu (mu (mu (mu (mu (mu (mu (mu V 7 l 1 0) 7 l 2 0) 7 l 3 0) 7 l 4 0) 7 l 5 0) 7 l 6 0) 7 l 10 0) 7 l 12 0) 7 l 13 0) 7 l 14 0) 7 l 15 0) 11 l 0 0) 11 l 1 0) 11 l 2 0) 11 l 3 0) 11 l 4 0) 11 l 5 0) 11 l 6 0) 7 l 1 1) 7 l 2 o) 7 l 3 b) 7 l 4 0) 7 l 5 y) 7 l 10 (-1)) ρ57 := (Xρ56).e (fun m a b c => by rw [e_ρ57]; exact ⟨mu_ne (by first | assumption | decide | exact xs_ (by decide) | exact xc_ (by decide) | exact x31_ (by decide) | omega), mu_ne (by first | assumption | decide | exact xs_ (by decide) | exact xc_ (by decide) | exact x31_ (by decide) | omega)⟩) (fun m c => mu_ne (by first | assumption | decide | exact xs_ (by decide) | exact xc_ (by decide) | exact x31_ (by decide) | omega))
      have Fρ57 : FB (mu (mu (mu (mu (mu (mu (mu (mu (mu (mu (mu (mu (mu (mu (mu (mu (mu (mu (mu (mu (mu (mu (mu (mu V 7 l 1 0) 7 l 2 0) 7 l 3 0) 7 l 4 0) 7 l 5 0) 7 l 6 0) 7 l 10 0) 7 l 12 0) 7 l 13 0) 7 l 14 0) 7 l 15 0) 11 l 0 0) 11 l 1 0) 11 l 2 0) 11 l 3 0) 11 l 4 0) 11 l 5 0) 11 l 6 0) 7 l 1 1) 7 l 2 o) 7 l 3 b) 7 l 4 0) 7 l 5 y) 7 l 10 (-1)) ρ57 := by rw [e_ρ57]; exact (Fρ56).e (fun l a b => mu_ne (by first | assumption | decide | exact xs_ (by decide) | exact xc_ (by decide) | exact x31_ (by decide) | omega)) |>.v (fun l y a b c => mu_ne (by first | assumption | decide | exact xs_ (by decide) | exact xc_ (by decide) | exact x31_ (by decide) | omega))
      have hV : (mu (mu (mu (mu (mu (mu (mu (mu (mu (mu (mu (mu (mu (mu (mu (mu (mu (mu (mu (mu (mu (mu (mu (mu V 7 l 1 0) 7 l 2 0) 7 l 3 0) 7 l 4 0) 7 l 5 0) 7 l 6 0) 7 l 10 0) 7 l 12 0) 7 l 13 0) 7 l 14 0) 7 l 15 0) 11 l 0 0) 11 l 1 0) 11 l 2 0) 11 l 3 0) 11 l 4 0) 11 l 5 0) 11 l 6 0) 7 l 1 1) 7 l 2 o) 7 l 3 b) 7 l 4 0) 7 l 5 y) 7 l 10 (-1)) = (bgM V l o b 0 y) := bg24.symm
      have iS := Sρ57
      have iX := Xρ57
      have iF := Fρ57
      rw [hV] at iS iX iF
      have iK : KF t (bgM V l o b 0 y) ρ57 := iX.kf (r16a_ρ57.trans (if_pos bg_11).symm) r17b_ρ57
      refine r_aload_n hC dX6_open_169 rfl ?_
      refine r_iload_n hC dX6_open_170 rfl ?_
      refine z_inv1 hM dX6_open_171 vl_RX6_176 rfl rfl rfl (Nat.le_of_ble_eq_true rfl) (Nat.le_of_ble_eq_true rfl) ?_
      refine y_endWatches (V := (bgM V l o b 0 y)) (by first | assumption | decide | exact xs_ (by decide) | exact xc_ (by decide) | exact x31_ (by decide) | omega) ht ⟨iS, iK, iF⟩ (fun ρ58 Rρ58 => ?_)
      refine r_aload_n hC dX6_open_174 rfl ?_
      refine r_iload_n hC dX6_open_175 rfl ?_
      refine z_inv1 hM dX6_open_176 vl_RX6_179 rfl rfl rfl (Nat.le_of_ble_eq_true rfl) (Nat.le_of_ble_eq_true rfl) ?_
      refine y_endLinks (V := (etA (bgM V l o b 0 y) l 8)) (by first | assumption | decide | exact xs_ (by decide) | exact xc_ (by decide) | exact x31_ (by decide) | omega) ht ⟨Rρ58.1, Rρ58.2.1, Rρ58.2.2⟩ (fun ρ59 Rρ59 => ?_)
      refine r_aload_n hC dX6_open_179 rfl ?_
      refine z_inv0 hM dX6_open_180 vl_RX6_182 rfl rfl rfl (Nat.le_of_ble_eq_true rfl) (Nat.le_of_ble_eq_true rfl) ?_
      refine y_openLanes (V := (etB (etA (bgM V l o b 0 y) l 8) l 4)) ht ⟨Rρ59.1, Rρ59.2.1, Rρ59.2.2⟩ ?_
      refine y_iret hK rfl dX6_open_183 ?_
      have hM : onM V l o b z y = (etB (etA (bgM V l o b 0 y) l 8) l 4) := by
        first
        | exact (if_pos hoc).trans (by rw [if_pos (by first | assumption | decide | exact xs_ (by decide) | exact xc_ (by decide) | exact x31_ (by decide) | omega)]; first | done | rfl)
        | exact (if_pos hoc).trans (by rw [if_neg (by first | assumption | decide | exact xs_ (by decide) | exact xc_ (by decide) | exact x31_ (by decide) | omega)]; first | done | rfl)
      have hRr : onR V l o b z y = (cntO (etB (etA (bgM V l o b 0 y) l 8) l 4)) := by
        exact (if_pos hoc).trans (by rw [hM])
      rw [hM] at k
      rw [hRr] at k
      exact k _ ⟨Rρ59.1, Rρ59.2.1, Rρ59.2.2⟩
  refine r_iload_n hC dX6_open_0 rfl ?_
  refine r_iconst hC dX6_open_1 rfl ?_
  refine r_iconst hC dX6_open_2 rfl ?_
  refine z_ins3 hM dX6_open_3 tl_RX6_76 rfl (Nat.le_of_ble_eq_true rfl) (Nat.le_of_ble_eq_true rfl) ?_
  refine m_isIn (fun h61 => ?_) (fun h61 => ?_)
  · refine r_if_eq (tgt := 40) hC dX6_open_6 rfl (fun h62 => by omega) (fun h62 => ?_)
    refine r_iload_n hC dX6_open_9 rfl ?_
    refine r_iconst hC dX6_open_10 rfl ?_
    refine r_bipush hC dX6_open_11 rfl ?_
    refine z_ins3 hM dX6_open_13 tl_RX6_76 rfl (Nat.le_of_ble_eq_true rfl) (Nat.le_of_ble_eq_true rfl) ?_
    refine m_isIn (fun h64 => ?_) (fun h64 => ?_)
    · refine r_if_eq (tgt := 40) hC dX6_open_16 rfl (fun h65 => by omega) (fun h65 => ?_)
      refine r_iload_n hC dX6_open_19 rfl ?_
      refine r_iconst hC dX6_open_20 rfl ?_
      refine r_iconst hC dX6_open_21 rfl ?_
      refine z_ins3 hM dX6_open_22 tl_RX6_76 rfl (Nat.le_of_ble_eq_true rfl) (Nat.le_of_ble_eq_true rfl) ?_
      refine m_isIn (fun h67 => ?_) (fun h67 => ?_)
      · refine r_if_eq (tgt := 40) hC dX6_open_25 rfl (fun h68 => by omega) (fun h68 => ?_)
        refine r_iload hC dX6_open_28 rfl ?_
        refine r_iconst hC dX6_open_30 rfl ?_
        refine r_sipush hC dX6_open_31 rfl ?_
        refine z_ins3 hM dX6_open_34 tl_RX6_76 rfl (Nat.le_of_ble_eq_true rfl) (Nat.le_of_ble_eq_true rfl) ?_
        refine m_isIn (fun h70 => ?_) (fun h70 => ?_)
        · refine r_if_ne (tgt := 42) hC dX6_open_37 rfl (fun h71 => ?_) (fun h71 => by omega)
          refine r_iload_n hC dX6_open_42 rfl ?_
          refine r_iconst hC dX6_open_43 rfl ?_
          refine r_icmp_ne (tgt := 58) hC dX6_open_44 rfl (fun h72 => ?_) (fun h72 => ?_)
          · refine r_iload_n hC dX6_open_58 rfl ?_
            refine r_iconst hC dX6_open_59 rfl ?_
            refine r_icmp_ne (tgt := 77) hC dX6_open_60 rfl (fun h73 => ?_) (fun h73 => ?_)
            · refine r_iload_n hC dX6_open_77 rfl ?_
              refine r_bipush hC dX6_open_78 rfl ?_
              refine r_icmp_ne (tgt := 92) hC dX6_open_80 rfl (fun h74 => ?_) (fun h74 => ?_)
              · exact J92 ⟨by omega, by omega, by omega, by omega, fun q => by first | omega | exact hft.mpr (by first | assumption | decide | exact xs_ (by decide) | exact xc_ (by decide) | exact x31_ (by decide) | omega)⟩
              · refine r_aload_n hC dX6_open_83 rfl ?_
                refine z_inv0 hM dX6_open_84 vl_RX6_98 rfl rfl rfl (Nat.le_of_ble_eq_true rfl) (Nat.le_of_ble_eq_true rfl) ?_
                refine m_firstThreeX ?_
                have bf := fst_bd 35 σ
                have htb := (hG.2.1.lk hG.1 (l := 0) (by first | assumption | decide | exact xs_ (by decide) | exact xc_ (by decide) | exact x31_ (by decide) | omega) (by first | assumption | decide | exact xs_ (by decide) | exact xc_ (by decide) | exact x31_ (by decide) | omega)).2.2.2.1
                have hft : trpF 15 V 3 = 64 ↔ fstA 35 σ (64 : Int).toNat < 0 := ft_key (fun j a b => (hR.1.t15 a (by first | assumption | decide | exact xs_ (by decide) | exact xc_ (by decide) | exact x31_ (by decide) | omega)).symm) htb
                refine r_if_lt (tgt := 92) hC dX6_open_87 rfl (fun h75 => ?_) (fun h75 => ?_)
                · exact J92 ⟨by omega, by omega, by omega, by omega, fun q => by first | omega | exact hft.mpr (by first | assumption | decide | exact xs_ (by decide) | exact xc_ (by decide) | exact x31_ (by decide) | omega)⟩
                · refine r_iconst hC dX6_open_90 rfl ?_
                  refine y_iret hK rfl dX6_open_91 ?_
                  have hM : onM V l o b z y = V := by
                    exact if_neg (by first | omega | (rintro ⟨q1, q2, q3, q4, q5⟩; first | omega | (have := q5 (by first | assumption | decide | exact xs_ (by decide) | exact xc_ (by decide) | exact x31_ (by decide) | omega); omega)))
                  have hRr : onR V l o b z y = (-1) := by
                    exact if_neg (by first | omega | (rintro ⟨q1, q2, q3, q4, q5⟩; first | omega | (have := q5 (by first | assumption | decide | exact xs_ (by decide) | exact xc_ (by decide) | exact x31_ (by decide) | omega); omega)))
                  rw [hM] at k
                  rw [hRr] at k
                  exact k _ ⟨hR.1, hR.2.1, hR.2.2⟩
            · refine r_iload hC dX6_open_63 rfl ?_
              refine r_iconst hC dX6_open_65 rfl ?_
              refine r_sipush hC dX6_open_66 rfl ?_
              refine z_ins3 hM dX6_open_69 tl_RX6_76 rfl (Nat.le_of_ble_eq_true rfl) (Nat.le_of_ble_eq_true rfl) ?_
              refine m_isIn (fun h77 => ?_) (fun h77 => ?_)
              · refine r_if_ne (tgt := 77) hC dX6_open_72 rfl (fun h78 => ?_) (fun h78 => by omega)
                refine r_iload_n hC dX6_open_77 rfl ?_
                refine r_bipush hC dX6_open_78 rfl ?_
                refine r_icmp_ne (tgt := 92) hC dX6_open_80 rfl (fun h79 => ?_) (fun h79 => ?_)
                · exact J92 ⟨by omega, by omega, by omega, by omega, fun q => by first | omega | exact hft.mpr (by first | assumption | decide | exact xs_ (by decide) | exact xc_ (by decide) | exact x31_ (by decide) | omega)⟩
                · refine r_aload_n hC dX6_open_83 rfl ?_
                  refine z_inv0 hM dX6_open_84 vl_RX6_98 rfl rfl rfl (Nat.le_of_ble_eq_true rfl) (Nat.le_of_ble_eq_true rfl) ?_
                  refine m_firstThreeX ?_
                  have bf := fst_bd 35 σ
                  have htb := (hG.2.1.lk hG.1 (l := 0) (by first | assumption | decide | exact xs_ (by decide) | exact xc_ (by decide) | exact x31_ (by decide) | omega) (by first | assumption | decide | exact xs_ (by decide) | exact xc_ (by decide) | exact x31_ (by decide) | omega)).2.2.2.1
                  have hft : trpF 15 V 3 = 64 ↔ fstA 35 σ (64 : Int).toNat < 0 := ft_key (fun j a b => (hR.1.t15 a (by first | assumption | decide | exact xs_ (by decide) | exact xc_ (by decide) | exact x31_ (by decide) | omega)).symm) htb
                  refine r_if_lt (tgt := 92) hC dX6_open_87 rfl (fun h80 => ?_) (fun h80 => ?_)
                  · exact J92 ⟨by omega, by omega, by omega, by omega, fun q => by first | omega | exact hft.mpr (by first | assumption | decide | exact xs_ (by decide) | exact xc_ (by decide) | exact x31_ (by decide) | omega)⟩
                  · refine r_iconst hC dX6_open_90 rfl ?_
                    refine y_iret hK rfl dX6_open_91 ?_
                    have hM : onM V l o b z y = V := by
                      exact if_neg (by first | omega | (rintro ⟨q1, q2, q3, q4, q5⟩; first | omega | (have := q5 (by first | assumption | decide | exact xs_ (by decide) | exact xc_ (by decide) | exact x31_ (by decide) | omega); omega)))
                    have hRr : onR V l o b z y = (-1) := by
                      exact if_neg (by first | omega | (rintro ⟨q1, q2, q3, q4, q5⟩; first | omega | (have := q5 (by first | assumption | decide | exact xs_ (by decide) | exact xc_ (by decide) | exact x31_ (by decide) | omega); omega)))
                    rw [hM] at k
                    rw [hRr] at k
                    exact k _ ⟨hR.1, hR.2.1, hR.2.2⟩
              · refine r_if_ne (tgt := 77) hC dX6_open_72 rfl (fun h81 => by omega) (fun h81 => ?_)
                refine r_iconst hC dX6_open_75 rfl ?_
                refine y_iret hK rfl dX6_open_76 ?_
                have hM : onM V l o b z y = V := by
                  exact if_neg (by first | omega | (rintro ⟨q1, q2, q3, q4, q5⟩; first | omega | (have := q5 (by first | assumption | decide | exact xs_ (by decide) | exact xc_ (by decide) | exact x31_ (by decide) | omega); omega)))
                have hRr : onR V l o b z y = (-1) := by
                  exact if_neg (by first | omega | (rintro ⟨q1, q2, q3, q4, q5⟩; first | omega | (have := q5 (by first | assumption | decide | exact xs_ (by decide) | exact xc_ (by decide) | exact x31_ (by decide) | omega); omega)))
                rw [hM] at k
                rw [hRr] at k
                exact k _ ⟨hR.1, hR.2.1, hR.2.2⟩
          · refine r_iload hC dX6_open_47 rfl ?_
            refine r_iconst hC dX6_open_49 rfl ?_
            refine r_bipush hC dX6_open_50 rfl ?_
            refine z_ins3 hM dX6_open_52 tl_RX6_76 rfl (Nat.le_of_ble_eq_true rfl) (Nat.le_of_ble_eq_true rfl) ?_
            refine m_isIn (fun h83 => ?_) (fun h83 => ?_)
            · refine r_if_eq (tgt := 75) hC dX6_open_55 rfl (fun h84 => by omega) (fun h84 => ?_)
              refine r_iload_n hC dX6_open_58 rfl ?_
              refine r_iconst hC dX6_open_59 rfl ?_
              refine r_icmp_ne (tgt := 77) hC dX6_open_60 rfl (fun h85 => ?_) (fun h85 => by omega)
              refine r_iload_n hC dX6_open_77 rfl ?_
              refine r_bipush hC dX6_open_78 rfl ?_
              refine r_icmp_ne (tgt := 92) hC dX6_open_80 rfl (fun h86 => ?_) (fun h86 => ?_)
              · exact J92 ⟨by omega, by omega, by omega, by omega, fun q => by first | omega | exact hft.mpr (by first | assumption | decide | exact xs_ (by decide) | exact xc_ (by decide) | exact x31_ (by decide) | omega)⟩
              · refine r_aload_n hC dX6_open_83 rfl ?_
                refine z_inv0 hM dX6_open_84 vl_RX6_98 rfl rfl rfl (Nat.le_of_ble_eq_true rfl) (Nat.le_of_ble_eq_true rfl) ?_
                refine m_firstThreeX ?_
                have bf := fst_bd 35 σ
                have htb := (hG.2.1.lk hG.1 (l := 0) (by first | assumption | decide | exact xs_ (by decide) | exact xc_ (by decide) | exact x31_ (by decide) | omega) (by first | assumption | decide | exact xs_ (by decide) | exact xc_ (by decide) | exact x31_ (by decide) | omega)).2.2.2.1
                have hft : trpF 15 V 3 = 64 ↔ fstA 35 σ (64 : Int).toNat < 0 := ft_key (fun j a b => (hR.1.t15 a (by first | assumption | decide | exact xs_ (by decide) | exact xc_ (by decide) | exact x31_ (by decide) | omega)).symm) htb
                refine r_if_lt (tgt := 92) hC dX6_open_87 rfl (fun h87 => ?_) (fun h87 => ?_)
                · exact J92 ⟨by omega, by omega, by omega, by omega, fun q => by first | omega | exact hft.mpr (by first | assumption | decide | exact xs_ (by decide) | exact xc_ (by decide) | exact x31_ (by decide) | omega)⟩
                · refine r_iconst hC dX6_open_90 rfl ?_
                  refine y_iret hK rfl dX6_open_91 ?_
                  have hM : onM V l o b z y = V := by
                    exact if_neg (by first | omega | (rintro ⟨q1, q2, q3, q4, q5⟩; first | omega | (have := q5 (by first | assumption | decide | exact xs_ (by decide) | exact xc_ (by decide) | exact x31_ (by decide) | omega); omega)))
                  have hRr : onR V l o b z y = (-1) := by
                    exact if_neg (by first | omega | (rintro ⟨q1, q2, q3, q4, q5⟩; first | omega | (have := q5 (by first | assumption | decide | exact xs_ (by decide) | exact xc_ (by decide) | exact x31_ (by decide) | omega); omega)))
                  rw [hM] at k
                  rw [hRr] at k
                  exact k _ ⟨hR.1, hR.2.1, hR.2.2⟩
            · refine r_if_eq (tgt := 75) hC dX6_open_55 rfl (fun h88 => ?_) (fun h88 => by omega)
              refine r_iconst hC dX6_open_75 rfl ?_
              refine y_iret hK rfl dX6_open_76 ?_
              have hM : onM V l o b z y = V := by
                exact if_neg (by first | omega | (rintro ⟨q1, q2, q3, q4, q5⟩; first | omega | (have := q5 (by first | assumption | decide | exact xs_ (by decide) | exact xc_ (by decide) | exact x31_ (by decide) | omega); omega)))
              have hRr : onR V l o b z y = (-1) := by
                exact if_neg (by first | omega | (rintro ⟨q1, q2, q3, q4, q5⟩; first | omega | (have := q5 (by first | assumption | decide | exact xs_ (by decide) | exact xc_ (by decide) | exact x31_ (by decide) | omega); omega)))
              rw [hM] at k
              rw [hRr] at k
              exact k _ ⟨hR.1, hR.2.1, hR.2.2⟩
        · refine r_if_ne (tgt := 42) hC dX6_open_37 rfl (fun h89 => by omega) (fun h89 => ?_)
          refine r_iconst hC dX6_open_40 rfl ?_
          refine y_iret hK rfl dX6_open_41 ?_
          have hM : onM V l o b z y = V := by
            exact if_neg (by first | omega | (rintro ⟨q1, q2, q3, q4, q5⟩; first | omega | (have := q5 (by first | assumption | decide | exact xs_ (by decide) | exact xc_ (by decide) | exact x31_ (by decide) | omega); omega)))
          have hRr : onR V l o b z y = (-1) := by
            exact if_neg (by first | omega | (rintro ⟨q1, q2, q3, q4, q5⟩; first | omega | (have := q5 (by first | assumption | decide | exact xs_ (by decide) | exact xc_ (by decide) | exact x31_ (by decide) | omega); omega)))
          rw [hM] at k
          rw [hRr] at k
          exact k _ ⟨hR.1, hR.2.1, hR.2.2⟩
      · refine r_if_eq (tgt := 40) hC dX6_open_25 rfl (fun h90 => ?_) (fun h90 => by omega)
        refine r_iconst hC dX6_open_40 rfl ?_
        refine y_iret hK rfl dX6_open_41 ?_
        have hM : onM V l o b z y = V := by
          exact if_neg (by first | omega | (rintro ⟨q1, q2, q3, q4, q5⟩; first | omega | (have := q5 (by first | assumption | decide | exact xs_ (by decide) | exact xc_ (by decide) | exact x31_ (by decide) | omega); omega)))
        have hRr : onR V l o b z y = (-1) := by
          exact if_neg (by first | omega | (rintro ⟨q1, q2, q3, q4, q5⟩; first | omega | (have := q5 (by first | assumption | decide | exact xs_ (by decide) | exact xc_ (by decide) | exact x31_ (by decide) | omega); omega)))
        rw [hM] at k
        rw [hRr] at k
        exact k _ ⟨hR.1, hR.2.1, hR.2.2⟩
    · refine r_if_eq (tgt := 40) hC dX6_open_16 rfl (fun h91 => ?_) (fun h91 => by omega)
      refine r_iconst hC dX6_open_40 rfl ?_
      refine y_iret hK rfl dX6_open_41 ?_
      have hM : onM V l o b z y = V := by
        exact if_neg (by first | omega | (rintro ⟨q1, q2, q3, q4, q5⟩; first | omega | (have := q5 (by first | assumption | decide | exact xs_ (by decide) | exact xc_ (by decide) | exact x31_ (by decide) | omega); omega)))
      have hRr : onR V l o b z y = (-1) := by
        exact if_neg (by first | omega | (rintro ⟨q1, q2, q3, q4, q5⟩; first | omega | (have := q5 (by first | assumption | decide | exact xs_ (by decide) | exact xc_ (by decide) | exact x31_ (by decide) | omega); omega)))
      rw [hM] at k
      rw [hRr] at k
      exact k _ ⟨hR.1, hR.2.1, hR.2.2⟩
  · refine r_if_eq (tgt := 40) hC dX6_open_6 rfl (fun h92 => ?_) (fun h92 => by omega)
    refine r_iconst hC dX6_open_40 rfl ?_
    refine y_iret hK rfl dX6_open_41 ?_
    have hM : onM V l o b z y = V := by
      exact if_neg (by first | omega | (rintro ⟨q1, q2, q3, q4, q5⟩; first | omega | (have := q5 (by first | assumption | decide | exact xs_ (by decide) | exact xc_ (by decide) | exact x31_ (by decide) | omega); omega)))
    have hRr : onR V l o b z y = (-1) := by
      exact if_neg (by first | omega | (rintro ⟨q1, q2, q3, q4, q5⟩; first | omega | (have := q5 (by first | assumption | decide | exact xs_ (by decide) | exact xc_ (by decide) | exact x31_ (by decide) | omega); omega)))
    rw [hM] at k
    rw [hRr] at k
    exact k _ ⟨hR.1, hR.2.1, hR.2.2⟩
theorem y_ofU {e : Ev} {d : Nat} {P : Option Vl → Mm → Prop} {σ : Mm} {l f : Int} (b_l : 0 ≤ l ∧ l ≤ 7) (b_f : 0 ≤ f ∧ f ≤ 21)  (k : ∀ r : Int, P (some (vI r)) σ) : WT e (d + 1) 138 [vR 30 0, vI l, vI f] σ P := by
  refine WT_in fun K hK => ?_
  have hK : StpY e cX6_of RX6 (some .int) (WT e (d + 0)) P K := hK
  have hM := hK.1
  have hC := hK.1.1
  show K 0 [some (vR 30 0), some (vI l), some (vI f)] [] σ
  refine r_aload_n hC dX6_of_0 rfl ?_
  refine z_getR hM dX6_of_1 fl_RX6_7 rfl rfl (vld_of (n := 1) rfl (by first | assumption | decide | exact xs_ (by decide) | exact xc_ (by decide) | exact x31_ (by decide) | omega) (by first | assumption | decide | exact xs_ (by decide) | exact xc_ (by decide) | exact x31_ (by decide) | omega)) ?_
  refine r_bipush hC dX6_of_4 rfl ?_
  refine r_iload_n hC dX6_of_6 rfl ?_
  refine r_imulE hC ((22 * l)) dX6_of_7 (by first | assumption | decide | exact xs_ (by decide) | exact xc_ (by decide) | exact x31_ (by decide) | omega) (by unfold inR; omega) ?_
  refine r_iload_n hC dX6_of_8 rfl ?_
  refine r_iaddE hC (((22 * l) + f)) dX6_of_9 (by first | assumption | decide | exact xs_ (by decide) | exact xc_ (by decide) | exact x31_ (by decide) | omega) (by unfold inR; omega) ?_
  refine z_iald hM dX6_of_10 rfl (by first | assumption | decide | exact xs_ (by decide) | exact xc_ (by decide) | exact x31_ (by decide) | omega) (by first | assumption | decide | exact xs_ (by decide) | exact xc_ (by decide) | exact x31_ (by decide) | omega) (fun vg h_vg o_vg t_vg => ?_)
  refine y_iret hK rfl dX6_of_11 ?_
  exact k _
theorem y_copyLaneG {eb : Bool} {t : Int} {V : Mm} {d : Nat} {P : Option Vl → Mm → Prop} {σ : Mm} {l m : Int} (b_l : 0 ≤ l ∧ l ≤ 6) (b_m : 0 ≤ m ∧ m ≤ 7) {σ0 : Mm} (ht : 6 ≤ t ∧ t ≤ 7) (hS : SB t σ0 V σ) (hX : KX t m V σ) (hFB : FB V σ) (hmt : m ≤ t) (hlm : l ≠ m)  (k : ∀ (v : Int) (ρ : Mm), RS t σ0 (mu (cpM V l m) 7 m 0 v) ρ → P none ρ) : WT (true, eb, true) (d + 3) 253 [vR 30 0, vI l, vI m] σ P := by
  refine WT_in fun K hK => ?_
  have hK : StpY (true, eb, true) cX6_copyLane RX6 (none) (WT (true, eb, true) (d + 2)) P K := hK
  have hM := hK.1
  have hC := hK.1.1
  show K 0 [some (vR 30 0), some (vI l), some (vI m), none] [] σ
  have k16 : σ 31 0 (22 * l + 16) = (if V 11 l 3 = 0 then (0 : Int) else 1) := (hX l (by first | assumption | decide | exact xs_ (by decide) | exact xc_ (by decide) | exact x31_ (by decide) | omega) (by first | assumption | decide | exact xs_ (by decide) | exact xc_ (by decide) | exact x31_ (by decide) | omega) hlm).1
  have k17 : σ 31 0 (22 * l + 17) = 0 := (hX l (by first | assumption | decide | exact xs_ (by decide) | exact xc_ (by decide) | exact x31_ (by decide) | omega) (by first | assumption | decide | exact xs_ (by decide) | exact xc_ (by decide) | exact x31_ (by decide) | omega) hlm).2
  have kxx : KX t m V σ := hX
  have fxx : FX m V σ := hFB.fx m
  refine r_iconst hC dX6_copyLane_0 rfl ?_
  refine r_istore_n hC dX6_copyLane_1 rfl ?_
  refine r_iload_n hC dX6_copyLane_2 rfl ?_
  refine r_bipush hC dX6_copyLane_3 rfl ?_
  refine r_icmp_ge (tgt := 26) hC dX6_copyLane_5 rfl (fun h1 => by omega) (fun h1 => ?_)
  refine r_aload_n hC dX6_copyLane_8 rfl ?_
  refine r_iload_n hC dX6_copyLane_9 rfl ?_
  refine r_iload_n hC dX6_copyLane_10 rfl ?_
  refine r_aload_n hC dX6_copyLane_11 rfl ?_
  refine r_iload_n hC dX6_copyLane_12 rfl ?_
  refine r_iload_n hC dX6_copyLane_13 rfl ?_
  refine z_inv2 hM dX6_copyLane_14 vl_RX6_80 rfl rfl rfl (Nat.le_of_ble_eq_true rfl) (Nat.le_of_ble_eq_true rfl) ?_
  refine y_of (by first | assumption | decide | exact xs_ (by decide) | exact xc_ (by decide) | exact x31_ (by decide) | omega) (by first | assumption | decide | exact xs_ (by decide) | exact xc_ (by decide) | exact x31_ (by decide) | omega) (by first | assumption | decide | exact xs_ (by decide) | exact xc_ (by decide) | exact x31_ (by decide) | omega) (fun o2 => ?_)
  have e3 : σ 31 0 (22 * l + 0) = (V 7 l 1) := (hS.a7 (s := 1) (f := 0) (by first | assumption | decide | exact xs_ (by decide) | exact xc_ (by decide) | exact x31_ (by decide) | omega) (by first | assumption | decide | exact xs_ (by decide) | exact xc_ (by decide) | exact x31_ (by decide) | omega) (by first | assumption | decide | exact xs_ (by decide) | exact xc_ (by decide) | exact x31_ (by decide) | omega)).trans (rfl)
  rw [e3] at o2 ⊢
  have qo2 : 0 ≤ (V 7 l 1) ∧ (V 7 l 1) ≤ 1 := by have := o2.2 (by first | assumption | decide | exact xs_ (by decide) | exact xc_ (by decide) | exact x31_ (by decide) | omega); omega
  refine z_inv3 hM dX6_copyLane_17 vl_RX6_173 rfl rfl rfl (Nat.le_of_ble_eq_true rfl) (Nat.le_of_ble_eq_true rfl) ?_
  refine y_set (by first | assumption | decide | exact xs_ (by decide) | exact xc_ (by decide) | exact x31_ (by decide) | omega) (by first | assumption | decide | exact xs_ (by decide) | exact xc_ (by decide) | exact x31_ (by decide) | omega) ⟨fun h => by omega, fun h => by omega⟩ ?_
  obtain ⟨ρ4, e_ρ4⟩ : ∃ zz_, zz_ = mu σ 31 0 ((22 * m) + 0) (V 7 l 1) := ⟨_, rfl⟩
  rw [← e_ρ4]
  have Sρ4 : SB t σ0 (mu V 7 m 1 (V 7 l 1)) ρ4 := by rw [e_ρ4, show ((22 * m) + 0) = 22 * m + 0 from by omega]; exact hS.p7 (by first | assumption | decide | exact xs_ (by decide) | exact xc_ (by decide) | exact x31_ (by decide) | omega) (by first | assumption | decide | exact xs_ (by decide) | exact xc_ (by decide) | exact x31_ (by decide) | omega) (by first | assumption | decide | exact xs_ (by decide) | exact xc_ (by decide) | exact x31_ (by decide) | omega)
  have r16a_ρ4 : ρ4 31 0 (22 * l + 16) = (if V 11 l 3 = 0 then (0 : Int) else 1) := by rw [e_ρ4]; exact (mu_ne (by first | assumption | decide | exact xs_ (by decide) | exact xc_ (by decide) | exact x31_ (by decide) | omega)).trans k16
  have r17b_ρ4 : ρ4 31 0 (22 * l + 17) = 0 := by rw [e_ρ4]; exact (mu_ne (by first | assumption | decide | exact xs_ (by decide) | exact xc_ (by decide) | exact x31_ (by decide) | omega)).trans k17
  have Yρ4 : FX m (mu V 7 m 1 (V 7 l 1)) ρ4 := (fxx).e (fun m a b c => by rw [e_ρ4]; exact mu_ne (by first | assumption | decide | exact xs_ (by decide) | exact xc_ (by decide) | exact x31_ (by decide) | omega)) (fun m y c => mu_ne (by first | assumption | decide | exact xs_ (by decide) | exact xc_ (by decide) | exact x31_ (by decide) | omega))
  have Xρ4 : KX t m (mu V 7 m 1 (V 7 l 1)) ρ4 := (kxx).e (fun m a b c => by rw [e_ρ4]; exact ⟨mu_ne (by first | assumption | decide | exact xs_ (by decide) | exact xc_ (by decide) | exact x31_ (by decide) | omega), mu_ne (by first | assumption | decide | exact xs_ (by decide) | exact xc_ (by decide) | exact x31_ (by decide) | omega)⟩) (fun m c => mu_ne (by first | assumption | decide | exact xs_ (by decide) | exact xc_ (by decide) | exact x31_ (by decide) | omega))
  refine r_iincE hC (1) dX6_copyLane_20 rfl rfl (by first | assumption | decide | exact xs_ (by decide) | exact xc_ (by decide) | exact x31_ (by decide) | omega) (by unfold inR; omega) ?_
  refine r_goto (tgt := 2) hC dX6_copyLane_23 rfl ?_
  refine r_iload_n hC dX6_copyLane_2 rfl ?_
  refine r_bipush hC dX6_copyLane_3 rfl ?_
  refine r_icmp_ge (tgt := 26) hC dX6_copyLane_5 rfl (fun h5 => by omega) (fun h5 => ?_)
  refine r_aload_n hC dX6_copyLane_8 rfl ?_
  refine r_iload_n hC dX6_copyLane_9 rfl ?_
  refine r_iload_n hC dX6_copyLane_10 rfl ?_
  refine r_aload_n hC dX6_copyLane_11 rfl ?_
  refine r_iload_n hC dX6_copyLane_12 rfl ?_
  refine r_iload_n hC dX6_copyLane_13 rfl ?_
  refine z_inv2 hM dX6_copyLane_14 vl_RX6_80 rfl rfl rfl (Nat.le_of_ble_eq_true rfl) (Nat.le_of_ble_eq_true rfl) ?_
  refine y_of (by first | assumption | decide | exact xs_ (by decide) | exact xc_ (by decide) | exact x31_ (by decide) | omega) (by first | assumption | decide | exact xs_ (by decide) | exact xc_ (by decide) | exact x31_ (by decide) | omega) (by first | assumption | decide | exact xs_ (by decide) | exact xc_ (by decide) | exact x31_ (by decide) | omega) (fun o6 => ?_)
  have e7 : ρ4 31 0 (22 * l + 1) = (V 7 l 2) := (Sρ4.a7 (s := 2) (f := 1) (by first | assumption | decide | exact xs_ (by decide) | exact xc_ (by decide) | exact x31_ (by decide) | omega) (by first | assumption | decide | exact xs_ (by decide) | exact xc_ (by decide) | exact x31_ (by decide) | omega) (by first | assumption | decide | exact xs_ (by decide) | exact xc_ (by decide) | exact x31_ (by decide) | omega)).trans ((mu_ne (by first | assumption | decide | exact xs_ (by decide) | exact xc_ (by decide) | exact x31_ (by decide) | omega)).trans (rfl))
  rw [e7] at o6 ⊢
  refine z_inv3 hM dX6_copyLane_17 vl_RX6_173 rfl rfl rfl (Nat.le_of_ble_eq_true rfl) (Nat.le_of_ble_eq_true rfl) ?_
  refine y_set (by first | assumption | decide | exact xs_ (by decide) | exact xc_ (by decide) | exact x31_ (by decide) | omega) (by first | assumption | decide | exact xs_ (by decide) | exact xc_ (by decide) | exact x31_ (by decide) | omega) ⟨fun h => by omega, fun h => by omega⟩ ?_
  obtain ⟨ρ8, e_ρ8⟩ : ∃ zz_, zz_ = mu ρ4 31 0 ((22 * m) + 1) (V 7 l 2) := ⟨_, rfl⟩
  rw [← e_ρ8]
  have Sρ8 : SB t σ0 (mu (mu V 7 m 1 (V 7 l 1)) 7 m 2 (V 7 l 2)) ρ8 := by rw [e_ρ8, show ((22 * m) + 1) = 22 * m + 1 from by omega]; exact Sρ4.p7 (by first | assumption | decide | exact xs_ (by decide) | exact xc_ (by decide) | exact x31_ (by decide) | omega) (by first | assumption | decide | exact xs_ (by decide) | exact xc_ (by decide) | exact x31_ (by decide) | omega) (by first | assumption | decide | exact xs_ (by decide) | exact xc_ (by decide) | exact x31_ (by decide) | omega)
  have r16a_ρ8 : ρ8 31 0 (22 * l + 16) = (if V 11 l 3 = 0 then (0 : Int) else 1) := by rw [e_ρ8]; exact (mu_ne (by first | assumption | decide | exact xs_ (by decide) | exact xc_ (by decide) | exact x31_ (by decide) | omega)).trans r16a_ρ4
  have r17b_ρ8 : ρ8 31 0 (22 * l + 17) = 0 := by rw [e_ρ8]; exact (mu_ne (by first | assumption | decide | exact xs_ (by decide) | exact xc_ (by decide) | exact x31_ (by decide) | omega)).trans r17b_ρ4
  have Yρ8 : FX m (mu (mu V 7 m 1 (V 7 l 1)) 7 m 2 (V 7 l 2)) ρ8 := (Yρ4).e (fun m a b c => by rw [e_ρ8]; exact mu_ne (by first | assumption | decide | exact xs_ (by decide) | exact xc_ (by decide) | exact x31_ (by decide) | omega)) (fun m y c => mu_ne (by first | assumption | decide | exact xs_ (by decide) | exact xc_ (by decide) | exact x31_ (by decide) | omega))
  have Xρ8 : KX t m (mu (mu V 7 m 1 (V 7 l 1)) 7 m 2 (V 7 l 2)) ρ8 := (Xρ4).e (fun m a b c => by rw [e_ρ8]; exact ⟨mu_ne (by first | assumption | decide | exact xs_ (by decide) | exact xc_ (by decide) | exact x31_ (by decide) | omega), mu_ne (by first | assumption | decide | exact xs_ (by decide) | exact xc_ (by decide) | exact x31_ (by decide) | omega)⟩) (fun m c => mu_ne (by first | assumption | decide | exact xs_ (by decide) | exact xc_ (by decide) | exact x31_ (by decide) | omega))
  refine r_iincE hC (2) dX6_copyLane_20 rfl rfl (by first | assumption | decide | exact xs_ (by decide) | exact xc_ (by decide) | exact x31_ (by decide) | omega) (by unfold inR; omega) ?_
  show K _ [_, _, _, _] _ _
  refine r_goto (tgt := 2) hC dX6_copyLane_23 rfl ?_
  refine r_iload_n hC dX6_copyLane_2 rfl ?_
  refine r_bipush hC dX6_copyLane_3 rfl ?_
  refine r_icmp_ge (tgt := 26) hC dX6_copyLane_5 rfl (fun h9 => by omega) (fun h9 => ?_)
  refine r_aload_n hC dX6_copyLane_8 rfl ?_
  refine r_iload_n hC dX6_copyLane_9 rfl ?_
  refine r_iload_n hC dX6_copyLane_10 rfl ?_
  refine r_aload_n hC dX6_copyLane_11 rfl ?_
  refine r_iload_n hC dX6_copyLane_12 rfl ?_
  refine r_iload_n hC dX6_copyLane_13 rfl ?_
  refine z_inv2 hM dX6_copyLane_14 vl_RX6_80 rfl rfl rfl (Nat.le_of_ble_eq_true rfl) (Nat.le_of_ble_eq_true rfl) ?_
  refine y_of (by first | assumption | decide | exact xs_ (by decide) | exact xc_ (by decide) | exact x31_ (by decide) | omega) (by first | assumption | decide | exact xs_ (by decide) | exact xc_ (by decide) | exact x31_ (by decide) | omega) (by first | assumption | decide | exact xs_ (by decide) | exact xc_ (by decide) | exact x31_ (by decide) | omega) (fun o10 => ?_)
  have e11 : ρ8 31 0 (22 * l + 2) = (V 7 l 3) := (Sρ8.a7 (s := 3) (f := 2) (by first | assumption | decide | exact xs_ (by decide) | exact xc_ (by decide) | exact x31_ (by decide) | omega) (by first | assumption | decide | exact xs_ (by decide) | exact xc_ (by decide) | exact x31_ (by decide) | omega) (by first | assumption | decide | exact xs_ (by decide) | exact xc_ (by decide) | exact x31_ (by decide) | omega)).trans ((mu_ne (by first | assumption | decide | exact xs_ (by decide) | exact xc_ (by decide) | exact x31_ (by decide) | omega)).trans ((mu_ne (by first | assumption | decide | exact xs_ (by decide) | exact xc_ (by decide) | exact x31_ (by decide) | omega)).trans (rfl)))
  rw [e11] at o10 ⊢
  refine z_inv3 hM dX6_copyLane_17 vl_RX6_173 rfl rfl rfl (Nat.le_of_ble_eq_true rfl) (Nat.le_of_ble_eq_true rfl) ?_
  refine y_set (by first | assumption | decide | exact xs_ (by decide) | exact xc_ (by decide) | exact x31_ (by decide) | omega) (by first | assumption | decide | exact xs_ (by decide) | exact xc_ (by decide) | exact x31_ (by decide) | omega) ⟨fun h => by omega, fun h => by omega⟩ ?_
  obtain ⟨ρ12, e_ρ12⟩ : ∃ zz_, zz_ = mu ρ8 31 0 ((22 * m) + 2) (V 7 l 3) := ⟨_, rfl⟩
  rw [← e_ρ12]
  have Sρ12 : SB t σ0 (mu (mu (mu V 7 m 1 (V 7 l 1)) 7 m 2 (V 7 l 2)) 7 m 3 (V 7 l 3)) ρ12 := by rw [e_ρ12, show ((22 * m) + 2) = 22 * m + 2 from by omega]; exact Sρ8.p7 (by first | assumption | decide | exact xs_ (by decide) | exact xc_ (by decide) | exact x31_ (by decide) | omega) (by first | assumption | decide | exact xs_ (by decide) | exact xc_ (by decide) | exact x31_ (by decide) | omega) (by first | assumption | decide | exact xs_ (by decide) | exact xc_ (by decide) | exact x31_ (by decide) | omega)
  have r16a_ρ12 : ρ12 31 0 (22 * l + 16) = (if V 11 l 3 = 0 then (0 : Int) else 1) := by rw [e_ρ12]; exact (mu_ne (by first | assumption | decide | exact xs_ (by decide) | exact xc_ (by decide) | exact x31_ (by decide) | omega)).trans r16a_ρ8
  have r17b_ρ12 : ρ12 31 0 (22 * l + 17) = 0 := by rw [e_ρ12]; exact (mu_ne (by first | assumption | decide | exact xs_ (by decide) | exact xc_ (by decide) | exact x31_ (by decide) | omega)).trans r17b_ρ8
  have Yρ12 : FX m (mu (mu (mu V 7 m 1 (V 7 l 1)) 7 m 2 (V 7 l 2)) 7 m 3 (V 7 l 3)) ρ12 := (Yρ8).e (fun m a b c => by rw [e_ρ12]; exact mu_ne (by first | assumption | decide | exact xs_ (by decide) | exact xc_ (by decide) | exact x31_ (by decide) | omega)) (fun m y c => mu_ne (by first | assumption | decide | exact xs_ (by decide) | exact xc_ (by decide) | exact x31_ (by decide) | omega))
  have Xρ12 : KX t m (mu (mu (mu V 7 m 1 (V 7 l 1)) 7 m 2 (V 7 l 2)) 7 m 3 (V 7 l 3)) ρ12 := (Xρ8).e (fun m a b c => by rw [e_ρ12]; exact ⟨mu_ne (by first | assumption | decide | exact xs_ (by decide) | exact xc_ (by decide) | exact x31_ (by decide) | omega), mu_ne (by first | assumption | decide | exact xs_ (by decide) | exact xc_ (by decide) | exact x31_ (by decide) | omega)⟩) (fun m c => mu_ne (by first | assumption | decide | exact xs_ (by decide) | exact xc_ (by decide) | exact x31_ (by decide) | omega))
  refine r_iincE hC (3) dX6_copyLane_20 rfl rfl (by first | assumption | decide | exact xs_ (by decide) | exact xc_ (by decide) | exact x31_ (by decide) | omega) (by unfold inR; omega) ?_
  refine r_goto (tgt := 2) hC dX6_copyLane_23 rfl ?_
  refine r_iload_n hC dX6_copyLane_2 rfl ?_
  refine r_bipush hC dX6_copyLane_3 rfl ?_
  refine r_icmp_ge (tgt := 26) hC dX6_copyLane_5 rfl (fun h13 => by omega) (fun h13 => ?_)
  refine r_aload_n hC dX6_copyLane_8 rfl ?_
  refine r_iload_n hC dX6_copyLane_9 rfl ?_
  refine r_iload_n hC dX6_copyLane_10 rfl ?_
  refine r_aload_n hC dX6_copyLane_11 rfl ?_
  refine r_iload_n hC dX6_copyLane_12 rfl ?_
  refine r_iload_n hC dX6_copyLane_13 rfl ?_
  refine z_inv2 hM dX6_copyLane_14 vl_RX6_80 rfl rfl rfl (Nat.le_of_ble_eq_true rfl) (Nat.le_of_ble_eq_true rfl) ?_
  refine y_of (by first | assumption | decide | exact xs_ (by decide) | exact xc_ (by decide) | exact x31_ (by decide) | omega) (by first | assumption | decide | exact xs_ (by decide) | exact xc_ (by decide) | exact x31_ (by decide) | omega) (by first | assumption | decide | exact xs_ (by decide) | exact xc_ (by decide) | exact x31_ (by decide) | omega) (fun o14 => ?_)
  have e15 : ρ12 31 0 (22 * l + 3) = (V 7 l 4) := (Sρ12.a7 (s := 4) (f := 3) (by first | assumption | decide | exact xs_ (by decide) | exact xc_ (by decide) | exact x31_ (by decide) | omega) (by first | assumption | decide | exact xs_ (by decide) | exact xc_ (by decide) | exact x31_ (by decide) | omega) (by first | assumption | decide | exact xs_ (by decide) | exact xc_ (by decide) | exact x31_ (by decide) | omega)).trans ((mu_ne (by first | assumption | decide | exact xs_ (by decide) | exact xc_ (by decide) | exact x31_ (by decide) | omega)).trans ((mu_ne (by first | assumption | decide | exact xs_ (by decide) | exact xc_ (by decide) | exact x31_ (by decide) | omega)).trans ((mu_ne (by first | assumption | decide | exact xs_ (by decide) | exact xc_ (by decide) | exact x31_ (by decide) | omega)).trans (rfl))))
  rw [e15] at o14 ⊢
  refine z_inv3 hM dX6_copyLane_17 vl_RX6_173 rfl rfl rfl (Nat.le_of_ble_eq_true rfl) (Nat.le_of_ble_eq_true rfl) ?_
  refine y_set (by first | assumption | decide | exact xs_ (by decide) | exact xc_ (by decide) | exact x31_ (by decide) | omega) (by first | assumption | decide | exact xs_ (by decide) | exact xc_ (by decide) | exact x31_ (by decide) | omega) ⟨fun h => by omega, fun h => by omega⟩ ?_
  obtain ⟨ρ16, e_ρ16⟩ : ∃ zz_, zz_ = mu ρ12 31 0 ((22 * m) + 3) (V 7 l 4) := ⟨_, rfl⟩
  rw [← e_ρ16]
  have Sρ16 : SB t σ0 (mu (mu (mu (mu V 7 m 1 (V 7 l 1)) 7 m 2 (V 7 l 2)) 7 m 3 (V 7 l 3)) 7 m 4 (V 7 l 4)) ρ16 := by rw [e_ρ16, show ((22 * m) + 3) = 22 * m + 3 from by omega]; exact Sρ12.p7 (by first | assumption | decide | exact xs_ (by decide) | exact xc_ (by decide) | exact x31_ (by decide) | omega) (by first | assumption | decide | exact xs_ (by decide) | exact xc_ (by decide) | exact x31_ (by decide) | omega) (by first | assumption | decide | exact xs_ (by decide) | exact xc_ (by decide) | exact x31_ (by decide) | omega)
  have r16a_ρ16 : ρ16 31 0 (22 * l + 16) = (if V 11 l 3 = 0 then (0 : Int) else 1) := by rw [e_ρ16]; exact (mu_ne (by first | assumption | decide | exact xs_ (by decide) | exact xc_ (by decide) | exact x31_ (by decide) | omega)).trans r16a_ρ12
  have r17b_ρ16 : ρ16 31 0 (22 * l + 17) = 0 := by rw [e_ρ16]; exact (mu_ne (by first | assumption | decide | exact xs_ (by decide) | exact xc_ (by decide) | exact x31_ (by decide) | omega)).trans r17b_ρ12
  have Yρ16 : FX m (mu (mu (mu (mu V 7 m 1 (V 7 l 1)) 7 m 2 (V 7 l 2)) 7 m 3 (V 7 l 3)) 7 m 4 (V 7 l 4)) ρ16 := (Yρ12).e (fun m a b c => by rw [e_ρ16]; exact mu_ne (by first | assumption | decide | exact xs_ (by decide) | exact xc_ (by decide) | exact x31_ (by decide) | omega)) (fun m y c => mu_ne (by first | assumption | decide | exact xs_ (by decide) | exact xc_ (by decide) | exact x31_ (by decide) | omega))
  have Xρ16 : KX t m (mu (mu (mu (mu V 7 m 1 (V 7 l 1)) 7 m 2 (V 7 l 2)) 7 m 3 (V 7 l 3)) 7 m 4 (V 7 l 4)) ρ16 := (Xρ12).e (fun m a b c => by rw [e_ρ16]; exact ⟨mu_ne (by first | assumption | decide | exact xs_ (by decide) | exact xc_ (by decide) | exact x31_ (by decide) | omega), mu_ne (by first | assumption | decide | exact xs_ (by decide) | exact xc_ (by decide) | exact x31_ (by decide) | omega)⟩) (fun m c => mu_ne (by first | assumption | decide | exact xs_ (by decide) | exact xc_ (by decide) | exact x31_ (by decide) | omega))
  refine r_iincE hC (4) dX6_copyLane_20 rfl rfl (by first | assumption | decide | exact xs_ (by decide) | exact xc_ (by decide) | exact x31_ (by decide) | omega) (by unfold inR; omega) ?_
  refine r_goto (tgt := 2) hC dX6_copyLane_23 rfl ?_
  refine r_iload_n hC dX6_copyLane_2 rfl ?_
  refine r_bipush hC dX6_copyLane_3 rfl ?_
  refine r_icmp_ge (tgt := 26) hC dX6_copyLane_5 rfl (fun h17 => by omega) (fun h17 => ?_)
  refine r_aload_n hC dX6_copyLane_8 rfl ?_
  refine r_iload_n hC dX6_copyLane_9 rfl ?_
  refine r_iload_n hC dX6_copyLane_10 rfl ?_
  refine r_aload_n hC dX6_copyLane_11 rfl ?_
  refine r_iload_n hC dX6_copyLane_12 rfl ?_
  refine r_iload_n hC dX6_copyLane_13 rfl ?_
  refine z_inv2 hM dX6_copyLane_14 vl_RX6_80 rfl rfl rfl (Nat.le_of_ble_eq_true rfl) (Nat.le_of_ble_eq_true rfl) ?_
  refine y_of (by first | assumption | decide | exact xs_ (by decide) | exact xc_ (by decide) | exact x31_ (by decide) | omega) (by first | assumption | decide | exact xs_ (by decide) | exact xc_ (by decide) | exact x31_ (by decide) | omega) (by first | assumption | decide | exact xs_ (by decide) | exact xc_ (by decide) | exact x31_ (by decide) | omega) (fun o18 => ?_)
  have e19 : ρ16 31 0 (22 * l + 4) = (V 7 l 5) := (Sρ16.a7 (s := 5) (f := 4) (by first | assumption | decide | exact xs_ (by decide) | exact xc_ (by decide) | exact x31_ (by decide) | omega) (by first | assumption | decide | exact xs_ (by decide) | exact xc_ (by decide) | exact x31_ (by decide) | omega) (by first | assumption | decide | exact xs_ (by decide) | exact xc_ (by decide) | exact x31_ (by decide) | omega)).trans ((mu_ne (by first | assumption | decide | exact xs_ (by decide) | exact xc_ (by decide) | exact x31_ (by decide) | omega)).trans ((mu_ne (by first | assumption | decide | exact xs_ (by decide) | exact xc_ (by decide) | exact x31_ (by decide) | omega)).trans ((mu_ne (by first | assumption | decide | exact xs_ (by decide) | exact xc_ (by decide) | exact x31_ (by decide) | omega)).trans ((mu_ne (by first | assumption | decide | exact xs_ (by decide) | exact xc_ (by decide) | exact x31_ (by decide) | omega)).trans (rfl)))))
  rw [e19] at o18 ⊢
  refine z_inv3 hM dX6_copyLane_17 vl_RX6_173 rfl rfl rfl (Nat.le_of_ble_eq_true rfl) (Nat.le_of_ble_eq_true rfl) ?_
  refine y_set (by first | assumption | decide | exact xs_ (by decide) | exact xc_ (by decide) | exact x31_ (by decide) | omega) (by first | assumption | decide | exact xs_ (by decide) | exact xc_ (by decide) | exact x31_ (by decide) | omega) ⟨fun h => by omega, fun h => by omega⟩ ?_
  obtain ⟨ρ20, e_ρ20⟩ : ∃ zz_, zz_ = mu ρ16 31 0 ((22 * m) + 4) (V 7 l 5) := ⟨_, rfl⟩
  rw [← e_ρ20]
  have Sρ20 : SB t σ0 (mu (mu (mu (mu (mu V 7 m 1 (V 7 l 1)) 7 m 2 (V 7 l 2)) 7 m 3 (V 7 l 3)) 7 m 4 (V 7 l 4)) 7 m 5 (V 7 l 5)) ρ20 := by rw [e_ρ20, show ((22 * m) + 4) = 22 * m + 4 from by omega]; exact Sρ16.p7 (by first | assumption | decide | exact xs_ (by decide) | exact xc_ (by decide) | exact x31_ (by decide) | omega) (by first | assumption | decide | exact xs_ (by decide) | exact xc_ (by decide) | exact x31_ (by decide) | omega) (by first | assumption | decide | exact xs_ (by decide) | exact xc_ (by decide) | exact x31_ (by decide) | omega)
  have r16a_ρ20 : ρ20 31 0 (22 * l + 16) = (if V 11 l 3 = 0 then (0 : Int) else 1) := by rw [e_ρ20]; exact (mu_ne (by first | assumption | decide | exact xs_ (by decide) | exact xc_ (by decide) | exact x31_ (by decide) | omega)).trans r16a_ρ16
  have r17b_ρ20 : ρ20 31 0 (22 * l + 17) = 0 := by rw [e_ρ20]; exact (mu_ne (by first | assumption | decide | exact xs_ (by decide) | exact xc_ (by decide) | exact x31_ (by decide) | omega)).trans r17b_ρ16
  have Yρ20 : FX m (mu (mu (mu (mu (mu V 7 m 1 (V 7 l 1)) 7 m 2 (V 7 l 2)) 7 m 3 (V 7 l 3)) 7 m 4 (V 7 l 4)) 7 m 5 (V 7 l 5)) ρ20 := (Yρ16).e (fun m a b c => by rw [e_ρ20]; exact mu_ne (by first | assumption | decide | exact xs_ (by decide) | exact xc_ (by decide) | exact x31_ (by decide) | omega)) (fun m y c => mu_ne (by first | assumption | decide | exact xs_ (by decide) | exact xc_ (by decide) | exact x31_ (by decide) | omega))
  have Xρ20 : KX t m (mu (mu (mu (mu (mu V 7 m 1 (V 7 l 1)) 7 m 2 (V 7 l 2)) 7 m 3 (V 7 l 3)) 7 m 4 (V 7 l 4)) 7 m 5 (V 7 l 5)) ρ20 := (Xρ16).e (fun m a b c => by rw [e_ρ20]; exact ⟨mu_ne (by first | assumption | decide | exact xs_ (by decide) | exact xc_ (by decide) | exact x31_ (by decide) | omega), mu_ne (by first | assumption | decide | exact xs_ (by decide) | exact xc_ (by decide) | exact x31_ (by decide) | omega)⟩) (fun m c => mu_ne (by first | assumption | decide | exact xs_ (by decide) | exact xc_ (by decide) | exact x31_ (by decide) | omega))
  refine r_iincE hC (5) dX6_copyLane_20 rfl rfl (by first | assumption | decide | exact xs_ (by decide) | exact xc_ (by decide) | exact x31_ (by decide) | omega) (by unfold inR; omega) ?_
  show K _ [_, _, _, _] _ _
  refine r_goto (tgt := 2) hC dX6_copyLane_23 rfl ?_
  refine r_iload_n hC dX6_copyLane_2 rfl ?_
  refine r_bipush hC dX6_copyLane_3 rfl ?_
  refine r_icmp_ge (tgt := 26) hC dX6_copyLane_5 rfl (fun h21 => by omega) (fun h21 => ?_)
  refine r_aload_n hC dX6_copyLane_8 rfl ?_
  refine r_iload_n hC dX6_copyLane_9 rfl ?_
  refine r_iload_n hC dX6_copyLane_10 rfl ?_
  refine r_aload_n hC dX6_copyLane_11 rfl ?_
  refine r_iload_n hC dX6_copyLane_12 rfl ?_
  refine r_iload_n hC dX6_copyLane_13 rfl ?_
  refine z_inv2 hM dX6_copyLane_14 vl_RX6_80 rfl rfl rfl (Nat.le_of_ble_eq_true rfl) (Nat.le_of_ble_eq_true rfl) ?_
  refine y_of (by first | assumption | decide | exact xs_ (by decide) | exact xc_ (by decide) | exact x31_ (by decide) | omega) (by first | assumption | decide | exact xs_ (by decide) | exact xc_ (by decide) | exact x31_ (by decide) | omega) (by first | assumption | decide | exact xs_ (by decide) | exact xc_ (by decide) | exact x31_ (by decide) | omega) (fun o22 => ?_)
  have e23 : ρ20 31 0 (22 * l + 5) = (V 7 l 6) := (Sρ20.a7 (s := 6) (f := 5) (by first | assumption | decide | exact xs_ (by decide) | exact xc_ (by decide) | exact x31_ (by decide) | omega) (by first | assumption | decide | exact xs_ (by decide) | exact xc_ (by decide) | exact x31_ (by decide) | omega) (by first | assumption | decide | exact xs_ (by decide) | exact xc_ (by decide) | exact x31_ (by decide) | omega)).trans ((mu_ne (by first | assumption | decide | exact xs_ (by decide) | exact xc_ (by decide) | exact x31_ (by decide) | omega)).trans ((mu_ne (by first | assumption | decide | exact xs_ (by decide) | exact xc_ (by decide) | exact x31_ (by decide) | omega)).trans ((mu_ne (by first | assumption | decide | exact xs_ (by decide) | exact xc_ (by decide) | exact x31_ (by decide) | omega)).trans ((mu_ne (by first | assumption | decide | exact xs_ (by decide) | exact xc_ (by decide) | exact x31_ (by decide) | omega)).trans ((mu_ne (by first | assumption | decide | exact xs_ (by decide) | exact xc_ (by decide) | exact x31_ (by decide) | omega)).trans (rfl))))))
  rw [e23] at o22 ⊢
  have qo22 : 0 ≤ (V 7 l 6) ∧ (V 7 l 6) ≤ 121 := o22.1 (by first | assumption | decide | exact xs_ (by decide) | exact xc_ (by decide) | exact x31_ (by decide) | omega)
  refine z_inv3 hM dX6_copyLane_17 vl_RX6_173 rfl rfl rfl (Nat.le_of_ble_eq_true rfl) (Nat.le_of_ble_eq_true rfl) ?_
  refine y_set (by first | assumption | decide | exact xs_ (by decide) | exact xc_ (by decide) | exact x31_ (by decide) | omega) (by first | assumption | decide | exact xs_ (by decide) | exact xc_ (by decide) | exact x31_ (by decide) | omega) ⟨fun h => by omega, fun h => by omega⟩ ?_
  obtain ⟨ρ24, e_ρ24⟩ : ∃ zz_, zz_ = mu ρ20 31 0 ((22 * m) + 5) (V 7 l 6) := ⟨_, rfl⟩
  rw [← e_ρ24]
  have Sρ24 : SB t σ0 (mu (mu (mu (mu (mu (mu V 7 m 1 (V 7 l 1)) 7 m 2 (V 7 l 2)) 7 m 3 (V 7 l 3)) 7 m 4 (V 7 l 4)) 7 m 5 (V 7 l 5)) 7 m 6 (V 7 l 6)) ρ24 := by rw [e_ρ24, show ((22 * m) + 5) = 22 * m + 5 from by omega]; exact Sρ20.p7 (by first | assumption | decide | exact xs_ (by decide) | exact xc_ (by decide) | exact x31_ (by decide) | omega) (by first | assumption | decide | exact xs_ (by decide) | exact xc_ (by decide) | exact x31_ (by decide) | omega) (by first | assumption | decide | exact xs_ (by decide) | exact xc_ (by decide) | exact x31_ (by decide) | omega)
  have r16a_ρ24 : ρ24 31 0 (22 * l + 16) = (if V 11 l 3 = 0 then (0 : Int) else 1) := by rw [e_ρ24]; exact (mu_ne (by first | assumption | decide | exact xs_ (by decide) | exact xc_ (by decide) | exact x31_ (by decide) | omega)).trans r16a_ρ20
  have r17b_ρ24 : ρ24 31 0 (22 * l + 17) = 0 := by rw [e_ρ24]; exact (mu_ne (by first | assumption | decide | exact xs_ (by decide) | exact xc_ (by decide) | exact x31_ (by decide) | omega)).trans r17b_ρ20
  have Yρ24 : FX m (mu (mu (mu (mu (mu (mu V 7 m 1 (V 7 l 1)) 7 m 2 (V 7 l 2)) 7 m 3 (V 7 l 3)) 7 m 4 (V 7 l 4)) 7 m 5 (V 7 l 5)) 7 m 6 (V 7 l 6)) ρ24 := (Yρ20).e (fun m a b c => by rw [e_ρ24]; exact mu_ne (by first | assumption | decide | exact xs_ (by decide) | exact xc_ (by decide) | exact x31_ (by decide) | omega)) (fun m y c => mu_ne (by first | assumption | decide | exact xs_ (by decide) | exact xc_ (by decide) | exact x31_ (by decide) | omega))
  have Xρ24 : KX t m (mu (mu (mu (mu (mu (mu V 7 m 1 (V 7 l 1)) 7 m 2 (V 7 l 2)) 7 m 3 (V 7 l 3)) 7 m 4 (V 7 l 4)) 7 m 5 (V 7 l 5)) 7 m 6 (V 7 l 6)) ρ24 := (Xρ20).e (fun m a b c => by rw [e_ρ24]; exact ⟨mu_ne (by first | assumption | decide | exact xs_ (by decide) | exact xc_ (by decide) | exact x31_ (by decide) | omega), mu_ne (by first | assumption | decide | exact xs_ (by decide) | exact xc_ (by decide) | exact x31_ (by decide) | omega)⟩) (fun m c => mu_ne (by first | assumption | decide | exact xs_ (by decide) | exact xc_ (by decide) | exact x31_ (by decide) | omega))
  refine r_iincE hC (6) dX6_copyLane_20 rfl rfl (by first | assumption | decide | exact xs_ (by decide) | exact xc_ (by decide) | exact x31_ (by decide) | omega) (by unfold inR; omega) ?_
  refine r_goto (tgt := 2) hC dX6_copyLane_23 rfl ?_
  refine r_iload_n hC dX6_copyLane_2 rfl ?_
  refine r_bipush hC dX6_copyLane_3 rfl ?_
  refine r_icmp_ge (tgt := 26) hC dX6_copyLane_5 rfl (fun h25 => by omega) (fun h25 => ?_)
  refine r_aload_n hC dX6_copyLane_8 rfl ?_
  refine r_iload_n hC dX6_copyLane_9 rfl ?_
  refine r_iload_n hC dX6_copyLane_10 rfl ?_
  refine r_aload_n hC dX6_copyLane_11 rfl ?_
  refine r_iload_n hC dX6_copyLane_12 rfl ?_
  refine r_iload_n hC dX6_copyLane_13 rfl ?_
  refine z_inv2 hM dX6_copyLane_14 vl_RX6_80 rfl rfl rfl (Nat.le_of_ble_eq_true rfl) (Nat.le_of_ble_eq_true rfl) ?_
  refine y_of (by first | assumption | decide | exact xs_ (by decide) | exact xc_ (by decide) | exact x31_ (by decide) | omega) (by first | assumption | decide | exact xs_ (by decide) | exact xc_ (by decide) | exact x31_ (by decide) | omega) (by first | assumption | decide | exact xs_ (by decide) | exact xc_ (by decide) | exact x31_ (by decide) | omega) (fun o26 => ?_)
  have e27 : ρ24 31 0 (22 * l + 6) = (V 7 l 10) := (Sρ24.a7 (s := 10) (f := 6) (by first | assumption | decide | exact xs_ (by decide) | exact xc_ (by decide) | exact x31_ (by decide) | omega) (by first | assumption | decide | exact xs_ (by decide) | exact xc_ (by decide) | exact x31_ (by decide) | omega) (by first | assumption | decide | exact xs_ (by decide) | exact xc_ (by decide) | exact x31_ (by decide) | omega)).trans ((mu_ne (by first | assumption | decide | exact xs_ (by decide) | exact xc_ (by decide) | exact x31_ (by decide) | omega)).trans ((mu_ne (by first | assumption | decide | exact xs_ (by decide) | exact xc_ (by decide) | exact x31_ (by decide) | omega)).trans ((mu_ne (by first | assumption | decide | exact xs_ (by decide) | exact xc_ (by decide) | exact x31_ (by decide) | omega)).trans ((mu_ne (by first | assumption | decide | exact xs_ (by decide) | exact xc_ (by decide) | exact x31_ (by decide) | omega)).trans ((mu_ne (by first | assumption | decide | exact xs_ (by decide) | exact xc_ (by decide) | exact x31_ (by decide) | omega)).trans ((mu_ne (by first | assumption | decide | exact xs_ (by decide) | exact xc_ (by decide) | exact x31_ (by decide) | omega)).trans (rfl)))))))
  rw [e27] at o26 ⊢
  refine z_inv3 hM dX6_copyLane_17 vl_RX6_173 rfl rfl rfl (Nat.le_of_ble_eq_true rfl) (Nat.le_of_ble_eq_true rfl) ?_
  refine y_set (by first | assumption | decide | exact xs_ (by decide) | exact xc_ (by decide) | exact x31_ (by decide) | omega) (by first | assumption | decide | exact xs_ (by decide) | exact xc_ (by decide) | exact x31_ (by decide) | omega) ⟨fun h => by omega, fun h => by omega⟩ ?_
  obtain ⟨ρ28, e_ρ28⟩ : ∃ zz_, zz_ = mu ρ24 31 0 ((22 * m) + 6) (V 7 l 10) := ⟨_, rfl⟩
  rw [← e_ρ28]
  have Sρ28 : SB t σ0 (mu (mu (mu (mu (mu (mu (mu V 7 m 1 (V 7 l 1)) 7 m 2 (V 7 l 2)) 7 m 3 (V 7 l 3)) 7 m 4 (V 7 l 4)) 7 m 5 (V 7 l 5)) 7 m 6 (V 7 l 6)) 7 m 10 (V 7 l 10)) ρ28 := by rw [e_ρ28, show ((22 * m) + 6) = 22 * m + 6 from by omega]; exact Sρ24.p7 (by first | assumption | decide | exact xs_ (by decide) | exact xc_ (by decide) | exact x31_ (by decide) | omega) (by first | assumption | decide | exact xs_ (by decide) | exact xc_ (by decide) | exact x31_ (by decide) | omega) (by first | assumption | decide | exact xs_ (by decide) | exact xc_ (by decide) | exact x31_ (by decide) | omega)
  have r16a_ρ28 : ρ28 31 0 (22 * l + 16) = (if V 11 l 3 = 0 then (0 : Int) else 1) := by rw [e_ρ28]; exact (mu_ne (by first | assumption | decide | exact xs_ (by decide) | exact xc_ (by decide) | exact x31_ (by decide) | omega)).trans r16a_ρ24
  have r17b_ρ28 : ρ28 31 0 (22 * l + 17) = 0 := by rw [e_ρ28]; exact (mu_ne (by first | assumption | decide | exact xs_ (by decide) | exact xc_ (by decide) | exact x31_ (by decide) | omega)).trans r17b_ρ24
  have Yρ28 : FX m (mu (mu (mu (mu (mu (mu (mu V 7 m 1 (V 7 l 1)) 7 m 2 (V 7 l 2)) 7 m 3 (V 7 l 3)) 7 m 4 (V 7 l 4)) 7 m 5 (V 7 l 5)) 7 m 6 (V 7 l 6)) 7 m 10 (V 7 l 10)) ρ28 := (Yρ24).e (fun m a b c => by rw [e_ρ28]; exact mu_ne (by first | assumption | decide | exact xs_ (by decide) | exact xc_ (by decide) | exact x31_ (by decide) | omega)) (fun m y c => mu_ne (by first | assumption | decide | exact xs_ (by decide) | exact xc_ (by decide) | exact x31_ (by decide) | omega))
  have Xρ28 : KX t m (mu (mu (mu (mu (mu (mu (mu V 7 m 1 (V 7 l 1)) 7 m 2 (V 7 l 2)) 7 m 3 (V 7 l 3)) 7 m 4 (V 7 l 4)) 7 m 5 (V 7 l 5)) 7 m 6 (V 7 l 6)) 7 m 10 (V 7 l 10)) ρ28 := (Xρ24).e (fun m a b c => by rw [e_ρ28]; exact ⟨mu_ne (by first | assumption | decide | exact xs_ (by decide) | exact xc_ (by decide) | exact x31_ (by decide) | omega), mu_ne (by first | assumption | decide | exact xs_ (by decide) | exact xc_ (by decide) | exact x31_ (by decide) | omega)⟩) (fun m c => mu_ne (by first | assumption | decide | exact xs_ (by decide) | exact xc_ (by decide) | exact x31_ (by decide) | omega))
  refine r_iincE hC (7) dX6_copyLane_20 rfl rfl (by first | assumption | decide | exact xs_ (by decide) | exact xc_ (by decide) | exact x31_ (by decide) | omega) (by unfold inR; omega) ?_
  refine r_goto (tgt := 2) hC dX6_copyLane_23 rfl ?_
  refine r_iload_n hC dX6_copyLane_2 rfl ?_
  refine r_bipush hC dX6_copyLane_3 rfl ?_
  refine r_icmp_ge (tgt := 26) hC dX6_copyLane_5 rfl (fun h29 => by omega) (fun h29 => ?_)
  refine r_aload_n hC dX6_copyLane_8 rfl ?_
  refine r_iload_n hC dX6_copyLane_9 rfl ?_
  refine r_iload_n hC dX6_copyLane_10 rfl ?_
  refine r_aload_n hC dX6_copyLane_11 rfl ?_
  refine r_iload_n hC dX6_copyLane_12 rfl ?_
  refine r_iload_n hC dX6_copyLane_13 rfl ?_
  refine z_inv2 hM dX6_copyLane_14 vl_RX6_80 rfl rfl rfl (Nat.le_of_ble_eq_true rfl) (Nat.le_of_ble_eq_true rfl) ?_
  refine y_ofU (by first | assumption | decide | exact xs_ (by decide) | exact xc_ (by decide) | exact x31_ (by decide) | omega) (by first | assumption | decide | exact xs_ (by decide) | exact xc_ (by decide) | exact x31_ (by decide) | omega) (fun vu30 => ?_)
  refine z_inv3 hM dX6_copyLane_17 vl_RX6_173 rfl rfl rfl (Nat.le_of_ble_eq_true rfl) (Nat.le_of_ble_eq_true rfl) ?_
  refine y_set (by first | assumption | decide | exact xs_ (by decide) | exact xc_ (by decide) | exact x31_ (by decide) | omega) (by first | assumption | decide | exact xs_ (by decide) | exact xc_ (by decide) | exact x31_ (by decide) | omega) ⟨fun h => by omega, fun h => by omega⟩ ?_
  obtain ⟨ρ31, e_ρ31⟩ : ∃ zz_, zz_ = mu ρ28 31 0 ((22 * m) + 7) vu30 := ⟨_, rfl⟩
  rw [← e_ρ31]
  have Sρ31 : SB t σ0 (mu (mu (mu (mu (mu (mu (mu V 7 m 1 (V 7 l 1)) 7 m 2 (V 7 l 2)) 7 m 3 (V 7 l 3)) 7 m 4 (V 7 l 4)) 7 m 5 (V 7 l 5)) 7 m 6 (V 7 l 6)) 7 m 10 (V 7 l 10)) ρ31 := by rw [e_ρ31, show ((22 * m) + 7) = 22 * m + 7 from by omega]; exact Sρ28.px (by first | assumption | decide | exact xs_ (by decide) | exact xc_ (by decide) | exact x31_ (by decide) | omega)
  have r16a_ρ31 : ρ31 31 0 (22 * l + 16) = (if V 11 l 3 = 0 then (0 : Int) else 1) := by rw [e_ρ31]; exact (mu_ne (by first | assumption | decide | exact xs_ (by decide) | exact xc_ (by decide) | exact x31_ (by decide) | omega)).trans r16a_ρ28
  have r17b_ρ31 : ρ31 31 0 (22 * l + 17) = 0 := by rw [e_ρ31]; exact (mu_ne (by first | assumption | decide | exact xs_ (by decide) | exact xc_ (by decide) | exact x31_ (by decide) | omega)).trans r17b_ρ28
  have Yρ31 : FX m (mu (mu (mu (mu (mu (mu (mu V 7 m 1 (V 7 l 1)) 7 m 2 (V 7 l 2)) 7 m 3 (V 7 l 3)) 7 m 4 (V 7 l 4)) 7 m 5 (V 7 l 5)) 7 m 6 (V 7 l 6)) 7 m 10 (V 7 l 10)) ρ31 := (Yρ28).e (fun m a b c => by rw [e_ρ31]; exact mu_ne (by first | assumption | decide | exact xs_ (by decide) | exact xc_ (by decide) | exact x31_ (by decide) | omega)) (fun m y c => rfl)
  have Xρ31 : KX t m (mu (mu (mu (mu (mu (mu (mu V 7 m 1 (V 7 l 1)) 7 m 2 (V 7 l 2)) 7 m 3 (V 7 l 3)) 7 m 4 (V 7 l 4)) 7 m 5 (V 7 l 5)) 7 m 6 (V 7 l 6)) 7 m 10 (V 7 l 10)) ρ31 := (Xρ28).e (fun m a b c => by rw [e_ρ31]; exact ⟨mu_ne (by first | assumption | decide | exact xs_ (by decide) | exact xc_ (by decide) | exact x31_ (by decide) | omega), mu_ne (by first | assumption | decide | exact xs_ (by decide) | exact xc_ (by decide) | exact x31_ (by decide) | omega)⟩) (fun m c => rfl)
  refine r_iincE hC (8) dX6_copyLane_20 rfl rfl (by first | assumption | decide | exact xs_ (by decide) | exact xc_ (by decide) | exact x31_ (by decide) | omega) (by unfold inR; omega) ?_
  show K _ [_, _, _, _] _ _
  refine r_goto (tgt := 2) hC dX6_copyLane_23 rfl ?_
  refine r_iload_n hC dX6_copyLane_2 rfl ?_
  refine r_bipush hC dX6_copyLane_3 rfl ?_
  refine r_icmp_ge (tgt := 26) hC dX6_copyLane_5 rfl (fun h32 => by omega) (fun h32 => ?_)
  refine r_aload_n hC dX6_copyLane_8 rfl ?_
  refine r_iload_n hC dX6_copyLane_9 rfl ?_
  refine r_iload_n hC dX6_copyLane_10 rfl ?_
  refine r_aload_n hC dX6_copyLane_11 rfl ?_
  refine r_iload_n hC dX6_copyLane_12 rfl ?_
  refine r_iload_n hC dX6_copyLane_13 rfl ?_
  refine z_inv2 hM dX6_copyLane_14 vl_RX6_80 rfl rfl rfl (Nat.le_of_ble_eq_true rfl) (Nat.le_of_ble_eq_true rfl) ?_
  refine y_of (by first | assumption | decide | exact xs_ (by decide) | exact xc_ (by decide) | exact x31_ (by decide) | omega) (by first | assumption | decide | exact xs_ (by decide) | exact xc_ (by decide) | exact x31_ (by decide) | omega) (by first | assumption | decide | exact xs_ (by decide) | exact xc_ (by decide) | exact x31_ (by decide) | omega) (fun o33 => ?_)
  have e34 : ρ31 31 0 (22 * l + 8) = (V 7 l 12) := (Sρ31.a7 (s := 12) (f := 8) (by first | assumption | decide | exact xs_ (by decide) | exact xc_ (by decide) | exact x31_ (by decide) | omega) (by first | assumption | decide | exact xs_ (by decide) | exact xc_ (by decide) | exact x31_ (by decide) | omega) (by first | assumption | decide | exact xs_ (by decide) | exact xc_ (by decide) | exact x31_ (by decide) | omega)).trans ((mu_ne (by first | assumption | decide | exact xs_ (by decide) | exact xc_ (by decide) | exact x31_ (by decide) | omega)).trans ((mu_ne (by first | assumption | decide | exact xs_ (by decide) | exact xc_ (by decide) | exact x31_ (by decide) | omega)).trans ((mu_ne (by first | assumption | decide | exact xs_ (by decide) | exact xc_ (by decide) | exact x31_ (by decide) | omega)).trans ((mu_ne (by first | assumption | decide | exact xs_ (by decide) | exact xc_ (by decide) | exact x31_ (by decide) | omega)).trans ((mu_ne (by first | assumption | decide | exact xs_ (by decide) | exact xc_ (by decide) | exact x31_ (by decide) | omega)).trans ((mu_ne (by first | assumption | decide | exact xs_ (by decide) | exact xc_ (by decide) | exact x31_ (by decide) | omega)).trans ((mu_ne (by first | assumption | decide | exact xs_ (by decide) | exact xc_ (by decide) | exact x31_ (by decide) | omega)).trans (rfl))))))))
  rw [e34] at o33 ⊢
  refine z_inv3 hM dX6_copyLane_17 vl_RX6_173 rfl rfl rfl (Nat.le_of_ble_eq_true rfl) (Nat.le_of_ble_eq_true rfl) ?_
  refine y_set (by first | assumption | decide | exact xs_ (by decide) | exact xc_ (by decide) | exact x31_ (by decide) | omega) (by first | assumption | decide | exact xs_ (by decide) | exact xc_ (by decide) | exact x31_ (by decide) | omega) ⟨fun h => by omega, fun h => by omega⟩ ?_
  obtain ⟨ρ35, e_ρ35⟩ : ∃ zz_, zz_ = mu ρ31 31 0 ((22 * m) + 8) (V 7 l 12) := ⟨_, rfl⟩
  rw [← e_ρ35]
  have Sρ35 : SB t σ0 (mu (mu (mu (mu (mu (mu (mu (mu V 7 m 1 (V 7 l 1)) 7 m 2 (V 7 l 2)) 7 m 3 (V 7 l 3)) 7 m 4 (V 7 l 4)) 7 m 5 (V 7 l 5)) 7 m 6 (V 7 l 6)) 7 m 10 (V 7 l 10)) 7 m 12 (V 7 l 12)) ρ35 := by rw [e_ρ35, show ((22 * m) + 8) = 22 * m + 8 from by omega]; exact Sρ31.p7 (by first | assumption | decide | exact xs_ (by decide) | exact xc_ (by decide) | exact x31_ (by decide) | omega) (by first | assumption | decide | exact xs_ (by decide) | exact xc_ (by decide) | exact x31_ (by decide) | omega) (by first | assumption | decide | exact xs_ (by decide) | exact xc_ (by decide) | exact x31_ (by decide) | omega)
  have r16a_ρ35 : ρ35 31 0 (22 * l + 16) = (if V 11 l 3 = 0 then (0 : Int) else 1) := by rw [e_ρ35]; exact (mu_ne (by first | assumption | decide | exact xs_ (by decide) | exact xc_ (by decide) | exact x31_ (by decide) | omega)).trans r16a_ρ31
  have r17b_ρ35 : ρ35 31 0 (22 * l + 17) = 0 := by rw [e_ρ35]; exact (mu_ne (by first | assumption | decide | exact xs_ (by decide) | exact xc_ (by decide) | exact x31_ (by decide) | omega)).trans r17b_ρ31
  have Yρ35 : FX m (mu (mu (mu (mu (mu (mu (mu (mu V 7 m 1 (V 7 l 1)) 7 m 2 (V 7 l 2)) 7 m 3 (V 7 l 3)) 7 m 4 (V 7 l 4)) 7 m 5 (V 7 l 5)) 7 m 6 (V 7 l 6)) 7 m 10 (V 7 l 10)) 7 m 12 (V 7 l 12)) ρ35 := (Yρ31).e (fun m a b c => by rw [e_ρ35]; exact mu_ne (by first | assumption | decide | exact xs_ (by decide) | exact xc_ (by decide) | exact x31_ (by decide) | omega)) (fun m y c => mu_ne (by first | assumption | decide | exact xs_ (by decide) | exact xc_ (by decide) | exact x31_ (by decide) | omega))
  have Xρ35 : KX t m (mu (mu (mu (mu (mu (mu (mu (mu V 7 m 1 (V 7 l 1)) 7 m 2 (V 7 l 2)) 7 m 3 (V 7 l 3)) 7 m 4 (V 7 l 4)) 7 m 5 (V 7 l 5)) 7 m 6 (V 7 l 6)) 7 m 10 (V 7 l 10)) 7 m 12 (V 7 l 12)) ρ35 := (Xρ31).e (fun m a b c => by rw [e_ρ35]; exact ⟨mu_ne (by first | assumption | decide | exact xs_ (by decide) | exact xc_ (by decide) | exact x31_ (by decide) | omega), mu_ne (by first | assumption | decide | exact xs_ (by decide) | exact xc_ (by decide) | exact x31_ (by decide) | omega)⟩) (fun m c => mu_ne (by first | assumption | decide | exact xs_ (by decide) | exact xc_ (by decide) | exact x31_ (by decide) | omega))
  refine r_iincE hC (9) dX6_copyLane_20 rfl rfl (by first | assumption | decide | exact xs_ (by decide) | exact xc_ (by decide) | exact x31_ (by decide) | omega) (by unfold inR; omega) ?_
  refine r_goto (tgt := 2) hC dX6_copyLane_23 rfl ?_
  refine r_iload_n hC dX6_copyLane_2 rfl ?_
  refine r_bipush hC dX6_copyLane_3 rfl ?_
  refine r_icmp_ge (tgt := 26) hC dX6_copyLane_5 rfl (fun h36 => by omega) (fun h36 => ?_)
  refine r_aload_n hC dX6_copyLane_8 rfl ?_
  refine r_iload_n hC dX6_copyLane_9 rfl ?_
  refine r_iload_n hC dX6_copyLane_10 rfl ?_
  refine r_aload_n hC dX6_copyLane_11 rfl ?_
  refine r_iload_n hC dX6_copyLane_12 rfl ?_
  refine r_iload_n hC dX6_copyLane_13 rfl ?_
  refine z_inv2 hM dX6_copyLane_14 vl_RX6_80 rfl rfl rfl (Nat.le_of_ble_eq_true rfl) (Nat.le_of_ble_eq_true rfl) ?_
  refine y_of (by first | assumption | decide | exact xs_ (by decide) | exact xc_ (by decide) | exact x31_ (by decide) | omega) (by first | assumption | decide | exact xs_ (by decide) | exact xc_ (by decide) | exact x31_ (by decide) | omega) (by first | assumption | decide | exact xs_ (by decide) | exact xc_ (by decide) | exact x31_ (by decide) | omega) (fun o37 => ?_)
  have e38 : ρ35 31 0 (22 * l + 9) = (V 7 l 13) := (Sρ35.a7 (s := 13) (f := 9) (by first | assumption | decide | exact xs_ (by decide) | exact xc_ (by decide) | exact x31_ (by decide) | omega) (by first | assumption | decide | exact xs_ (by decide) | exact xc_ (by decide) | exact x31_ (by decide) | omega) (by first | assumption | decide | exact xs_ (by decide) | exact xc_ (by decide) | exact x31_ (by decide) | omega)).trans ((mu_ne (by first | assumption | decide | exact xs_ (by decide) | exact xc_ (by decide) | exact x31_ (by decide) | omega)).trans ((mu_ne (by first | assumption | decide | exact xs_ (by decide) | exact xc_ (by decide) | exact x31_ (by decide) | omega)).trans ((mu_ne (by first | assumption | decide | exact xs_ (by decide) | exact xc_ (by decide) | exact x31_ (by decide) | omega)).trans ((mu_ne (by first | assumption | decide | exact xs_ (by decide) | exact xc_ (by decide) | exact x31_ (by decide) | omega)).trans ((mu_ne (by first | assumption | decide | exact xs_ (by decide) | exact xc_ (by decide) | exact x31_ (by decide) | omega)).trans ((mu_ne (by first | assumption | decide | exact xs_ (by decide) | exact xc_ (by decide) | exact x31_ (by decide) | omega)).trans ((mu_ne (by first | assumption | decide | exact xs_ (by decide) | exact xc_ (by decide) | exact x31_ (by decide) | omega)).trans ((mu_ne (by first | assumption | decide | exact xs_ (by decide) | exact xc_ (by decide) | exact x31_ (by decide) | omega)).trans (rfl)))))))))
  rw [e38] at o37 ⊢
  refine z_inv3 hM dX6_copyLane_17 vl_RX6_173 rfl rfl rfl (Nat.le_of_ble_eq_true rfl) (Nat.le_of_ble_eq_true rfl) ?_
  refine y_set (by first | assumption | decide | exact xs_ (by decide) | exact xc_ (by decide) | exact x31_ (by decide) | omega) (by first | assumption | decide | exact xs_ (by decide) | exact xc_ (by decide) | exact x31_ (by decide) | omega) ⟨fun h => by omega, fun h => by omega⟩ ?_
  obtain ⟨ρ39, e_ρ39⟩ : ∃ zz_, zz_ = mu ρ35 31 0 ((22 * m) + 9) (V 7 l 13) := ⟨_, rfl⟩
  rw [← e_ρ39]
  have Sρ39 : SB t σ0 (mu (mu (mu (mu (mu (mu (mu (mu (mu V 7 m 1 (V 7 l 1)) 7 m 2 (V 7 l 2)) 7 m 3 (V 7 l 3)) 7 m 4 (V 7 l 4)) 7 m 5 (V 7 l 5)) 7 m 6 (V 7 l 6)) 7 m 10 (V 7 l 10)) 7 m 12 (V 7 l 12)) 7 m 13 (V 7 l 13)) ρ39 := by rw [e_ρ39, show ((22 * m) + 9) = 22 * m + 9 from by omega]; exact Sρ35.p7 (by first | assumption | decide | exact xs_ (by decide) | exact xc_ (by decide) | exact x31_ (by decide) | omega) (by first | assumption | decide | exact xs_ (by decide) | exact xc_ (by decide) | exact x31_ (by decide) | omega) (by first | assumption | decide | exact xs_ (by decide) | exact xc_ (by decide) | exact x31_ (by decide) | omega)
  have r16a_ρ39 : ρ39 31 0 (22 * l + 16) = (if V 11 l 3 = 0 then (0 : Int) else 1) := by rw [e_ρ39]; exact (mu_ne (by first | assumption | decide | exact xs_ (by decide) | exact xc_ (by decide) | exact x31_ (by decide) | omega)).trans r16a_ρ35
  have r17b_ρ39 : ρ39 31 0 (22 * l + 17) = 0 := by rw [e_ρ39]; exact (mu_ne (by first | assumption | decide | exact xs_ (by decide) | exact xc_ (by decide) | exact x31_ (by decide) | omega)).trans r17b_ρ35
  have Yρ39 : FX m (mu (mu (mu (mu (mu (mu (mu (mu (mu V 7 m 1 (V 7 l 1)) 7 m 2 (V 7 l 2)) 7 m 3 (V 7 l 3)) 7 m 4 (V 7 l 4)) 7 m 5 (V 7 l 5)) 7 m 6 (V 7 l 6)) 7 m 10 (V 7 l 10)) 7 m 12 (V 7 l 12)) 7 m 13 (V 7 l 13)) ρ39 := (Yρ35).e (fun m a b c => by rw [e_ρ39]; exact mu_ne (by first | assumption | decide | exact xs_ (by decide) | exact xc_ (by decide) | exact x31_ (by decide) | omega)) (fun m y c => mu_ne (by first | assumption | decide | exact xs_ (by decide) | exact xc_ (by decide) | exact x31_ (by decide) | omega))
  have Xρ39 : KX t m (mu (mu (mu (mu (mu (mu (mu (mu (mu V 7 m 1 (V 7 l 1)) 7 m 2 (V 7 l 2)) 7 m 3 (V 7 l 3)) 7 m 4 (V 7 l 4)) 7 m 5 (V 7 l 5)) 7 m 6 (V 7 l 6)) 7 m 10 (V 7 l 10)) 7 m 12 (V 7 l 12)) 7 m 13 (V 7 l 13)) ρ39 := (Xρ35).e (fun m a b c => by rw [e_ρ39]; exact ⟨mu_ne (by first | assumption | decide | exact xs_ (by decide) | exact xc_ (by decide) | exact x31_ (by decide) | omega), mu_ne (by first | assumption | decide | exact xs_ (by decide) | exact xc_ (by decide) | exact x31_ (by decide) | omega)⟩) (fun m c => mu_ne (by first | assumption | decide | exact xs_ (by decide) | exact xc_ (by decide) | exact x31_ (by decide) | omega))
  refine r_iincE hC (10) dX6_copyLane_20 rfl rfl (by first | assumption | decide | exact xs_ (by decide) | exact xc_ (by decide) | exact x31_ (by decide) | omega) (by unfold inR; omega) ?_
  refine r_goto (tgt := 2) hC dX6_copyLane_23 rfl ?_
  refine r_iload_n hC dX6_copyLane_2 rfl ?_
  refine r_bipush hC dX6_copyLane_3 rfl ?_
  refine r_icmp_ge (tgt := 26) hC dX6_copyLane_5 rfl (fun h40 => by omega) (fun h40 => ?_)
  refine r_aload_n hC dX6_copyLane_8 rfl ?_
  refine r_iload_n hC dX6_copyLane_9 rfl ?_
  refine r_iload_n hC dX6_copyLane_10 rfl ?_
  refine r_aload_n hC dX6_copyLane_11 rfl ?_
  refine r_iload_n hC dX6_copyLane_12 rfl ?_
  refine r_iload_n hC dX6_copyLane_13 rfl ?_
  refine z_inv2 hM dX6_copyLane_14 vl_RX6_80 rfl rfl rfl (Nat.le_of_ble_eq_true rfl) (Nat.le_of_ble_eq_true rfl) ?_
  refine y_of (by first | assumption | decide | exact xs_ (by decide) | exact xc_ (by decide) | exact x31_ (by decide) | omega) (by first | assumption | decide | exact xs_ (by decide) | exact xc_ (by decide) | exact x31_ (by decide) | omega) (by first | assumption | decide | exact xs_ (by decide) | exact xc_ (by decide) | exact x31_ (by decide) | omega) (fun o41 => ?_)
  have e42 : ρ39 31 0 (22 * l + 10) = (V 7 l 14) := (Sρ39.a7 (s := 14) (f := 10) (by first | assumption | decide | exact xs_ (by decide) | exact xc_ (by decide) | exact x31_ (by decide) | omega) (by first | assumption | decide | exact xs_ (by decide) | exact xc_ (by decide) | exact x31_ (by decide) | omega) (by first | assumption | decide | exact xs_ (by decide) | exact xc_ (by decide) | exact x31_ (by decide) | omega)).trans ((mu_ne (by first | assumption | decide | exact xs_ (by decide) | exact xc_ (by decide) | exact x31_ (by decide) | omega)).trans ((mu_ne (by first | assumption | decide | exact xs_ (by decide) | exact xc_ (by decide) | exact x31_ (by decide) | omega)).trans ((mu_ne (by first | assumption | decide | exact xs_ (by decide) | exact xc_ (by decide) | exact x31_ (by decide) | omega)).trans ((mu_ne (by first | assumption | decide | exact xs_ (by decide) | exact xc_ (by decide) | exact x31_ (by decide) | omega)).trans ((mu_ne (by first | assumption | decide | exact xs_ (by decide) | exact xc_ (by decide) | exact x31_ (by decide) | omega)).trans ((mu_ne (by first | assumption | decide | exact xs_ (by decide) | exact xc_ (by decide) | exact x31_ (by decide) | omega)).trans ((mu_ne (by first | assumption | decide | exact xs_ (by decide) | exact xc_ (by decide) | exact x31_ (by decide) | omega)).trans ((mu_ne (by first | assumption | decide | exact xs_ (by decide) | exact xc_ (by decide) | exact x31_ (by decide) | omega)).trans ((mu_ne (by first | assumption | decide | exact xs_ (by decide) | exact xc_ (by decide) | exact x31_ (by decide) | omega)).trans (rfl))))))))))
  rw [e42] at o41 ⊢
  refine z_inv3 hM dX6_copyLane_17 vl_RX6_173 rfl rfl rfl (Nat.le_of_ble_eq_true rfl) (Nat.le_of_ble_eq_true rfl) ?_
  refine y_set (by first | assumption | decide | exact xs_ (by decide) | exact xc_ (by decide) | exact x31_ (by decide) | omega) (by first | assumption | decide | exact xs_ (by decide) | exact xc_ (by decide) | exact x31_ (by decide) | omega) ⟨fun h => by omega, fun h => by omega⟩ ?_
  obtain ⟨ρ43, e_ρ43⟩ : ∃ zz_, zz_ = mu ρ39 31 0 ((22 * m) + 10) (V 7 l 14) := ⟨_, rfl⟩
  rw [← e_ρ43]
  have Sρ43 : SB t σ0 (mu (mu (mu (mu (mu (mu (mu (mu (mu (mu V 7 m 1 (V 7 l 1)) 7 m 2 (V 7 l 2)) 7 m 3 (V 7 l 3)) 7 m 4 (V 7 l 4)) 7 m 5 (V 7 l 5)) 7 m 6 (V 7 l 6)) 7 m 10 (V 7 l 10)) 7 m 12 (V 7 l 12)) 7 m 13 (V 7 l 13)) 7 m 14 (V 7 l 14)) ρ43 := by rw [e_ρ43, show ((22 * m) + 10) = 22 * m + 10 from by omega]; exact Sρ39.p7 (by first | assumption | decide | exact xs_ (by decide) | exact xc_ (by decide) | exact x31_ (by decide) | omega) (by first | assumption | decide | exact xs_ (by decide) | exact xc_ (by decide) | exact x31_ (by decide) | omega) (by first | assumption | decide | exact xs_ (by decide) | exact xc_ (by decide) | exact x31_ (by decide) | omega)
  have r16a_ρ43 : ρ43 31 0 (22 * l + 16) = (if V 11 l 3 = 0 then (0 : Int) else 1) := by rw [e_ρ43]; exact (mu_ne (by first | assumption | decide | exact xs_ (by decide) | exact xc_ (by decide) | exact x31_ (by decide) | omega)).trans r16a_ρ39
  have r17b_ρ43 : ρ43 31 0 (22 * l + 17) = 0 := by rw [e_ρ43]; exact (mu_ne (by first | assumption | decide | exact xs_ (by decide) | exact xc_ (by decide) | exact x31_ (by decide) | omega)).trans r17b_ρ39
  have Yρ43 : FX m (mu (mu (mu (mu (mu (mu (mu (mu (mu (mu V 7 m 1 (V 7 l 1)) 7 m 2 (V 7 l 2)) 7 m 3 (V 7 l 3)) 7 m 4 (V 7 l 4)) 7 m 5 (V 7 l 5)) 7 m 6 (V 7 l 6)) 7 m 10 (V 7 l 10)) 7 m 12 (V 7 l 12)) 7 m 13 (V 7 l 13)) 7 m 14 (V 7 l 14)) ρ43 := (Yρ39).e (fun m a b c => by rw [e_ρ43]; exact mu_ne (by first | assumption | decide | exact xs_ (by decide) | exact xc_ (by decide) | exact x31_ (by decide) | omega)) (fun m y c => mu_ne (by first | assumption | decide | exact xs_ (by decide) | exact xc_ (by decide) | exact x31_ (by decide) | omega))
  have Xρ43 : KX t m (mu (mu (mu (mu (mu (mu (mu (mu (mu (mu V 7 m 1 (V 7 l 1)) 7 m 2 (V 7 l 2)) 7 m 3 (V 7 l 3)) 7 m 4 (V 7 l 4)) 7 m 5 (V 7 l 5)) 7 m 6 (V 7 l 6)) 7 m 10 (V 7 l 10)) 7 m 12 (V 7 l 12)) 7 m 13 (V 7 l 13)) 7 m 14 (V 7 l 14)) ρ43 := (Xρ39).e (fun m a b c => by rw [e_ρ43]; exact ⟨mu_ne (by first | assumption | decide | exact xs_ (by decide) | exact xc_ (by decide) | exact x31_ (by decide) | omega), mu_ne (by first | assumption | decide | exact xs_ (by decide) | exact xc_ (by decide) | exact x31_ (by decide) | omega)⟩) (fun m c => mu_ne (by first | assumption | decide | exact xs_ (by decide) | exact xc_ (by decide) | exact x31_ (by decide) | omega))
  refine r_iincE hC (11) dX6_copyLane_20 rfl rfl (by first | assumption | decide | exact xs_ (by decide) | exact xc_ (by decide) | exact x31_ (by decide) | omega) (by unfold inR; omega) ?_
  show K _ [_, _, _, _] _ _
  refine r_goto (tgt := 2) hC dX6_copyLane_23 rfl ?_
  refine r_iload_n hC dX6_copyLane_2 rfl ?_
  refine r_bipush hC dX6_copyLane_3 rfl ?_
  refine r_icmp_ge (tgt := 26) hC dX6_copyLane_5 rfl (fun h44 => by omega) (fun h44 => ?_)
  refine r_aload_n hC dX6_copyLane_8 rfl ?_
  refine r_iload_n hC dX6_copyLane_9 rfl ?_
  refine r_iload_n hC dX6_copyLane_10 rfl ?_
  refine r_aload_n hC dX6_copyLane_11 rfl ?_
  refine r_iload_n hC dX6_copyLane_12 rfl ?_
  refine r_iload_n hC dX6_copyLane_13 rfl ?_
  refine z_inv2 hM dX6_copyLane_14 vl_RX6_80 rfl rfl rfl (Nat.le_of_ble_eq_true rfl) (Nat.le_of_ble_eq_true rfl) ?_
  refine y_of (by first | assumption | decide | exact xs_ (by decide) | exact xc_ (by decide) | exact x31_ (by decide) | omega) (by first | assumption | decide | exact xs_ (by decide) | exact xc_ (by decide) | exact x31_ (by decide) | omega) (by first | assumption | decide | exact xs_ (by decide) | exact xc_ (by decide) | exact x31_ (by decide) | omega) (fun o45 => ?_)
  have e46 : ρ43 31 0 (22 * l + 11) = (V 7 l 15) := (Sρ43.a7 (s := 15) (f := 11) (by first | assumption | decide | exact xs_ (by decide) | exact xc_ (by decide) | exact x31_ (by decide) | omega) (by first | assumption | decide | exact xs_ (by decide) | exact xc_ (by decide) | exact x31_ (by decide) | omega) (by first | assumption | decide | exact xs_ (by decide) | exact xc_ (by decide) | exact x31_ (by decide) | omega)).trans ((mu_ne (by first | assumption | decide | exact xs_ (by decide) | exact xc_ (by decide) | exact x31_ (by decide) | omega)).trans ((mu_ne (by first | assumption | decide | exact xs_ (by decide) | exact xc_ (by decide) | exact x31_ (by decide) | omega)).trans ((mu_ne (by first | assumption | decide | exact xs_ (by decide) | exact xc_ (by decide) | exact x31_ (by decide) | omega)).trans ((mu_ne (by first | assumption | decide | exact xs_ (by decide) | exact xc_ (by decide) | exact x31_ (by decide) | omega)).trans ((mu_ne (by first | assumption | decide | exact xs_ (by decide) | exact xc_ (by decide) | exact x31_ (by decide) | omega)).trans ((mu_ne (by first | assumption | decide | exact xs_ (by decide) | exact xc_ (by decide) | exact x31_ (by decide) | omega)).trans ((mu_ne (by first | assumption | decide | exact xs_ (by decide) | exact xc_ (by decide) | exact x31_ (by decide) | omega)).trans ((mu_ne (by first | assumption | decide | exact xs_ (by decide) | exact xc_ (by decide) | exact x31_ (by decide) | omega)).trans ((mu_ne (by first | assumption | decide | exact xs_ (by decide) | exact xc_ (by decide) | exact x31_ (by decide) | omega)).trans ((mu_ne (by first | assumption | decide | exact xs_ (by decide) | exact xc_ (by decide) | exact x31_ (by decide) | omega)).trans (rfl)))))))))))
  rw [e46] at o45 ⊢
  refine z_inv3 hM dX6_copyLane_17 vl_RX6_173 rfl rfl rfl (Nat.le_of_ble_eq_true rfl) (Nat.le_of_ble_eq_true rfl) ?_
  refine y_set (by first | assumption | decide | exact xs_ (by decide) | exact xc_ (by decide) | exact x31_ (by decide) | omega) (by first | assumption | decide | exact xs_ (by decide) | exact xc_ (by decide) | exact x31_ (by decide) | omega) ⟨fun h => by omega, fun h => by omega⟩ ?_
  obtain ⟨ρ47, e_ρ47⟩ : ∃ zz_, zz_ = mu ρ43 31 0 ((22 * m) + 11) (V 7 l 15) := ⟨_, rfl⟩
  rw [← e_ρ47]
  have Sρ47 : SB t σ0 (mu (mu (mu (mu (mu (mu (mu (mu (mu (mu (mu V 7 m 1 (V 7 l 1)) 7 m 2 (V 7 l 2)) 7 m 3 (V 7 l 3)) 7 m 4 (V 7 l 4)) 7 m 5 (V 7 l 5)) 7 m 6 (V 7 l 6)) 7 m 10 (V 7 l 10)) 7 m 12 (V 7 l 12)) 7 m 13 (V 7 l 13)) 7 m 14 (V 7 l 14)) 7 m 15 (V 7 l 15)) ρ47 := by rw [e_ρ47, show ((22 * m) + 11) = 22 * m + 11 from by omega]; exact Sρ43.p7 (by first | assumption | decide | exact xs_ (by decide) | exact xc_ (by decide) | exact x31_ (by decide) | omega) (by first | assumption | decide | exact xs_ (by decide) | exact xc_ (by decide) | exact x31_ (by decide) | omega) (by first | assumption | decide | exact xs_ (by decide) | exact xc_ (by decide) | exact x31_ (by decide) | omega)
  have r16a_ρ47 : ρ47 31 0 (22 * l + 16) = (if V 11 l 3 = 0 then (0 : Int) else 1) := by rw [e_ρ47]; exact (mu_ne (by first | assumption | decide | exact xs_ (by decide) | exact xc_ (by decide) | exact x31_ (by decide) | omega)).trans r16a_ρ43
  have r17b_ρ47 : ρ47 31 0 (22 * l + 17) = 0 := by rw [e_ρ47]; exact (mu_ne (by first | assumption | decide | exact xs_ (by decide) | exact xc_ (by decide) | exact x31_ (by decide) | omega)).trans r17b_ρ43
  have Yρ47 : FX m (mu (mu (mu (mu (mu (mu (mu (mu (mu (mu (mu V 7 m 1 (V 7 l 1)) 7 m 2 (V 7 l 2)) 7 m 3 (V 7 l 3)) 7 m 4 (V 7 l 4)) 7 m 5 (V 7 l 5)) 7 m 6 (V 7 l 6)) 7 m 10 (V 7 l 10)) 7 m 12 (V 7 l 12)) 7 m 13 (V 7 l 13)) 7 m 14 (V 7 l 14)) 7 m 15 (V 7 l 15)) ρ47 := (Yρ43).e (fun m a b c => by rw [e_ρ47]; exact mu_ne (by first | assumption | decide | exact xs_ (by decide) | exact xc_ (by decide) | exact x31_ (by decide) | omega)) (fun m y c => mu_ne (by first | assumption | decide | exact xs_ (by decide) | exact xc_ (by decide) | exact x31_ (by decide) | omega))
  have Xρ47 : KX t m (mu (mu (mu (mu (mu (mu (mu (mu (mu (mu (mu V 7 m 1 (V 7 l 1)) 7 m 2 (V 7 l 2)) 7 m 3 (V 7 l 3)) 7 m 4 (V 7 l 4)) 7 m 5 (V 7 l 5)) 7 m 6 (V 7 l 6)) 7 m 10 (V 7 l 10)) 7 m 12 (V 7 l 12)) 7 m 13 (V 7 l 13)) 7 m 14 (V 7 l 14)) 7 m 15 (V 7 l 15)) ρ47 := (Xρ43).e (fun m a b c => by rw [e_ρ47]; exact ⟨mu_ne (by first | assumption | decide | exact xs_ (by decide) | exact xc_ (by decide) | exact x31_ (by decide) | omega), mu_ne (by first | assumption | decide | exact xs_ (by decide) | exact xc_ (by decide) | exact x31_ (by decide) | omega)⟩) (fun m c => mu_ne (by first | assumption | decide | exact xs_ (by decide) | exact xc_ (by decide) | exact x31_ (by decide) | omega))
  refine r_iincE hC (12) dX6_copyLane_20 rfl rfl (by first | assumption | decide | exact xs_ (by decide) | exact xc_ (by decide) | exact x31_ (by decide) | omega) (by unfold inR; omega) ?_
  refine r_goto (tgt := 2) hC dX6_copyLane_23 rfl ?_
  refine r_iload_n hC dX6_copyLane_2 rfl ?_
  refine r_bipush hC dX6_copyLane_3 rfl ?_
  refine r_icmp_ge (tgt := 26) hC dX6_copyLane_5 rfl (fun h48 => by omega) (fun h48 => ?_)
  refine r_aload_n hC dX6_copyLane_8 rfl ?_
  refine r_iload_n hC dX6_copyLane_9 rfl ?_
  refine r_iload_n hC dX6_copyLane_10 rfl ?_
  refine r_aload_n hC dX6_copyLane_11 rfl ?_
  refine r_iload_n hC dX6_copyLane_12 rfl ?_
  refine r_iload_n hC dX6_copyLane_13 rfl ?_
  refine z_inv2 hM dX6_copyLane_14 vl_RX6_80 rfl rfl rfl (Nat.le_of_ble_eq_true rfl) (Nat.le_of_ble_eq_true rfl) ?_
  refine y_of (by first | assumption | decide | exact xs_ (by decide) | exact xc_ (by decide) | exact x31_ (by decide) | omega) (by first | assumption | decide | exact xs_ (by decide) | exact xc_ (by decide) | exact x31_ (by decide) | omega) (by first | assumption | decide | exact xs_ (by decide) | exact xc_ (by decide) | exact x31_ (by decide) | omega) (fun o49 => ?_)
  have e50 : ρ47 31 0 (22 * l + 12) = (V 11 l 0) := (Sρ47.a11 (s := 0) (f := 12) (by first | assumption | decide | exact xs_ (by decide) | exact xc_ (by decide) | exact x31_ (by decide) | omega) (by first | assumption | decide | exact xs_ (by decide) | exact xc_ (by decide) | exact x31_ (by decide) | omega) (by first | assumption | decide | exact xs_ (by decide) | exact xc_ (by decide) | exact x31_ (by decide) | omega)).trans ((mu_ne (by first | assumption | decide | exact xs_ (by decide) | exact xc_ (by decide) | exact x31_ (by decide) | omega)).trans ((mu_ne (by first | assumption | decide | exact xs_ (by decide) | exact xc_ (by decide) | exact x31_ (by decide) | omega)).trans ((mu_ne (by first | assumption | decide | exact xs_ (by decide) | exact xc_ (by decide) | exact x31_ (by decide) | omega)).trans ((mu_ne (by first | assumption | decide | exact xs_ (by decide) | exact xc_ (by decide) | exact x31_ (by decide) | omega)).trans ((mu_ne (by first | assumption | decide | exact xs_ (by decide) | exact xc_ (by decide) | exact x31_ (by decide) | omega)).trans ((mu_ne (by first | assumption | decide | exact xs_ (by decide) | exact xc_ (by decide) | exact x31_ (by decide) | omega)).trans ((mu_ne (by first | assumption | decide | exact xs_ (by decide) | exact xc_ (by decide) | exact x31_ (by decide) | omega)).trans ((mu_ne (by first | assumption | decide | exact xs_ (by decide) | exact xc_ (by decide) | exact x31_ (by decide) | omega)).trans ((mu_ne (by first | assumption | decide | exact xs_ (by decide) | exact xc_ (by decide) | exact x31_ (by decide) | omega)).trans ((mu_ne (by first | assumption | decide | exact xs_ (by decide) | exact xc_ (by decide) | exact x31_ (by decide) | omega)).trans ((mu_ne (by first | assumption | decide | exact xs_ (by decide) | exact xc_ (by decide) | exact x31_ (by decide) | omega)).trans (rfl))))))))))))
  rw [e50] at o49 ⊢
  refine z_inv3 hM dX6_copyLane_17 vl_RX6_173 rfl rfl rfl (Nat.le_of_ble_eq_true rfl) (Nat.le_of_ble_eq_true rfl) ?_
  refine y_set (by first | assumption | decide | exact xs_ (by decide) | exact xc_ (by decide) | exact x31_ (by decide) | omega) (by first | assumption | decide | exact xs_ (by decide) | exact xc_ (by decide) | exact x31_ (by decide) | omega) ⟨fun h => by omega, fun h => by omega⟩ ?_
  obtain ⟨ρ51, e_ρ51⟩ : ∃ zz_, zz_ = mu ρ47 31 0 ((22 * m) + 12) (V 11 l 0) := ⟨_, rfl⟩
  rw [← e_ρ51]
  have Sρ51 : SB t σ0 (mu (mu (mu (mu (mu (mu (mu (mu (mu (mu (mu (mu V 7 m 1 (V 7 l 1)) 7 m 2 (V 7 l 2)) 7 m 3 (V 7 l 3)) 7 m 4 (V 7 l 4)) 7 m 5 (V 7 l 5)) 7 m 6 (V 7 l 6)) 7 m 10 (V 7 l 10)) 7 m 12 (V 7 l 12)) 7 m 13 (V 7 l 13)) 7 m 14 (V 7 l 14)) 7 m 15 (V 7 l 15)) 11 m 0 (V 11 l 0)) ρ51 := by rw [e_ρ51, show ((22 * m) + 12) = 22 * m + 12 from by omega]; exact Sρ47.p11 (by first | assumption | decide | exact xs_ (by decide) | exact xc_ (by decide) | exact x31_ (by decide) | omega) (by first | assumption | decide | exact xs_ (by decide) | exact xc_ (by decide) | exact x31_ (by decide) | omega) (by first | assumption | decide | exact xs_ (by decide) | exact xc_ (by decide) | exact x31_ (by decide) | omega)
  have r16a_ρ51 : ρ51 31 0 (22 * l + 16) = (if V 11 l 3 = 0 then (0 : Int) else 1) := by rw [e_ρ51]; exact (mu_ne (by first | assumption | decide | exact xs_ (by decide) | exact xc_ (by decide) | exact x31_ (by decide) | omega)).trans r16a_ρ47
  have r17b_ρ51 : ρ51 31 0 (22 * l + 17) = 0 := by rw [e_ρ51]; exact (mu_ne (by first | assumption | decide | exact xs_ (by decide) | exact xc_ (by decide) | exact x31_ (by decide) | omega)).trans r17b_ρ47
  have Yρ51 : FX m (mu (mu (mu (mu (mu (mu (mu (mu (mu (mu (mu (mu V 7 m 1 (V 7 l 1)) 7 m 2 (V 7 l 2)) 7 m 3 (V 7 l 3)) 7 m 4 (V 7 l 4)) 7 m 5 (V 7 l 5)) 7 m 6 (V 7 l 6)) 7 m 10 (V 7 l 10)) 7 m 12 (V 7 l 12)) 7 m 13 (V 7 l 13)) 7 m 14 (V 7 l 14)) 7 m 15 (V 7 l 15)) 11 m 0 (V 11 l 0)) ρ51 := (Yρ47).e (fun m a b c => by rw [e_ρ51]; exact mu_ne (by first | assumption | decide | exact xs_ (by decide) | exact xc_ (by decide) | exact x31_ (by decide) | omega)) (fun m y c => mu_ne (by first | assumption | decide | exact xs_ (by decide) | exact xc_ (by decide) | exact x31_ (by decide) | omega))
  have Xρ51 : KX t m (mu (mu (mu (mu (mu (mu (mu (mu (mu (mu (mu (mu V 7 m 1 (V 7 l 1)) 7 m 2 (V 7 l 2)) 7 m 3 (V 7 l 3)) 7 m 4 (V 7 l 4)) 7 m 5 (V 7 l 5)) 7 m 6 (V 7 l 6)) 7 m 10 (V 7 l 10)) 7 m 12 (V 7 l 12)) 7 m 13 (V 7 l 13)) 7 m 14 (V 7 l 14)) 7 m 15 (V 7 l 15)) 11 m 0 (V 11 l 0)) ρ51 := (Xρ47).e (fun m a b c => by rw [e_ρ51]; exact ⟨mu_ne (by first | assumption | decide | exact xs_ (by decide) | exact xc_ (by decide) | exact x31_ (by decide) | omega), mu_ne (by first | assumption | decide | exact xs_ (by decide) | exact xc_ (by decide) | exact x31_ (by decide) | omega)⟩) (fun m c => mu_ne (by first | assumption | decide | exact xs_ (by decide) | exact xc_ (by decide) | exact x31_ (by decide) | omega))
  refine r_iincE hC (13) dX6_copyLane_20 rfl rfl (by first | assumption | decide | exact xs_ (by decide) | exact xc_ (by decide) | exact x31_ (by decide) | omega) (by unfold inR; omega) ?_
  refine r_goto (tgt := 2) hC dX6_copyLane_23 rfl ?_
  refine r_iload_n hC dX6_copyLane_2 rfl ?_
  refine r_bipush hC dX6_copyLane_3 rfl ?_
  refine r_icmp_ge (tgt := 26) hC dX6_copyLane_5 rfl (fun h52 => by omega) (fun h52 => ?_)
  refine r_aload_n hC dX6_copyLane_8 rfl ?_
  refine r_iload_n hC dX6_copyLane_9 rfl ?_
  refine r_iload_n hC dX6_copyLane_10 rfl ?_
  refine r_aload_n hC dX6_copyLane_11 rfl ?_
  refine r_iload_n hC dX6_copyLane_12 rfl ?_
  refine r_iload_n hC dX6_copyLane_13 rfl ?_
  refine z_inv2 hM dX6_copyLane_14 vl_RX6_80 rfl rfl rfl (Nat.le_of_ble_eq_true rfl) (Nat.le_of_ble_eq_true rfl) ?_
  refine y_of (by first | assumption | decide | exact xs_ (by decide) | exact xc_ (by decide) | exact x31_ (by decide) | omega) (by first | assumption | decide | exact xs_ (by decide) | exact xc_ (by decide) | exact x31_ (by decide) | omega) (by first | assumption | decide | exact xs_ (by decide) | exact xc_ (by decide) | exact x31_ (by decide) | omega) (fun o53 => ?_)
  have e54 : ρ51 31 0 (22 * l + 13) = (V 11 l 1) := (Sρ51.a11 (s := 1) (f := 13) (by first | assumption | decide | exact xs_ (by decide) | exact xc_ (by decide) | exact x31_ (by decide) | omega) (by first | assumption | decide | exact xs_ (by decide) | exact xc_ (by decide) | exact x31_ (by decide) | omega) (by first | assumption | decide | exact xs_ (by decide) | exact xc_ (by decide) | exact x31_ (by decide) | omega)).trans ((mu_ne (by first | assumption | decide | exact xs_ (by decide) | exact xc_ (by decide) | exact x31_ (by decide) | omega)).trans ((mu_ne (by first | assumption | decide | exact xs_ (by decide) | exact xc_ (by decide) | exact x31_ (by decide) | omega)).trans ((mu_ne (by first | assumption | decide | exact xs_ (by decide) | exact xc_ (by decide) | exact x31_ (by decide) | omega)).trans ((mu_ne (by first | assumption | decide | exact xs_ (by decide) | exact xc_ (by decide) | exact x31_ (by decide) | omega)).trans ((mu_ne (by first | assumption | decide | exact xs_ (by decide) | exact xc_ (by decide) | exact x31_ (by decide) | omega)).trans ((mu_ne (by first | assumption | decide | exact xs_ (by decide) | exact xc_ (by decide) | exact x31_ (by decide) | omega)).trans ((mu_ne (by first | assumption | decide | exact xs_ (by decide) | exact xc_ (by decide) | exact x31_ (by decide) | omega)).trans ((mu_ne (by first | assumption | decide | exact xs_ (by decide) | exact xc_ (by decide) | exact x31_ (by decide) | omega)).trans ((mu_ne (by first | assumption | decide | exact xs_ (by decide) | exact xc_ (by decide) | exact x31_ (by decide) | omega)).trans ((mu_ne (by first | assumption | decide | exact xs_ (by decide) | exact xc_ (by decide) | exact x31_ (by decide) | omega)).trans ((mu_ne (by first | assumption | decide | exact xs_ (by decide) | exact xc_ (by decide) | exact x31_ (by decide) | omega)).trans ((mu_ne (by first | assumption | decide | exact xs_ (by decide) | exact xc_ (by decide) | exact x31_ (by decide) | omega)).trans (rfl)))))))))))))
  rw [e54] at o53 ⊢
  refine z_inv3 hM dX6_copyLane_17 vl_RX6_173 rfl rfl rfl (Nat.le_of_ble_eq_true rfl) (Nat.le_of_ble_eq_true rfl) ?_
  refine y_set (by first | assumption | decide | exact xs_ (by decide) | exact xc_ (by decide) | exact x31_ (by decide) | omega) (by first | assumption | decide | exact xs_ (by decide) | exact xc_ (by decide) | exact x31_ (by decide) | omega) ⟨fun h => by omega, fun h => by omega⟩ ?_
  obtain ⟨ρ55, e_ρ55⟩ : ∃ zz_, zz_ = mu ρ51 31 0 ((22 * m) + 13) (V 11 l 1) := ⟨_, rfl⟩
  rw [← e_ρ55]
  have Sρ55 : SB t σ0 (mu (mu (mu (mu (mu (mu (mu (mu (mu (mu (mu (mu (mu V 7 m 1 (V 7 l 1)) 7 m 2 (V 7 l 2)) 7 m 3 (V 7 l 3)) 7 m 4 (V 7 l 4)) 7 m 5 (V 7 l 5)) 7 m 6 (V 7 l 6)) 7 m 10 (V 7 l 10)) 7 m 12 (V 7 l 12)) 7 m 13 (V 7 l 13)) 7 m 14 (V 7 l 14)) 7 m 15 (V 7 l 15)) 11 m 0 (V 11 l 0)) 11 m 1 (V 11 l 1)) ρ55 := by rw [e_ρ55, show ((22 * m) + 13) = 22 * m + 13 from by omega]; exact Sρ51.p11 (by first | assumption | decide | exact xs_ (by decide) | exact xc_ (by decide) | exact x31_ (by decide) | omega) (by first | assumption | decide | exact xs_ (by decide) | exact xc_ (by decide) | exact x31_ (by decide) | omega) (by first | assumption | decide | exact xs_ (by decide) | exact xc_ (by decide) | exact x31_ (by decide) | omega)
  have r16a_ρ55 : ρ55 31 0 (22 * l + 16) = (if V 11 l 3 = 0 then (0 : Int) else 1) := by rw [e_ρ55]; exact (mu_ne (by first | assumption | decide | exact xs_ (by decide) | exact xc_ (by decide) | exact x31_ (by decide) | omega)).trans r16a_ρ51
  have r17b_ρ55 : ρ55 31 0 (22 * l + 17) = 0 := by rw [e_ρ55]; exact (mu_ne (by first | assumption | decide | exact xs_ (by decide) | exact xc_ (by decide) | exact x31_ (by decide) | omega)).trans r17b_ρ51
  have Yρ55 : FX m (mu (mu (mu (mu (mu (mu (mu (mu (mu (mu (mu (mu (mu V 7 m 1 (V 7 l 1)) 7 m 2 (V 7 l 2)) 7 m 3 (V 7 l 3)) 7 m 4 (V 7 l 4)) 7 m 5 (V 7 l 5)) 7 m 6 (V 7 l 6)) 7 m 10 (V 7 l 10)) 7 m 12 (V 7 l 12)) 7 m 13 (V 7 l 13)) 7 m 14 (V 7 l 14)) 7 m 15 (V 7 l 15)) 11 m 0 (V 11 l 0)) 11 m 1 (V 11 l 1)) ρ55 := (Yρ51).e (fun m a b c => by rw [e_ρ55]; exact mu_ne (by first | assumption | decide | exact xs_ (by decide) | exact xc_ (by decide) | exact x31_ (by decide) | omega)) (fun m y c => mu_ne (by first | assumption | decide | exact xs_ (by decide) | exact xc_ (by decide) | exact x31_ (by decide) | omega))
  have Xρ55 : KX t m (mu (mu (mu (mu (mu (mu (mu (mu (mu (mu (mu (mu (mu V 7 m 1 (V 7 l 1)) 7 m 2 (V 7 l 2)) 7 m 3 (V 7 l 3)) 7 m 4 (V 7 l 4)) 7 m 5 (V 7 l 5)) 7 m 6 (V 7 l 6)) 7 m 10 (V 7 l 10)) 7 m 12 (V 7 l 12)) 7 m 13 (V 7 l 13)) 7 m 14 (V 7 l 14)) 7 m 15 (V 7 l 15)) 11 m 0 (V 11 l 0)) 11 m 1 (V 11 l 1)) ρ55 := (Xρ51).e (fun m a b c => by rw [e_ρ55]; exact ⟨mu_ne (by first | assumption | decide | exact xs_ (by decide) | exact xc_ (by decide) | exact x31_ (by decide) | omega), mu_ne (by first | assumption | decide | exact xs_ (by decide) | exact xc_ (by decide) | exact x31_ (by decide) | omega)⟩) (fun m c => mu_ne (by first | assumption | decide | exact xs_ (by decide) | exact xc_ (by decide) | exact x31_ (by decide) | omega))
  refine r_iincE hC (14) dX6_copyLane_20 rfl rfl (by first | assumption | decide | exact xs_ (by decide) | exact xc_ (by decide) | exact x31_ (by decide) | omega) (by unfold inR; omega) ?_
  show K _ [_, _, _, _] _ _
  refine r_goto (tgt := 2) hC dX6_copyLane_23 rfl ?_
  refine r_iload_n hC dX6_copyLane_2 rfl ?_
  refine r_bipush hC dX6_copyLane_3 rfl ?_
  refine r_icmp_ge (tgt := 26) hC dX6_copyLane_5 rfl (fun h56 => by omega) (fun h56 => ?_)
  refine r_aload_n hC dX6_copyLane_8 rfl ?_
  refine r_iload_n hC dX6_copyLane_9 rfl ?_
  refine r_iload_n hC dX6_copyLane_10 rfl ?_
  refine r_aload_n hC dX6_copyLane_11 rfl ?_
  refine r_iload_n hC dX6_copyLane_12 rfl ?_
  refine r_iload_n hC dX6_copyLane_13 rfl ?_
  refine z_inv2 hM dX6_copyLane_14 vl_RX6_80 rfl rfl rfl (Nat.le_of_ble_eq_true rfl) (Nat.le_of_ble_eq_true rfl) ?_
  refine y_of (by first | assumption | decide | exact xs_ (by decide) | exact xc_ (by decide) | exact x31_ (by decide) | omega) (by first | assumption | decide | exact xs_ (by decide) | exact xc_ (by decide) | exact x31_ (by decide) | omega) (by first | assumption | decide | exact xs_ (by decide) | exact xc_ (by decide) | exact x31_ (by decide) | omega) (fun o57 => ?_)
  have e58 : ρ55 31 0 (22 * l + 14) = (V 11 l 2) := (Sρ55.a11 (s := 2) (f := 14) (by first | assumption | decide | exact xs_ (by decide) | exact xc_ (by decide) | exact x31_ (by decide) | omega) (by first | assumption | decide | exact xs_ (by decide) | exact xc_ (by decide) | exact x31_ (by decide) | omega) (by first | assumption | decide | exact xs_ (by decide) | exact xc_ (by decide) | exact x31_ (by decide) | omega)).trans ((mu_ne (by first | assumption | decide | exact xs_ (by decide) | exact xc_ (by decide) | exact x31_ (by decide) | omega)).trans ((mu_ne (by first | assumption | decide | exact xs_ (by decide) | exact xc_ (by decide) | exact x31_ (by decide) | omega)).trans ((mu_ne (by first | assumption | decide | exact xs_ (by decide) | exact xc_ (by decide) | exact x31_ (by decide) | omega)).trans ((mu_ne (by first | assumption | decide | exact xs_ (by decide) | exact xc_ (by decide) | exact x31_ (by decide) | omega)).trans ((mu_ne (by first | assumption | decide | exact xs_ (by decide) | exact xc_ (by decide) | exact x31_ (by decide) | omega)).trans ((mu_ne (by first | assumption | decide | exact xs_ (by decide) | exact xc_ (by decide) | exact x31_ (by decide) | omega)).trans ((mu_ne (by first | assumption | decide | exact xs_ (by decide) | exact xc_ (by decide) | exact x31_ (by decide) | omega)).trans ((mu_ne (by first | assumption | decide | exact xs_ (by decide) | exact xc_ (by decide) | exact x31_ (by decide) | omega)).trans ((mu_ne (by first | assumption | decide | exact xs_ (by decide) | exact xc_ (by decide) | exact x31_ (by decide) | omega)).trans ((mu_ne (by first | assumption | decide | exact xs_ (by decide) | exact xc_ (by decide) | exact x31_ (by decide) | omega)).trans ((mu_ne (by first | assumption | decide | exact xs_ (by decide) | exact xc_ (by decide) | exact x31_ (by decide) | omega)).trans ((mu_ne (by first | assumption | decide | exact xs_ (by decide) | exact xc_ (by decide) | exact x31_ (by decide) | omega)).trans ((mu_ne (by first | assumption | decide | exact xs_ (by decide) | exact xc_ (by decide) | exact x31_ (by decide) | omega)).trans (rfl))))))))))))))
  rw [e58] at o57 ⊢
  refine z_inv3 hM dX6_copyLane_17 vl_RX6_173 rfl rfl rfl (Nat.le_of_ble_eq_true rfl) (Nat.le_of_ble_eq_true rfl) ?_
  refine y_set (by first | assumption | decide | exact xs_ (by decide) | exact xc_ (by decide) | exact x31_ (by decide) | omega) (by first | assumption | decide | exact xs_ (by decide) | exact xc_ (by decide) | exact x31_ (by decide) | omega) ⟨fun h => by omega, fun h => by omega⟩ ?_
  obtain ⟨ρ59, e_ρ59⟩ : ∃ zz_, zz_ = mu ρ55 31 0 ((22 * m) + 14) (V 11 l 2) := ⟨_, rfl⟩
  rw [← e_ρ59]
  have Sρ59 : SB t σ0 (mu (mu (mu (mu (mu (mu (mu (mu (mu (mu (mu (mu (mu (mu V 7 m 1 (V 7 l 1)) 7 m 2 (V 7 l 2)) 7 m 3 (V 7 l 3)) 7 m 4 (V 7 l 4)) 7 m 5 (V 7 l 5)) 7 m 6 (V 7 l 6)) 7 m 10 (V 7 l 10)) 7 m 12 (V 7 l 12)) 7 m 13 (V 7 l 13)) 7 m 14 (V 7 l 14)) 7 m 15 (V 7 l 15)) 11 m 0 (V 11 l 0)) 11 m 1 (V 11 l 1)) 11 m 2 (V 11 l 2)) ρ59 := by rw [e_ρ59, show ((22 * m) + 14) = 22 * m + 14 from by omega]; exact Sρ55.p11 (by first | assumption | decide | exact xs_ (by decide) | exact xc_ (by decide) | exact x31_ (by decide) | omega) (by first | assumption | decide | exact xs_ (by decide) | exact xc_ (by decide) | exact x31_ (by decide) | omega) (by first | assumption | decide | exact xs_ (by decide) | exact xc_ (by decide) | exact x31_ (by decide) | omega)
  have r16a_ρ59 : ρ59 31 0 (22 * l + 16) = (if V 11 l 3 = 0 then (0 : Int) else 1) := by rw [e_ρ59]; exact (mu_ne (by first | assumption | decide | exact xs_ (by decide) | exact xc_ (by decide) | exact x31_ (by decide) | omega)).trans r16a_ρ55
  have r17b_ρ59 : ρ59 31 0 (22 * l + 17) = 0 := by rw [e_ρ59]; exact (mu_ne (by first | assumption | decide | exact xs_ (by decide) | exact xc_ (by decide) | exact x31_ (by decide) | omega)).trans r17b_ρ55
  have Yρ59 : FX m (mu (mu (mu (mu (mu (mu (mu (mu (mu (mu (mu (mu (mu (mu V 7 m 1 (V 7 l 1)) 7 m 2 (V 7 l 2)) 7 m 3 (V 7 l 3)) 7 m 4 (V 7 l 4)) 7 m 5 (V 7 l 5)) 7 m 6 (V 7 l 6)) 7 m 10 (V 7 l 10)) 7 m 12 (V 7 l 12)) 7 m 13 (V 7 l 13)) 7 m 14 (V 7 l 14)) 7 m 15 (V 7 l 15)) 11 m 0 (V 11 l 0)) 11 m 1 (V 11 l 1)) 11 m 2 (V 11 l 2)) ρ59 := (Yρ55).e (fun m a b c => by rw [e_ρ59]; exact mu_ne (by first | assumption | decide | exact xs_ (by decide) | exact xc_ (by decide) | exact x31_ (by decide) | omega)) (fun m y c => mu_ne (by first | assumption | decide | exact xs_ (by decide) | exact xc_ (by decide) | exact x31_ (by decide) | omega))
  have Xρ59 : KX t m (mu (mu (mu (mu (mu (mu (mu (mu (mu (mu (mu (mu (mu (mu V 7 m 1 (V 7 l 1)) 7 m 2 (V 7 l 2)) 7 m 3 (V 7 l 3)) 7 m 4 (V 7 l 4)) 7 m 5 (V 7 l 5)) 7 m 6 (V 7 l 6)) 7 m 10 (V 7 l 10)) 7 m 12 (V 7 l 12)) 7 m 13 (V 7 l 13)) 7 m 14 (V 7 l 14)) 7 m 15 (V 7 l 15)) 11 m 0 (V 11 l 0)) 11 m 1 (V 11 l 1)) 11 m 2 (V 11 l 2)) ρ59 := (Xρ55).e (fun m a b c => by rw [e_ρ59]; exact ⟨mu_ne (by first | assumption | decide | exact xs_ (by decide) | exact xc_ (by decide) | exact x31_ (by decide) | omega), mu_ne (by first | assumption | decide | exact xs_ (by decide) | exact xc_ (by decide) | exact x31_ (by decide) | omega)⟩) (fun m c => mu_ne (by first | assumption | decide | exact xs_ (by decide) | exact xc_ (by decide) | exact x31_ (by decide) | omega))
  refine r_iincE hC (15) dX6_copyLane_20 rfl rfl (by first | assumption | decide | exact xs_ (by decide) | exact xc_ (by decide) | exact x31_ (by decide) | omega) (by unfold inR; omega) ?_
  refine r_goto (tgt := 2) hC dX6_copyLane_23 rfl ?_
  refine r_iload_n hC dX6_copyLane_2 rfl ?_
  refine r_bipush hC dX6_copyLane_3 rfl ?_
  refine r_icmp_ge (tgt := 26) hC dX6_copyLane_5 rfl (fun h60 => by omega) (fun h60 => ?_)
  refine r_aload_n hC dX6_copyLane_8 rfl ?_
  refine r_iload_n hC dX6_copyLane_9 rfl ?_
  refine r_iload_n hC dX6_copyLane_10 rfl ?_
  refine r_aload_n hC dX6_copyLane_11 rfl ?_
  refine r_iload_n hC dX6_copyLane_12 rfl ?_
  refine r_iload_n hC dX6_copyLane_13 rfl ?_
  refine z_inv2 hM dX6_copyLane_14 vl_RX6_80 rfl rfl rfl (Nat.le_of_ble_eq_true rfl) (Nat.le_of_ble_eq_true rfl) ?_
  refine y_of (by first | assumption | decide | exact xs_ (by decide) | exact xc_ (by decide) | exact x31_ (by decide) | omega) (by first | assumption | decide | exact xs_ (by decide) | exact xc_ (by decide) | exact x31_ (by decide) | omega) (by first | assumption | decide | exact xs_ (by decide) | exact xc_ (by decide) | exact x31_ (by decide) | omega) (fun o61 => ?_)
  have e62 : ρ59 31 0 (22 * l + 15) = (V 11 l 3) := (Sρ59.a11 (s := 3) (f := 15) (by first | assumption | decide | exact xs_ (by decide) | exact xc_ (by decide) | exact x31_ (by decide) | omega) (by first | assumption | decide | exact xs_ (by decide) | exact xc_ (by decide) | exact x31_ (by decide) | omega) (by first | assumption | decide | exact xs_ (by decide) | exact xc_ (by decide) | exact x31_ (by decide) | omega)).trans ((mu_ne (by first | assumption | decide | exact xs_ (by decide) | exact xc_ (by decide) | exact x31_ (by decide) | omega)).trans ((mu_ne (by first | assumption | decide | exact xs_ (by decide) | exact xc_ (by decide) | exact x31_ (by decide) | omega)).trans ((mu_ne (by first | assumption | decide | exact xs_ (by decide) | exact xc_ (by decide) | exact x31_ (by decide) | omega)).trans ((mu_ne (by first | assumption | decide | exact xs_ (by decide) | exact xc_ (by decide) | exact x31_ (by decide) | omega)).trans ((mu_ne (by first | assumption | decide | exact xs_ (by decide) | exact xc_ (by decide) | exact x31_ (by decide) | omega)).trans ((mu_ne (by first | assumption | decide | exact xs_ (by decide) | exact xc_ (by decide) | exact x31_ (by decide) | omega)).trans ((mu_ne (by first | assumption | decide | exact xs_ (by decide) | exact xc_ (by decide) | exact x31_ (by decide) | omega)).trans ((mu_ne (by first | assumption | decide | exact xs_ (by decide) | exact xc_ (by decide) | exact x31_ (by decide) | omega)).trans ((mu_ne (by first | assumption | decide | exact xs_ (by decide) | exact xc_ (by decide) | exact x31_ (by decide) | omega)).trans ((mu_ne (by first | assumption | decide | exact xs_ (by decide) | exact xc_ (by decide) | exact x31_ (by decide) | omega)).trans ((mu_ne (by first | assumption | decide | exact xs_ (by decide) | exact xc_ (by decide) | exact x31_ (by decide) | omega)).trans ((mu_ne (by first | assumption | decide | exact xs_ (by decide) | exact xc_ (by decide) | exact x31_ (by decide) | omega)).trans ((mu_ne (by first | assumption | decide | exact xs_ (by decide) | exact xc_ (by decide) | exact x31_ (by decide) | omega)).trans ((mu_ne (by first | assumption | decide | exact xs_ (by decide) | exact xc_ (by decide) | exact x31_ (by decide) | omega)).trans (rfl)))))))))))))))
  rw [e62] at o61 ⊢
  refine z_inv3 hM dX6_copyLane_17 vl_RX6_173 rfl rfl rfl (Nat.le_of_ble_eq_true rfl) (Nat.le_of_ble_eq_true rfl) ?_
  refine y_set (by first | assumption | decide | exact xs_ (by decide) | exact xc_ (by decide) | exact x31_ (by decide) | omega) (by first | assumption | decide | exact xs_ (by decide) | exact xc_ (by decide) | exact x31_ (by decide) | omega) ⟨fun h => by omega, fun h => by omega⟩ ?_
  obtain ⟨ρ63, e_ρ63⟩ : ∃ zz_, zz_ = mu ρ59 31 0 ((22 * m) + 15) (V 11 l 3) := ⟨_, rfl⟩
  rw [← e_ρ63]
  have Sρ63 : SB t σ0 (mu (mu (mu (mu (mu (mu (mu (mu (mu (mu (mu (mu (mu (mu (mu V 7 m 1 (V 7 l 1)) 7 m 2 (V 7 l 2)) 7 m 3 (V 7 l 3)) 7 m 4 (V 7 l 4)) 7 m 5 (V 7 l 5)) 7 m 6 (V 7 l 6)) 7 m 10 (V 7 l 10)) 7 m 12 (V 7 l 12)) 7 m 13 (V 7 l 13)) 7 m 14 (V 7 l 14)) 7 m 15 (V 7 l 15)) 11 m 0 (V 11 l 0)) 11 m 1 (V 11 l 1)) 11 m 2 (V 11 l 2)) 11 m 3 (V 11 l 3)) ρ63 := by rw [e_ρ63, show ((22 * m) + 15) = 22 * m + 15 from by omega]; exact Sρ59.p11 (by first | assumption | decide | exact xs_ (by decide) | exact xc_ (by decide) | exact x31_ (by decide) | omega) (by first | assumption | decide | exact xs_ (by decide) | exact xc_ (by decide) | exact x31_ (by decide) | omega) (by first | assumption | decide | exact xs_ (by decide) | exact xc_ (by decide) | exact x31_ (by decide) | omega)
  have r16a_ρ63 : ρ63 31 0 (22 * l + 16) = (if V 11 l 3 = 0 then (0 : Int) else 1) := by rw [e_ρ63]; exact (mu_ne (by first | assumption | decide | exact xs_ (by decide) | exact xc_ (by decide) | exact x31_ (by decide) | omega)).trans r16a_ρ59
  have r17b_ρ63 : ρ63 31 0 (22 * l + 17) = 0 := by rw [e_ρ63]; exact (mu_ne (by first | assumption | decide | exact xs_ (by decide) | exact xc_ (by decide) | exact x31_ (by decide) | omega)).trans r17b_ρ59
  have Yρ63 : FX m (mu (mu (mu (mu (mu (mu (mu (mu (mu (mu (mu (mu (mu (mu (mu V 7 m 1 (V 7 l 1)) 7 m 2 (V 7 l 2)) 7 m 3 (V 7 l 3)) 7 m 4 (V 7 l 4)) 7 m 5 (V 7 l 5)) 7 m 6 (V 7 l 6)) 7 m 10 (V 7 l 10)) 7 m 12 (V 7 l 12)) 7 m 13 (V 7 l 13)) 7 m 14 (V 7 l 14)) 7 m 15 (V 7 l 15)) 11 m 0 (V 11 l 0)) 11 m 1 (V 11 l 1)) 11 m 2 (V 11 l 2)) 11 m 3 (V 11 l 3)) ρ63 := (Yρ59).e (fun m a b c => by rw [e_ρ63]; exact mu_ne (by first | assumption | decide | exact xs_ (by decide) | exact xc_ (by decide) | exact x31_ (by decide) | omega)) (fun m y c => mu_ne (by first | assumption | decide | exact xs_ (by decide) | exact xc_ (by decide) | exact x31_ (by decide) | omega))
  have Xρ63 : KX t m (mu (mu (mu (mu (mu (mu (mu (mu (mu (mu (mu (mu (mu (mu (mu V 7 m 1 (V 7 l 1)) 7 m 2 (V 7 l 2)) 7 m 3 (V 7 l 3)) 7 m 4 (V 7 l 4)) 7 m 5 (V 7 l 5)) 7 m 6 (V 7 l 6)) 7 m 10 (V 7 l 10)) 7 m 12 (V 7 l 12)) 7 m 13 (V 7 l 13)) 7 m 14 (V 7 l 14)) 7 m 15 (V 7 l 15)) 11 m 0 (V 11 l 0)) 11 m 1 (V 11 l 1)) 11 m 2 (V 11 l 2)) 11 m 3 (V 11 l 3)) ρ63 := (Xρ59).e (fun m a b c => by rw [e_ρ63]; exact ⟨mu_ne (by first | assumption | decide | exact xs_ (by decide) | exact xc_ (by decide) | exact x31_ (by decide) | omega), mu_ne (by first | assumption | decide | exact xs_ (by decide) | exact xc_ (by decide) | exact x31_ (by decide) | omega)⟩) (fun m c => mu_ne (by first | assumption | decide | exact xs_ (by decide) | exact xc_ (by decide) | exact x31_ (by decide) | omega))
  refine r_iincE hC (16) dX6_copyLane_20 rfl rfl (by first | assumption | decide | exact xs_ (by decide) | exact xc_ (by decide) | exact x31_ (by decide) | omega) (by unfold inR; omega) ?_
  refine r_goto (tgt := 2) hC dX6_copyLane_23 rfl ?_
  refine r_iload_n hC dX6_copyLane_2 rfl ?_
  refine r_bipush hC dX6_copyLane_3 rfl ?_
  refine r_icmp_ge (tgt := 26) hC dX6_copyLane_5 rfl (fun h64 => by omega) (fun h64 => ?_)
  refine r_aload_n hC dX6_copyLane_8 rfl ?_
  refine r_iload_n hC dX6_copyLane_9 rfl ?_
  refine r_iload_n hC dX6_copyLane_10 rfl ?_
  refine r_aload_n hC dX6_copyLane_11 rfl ?_
  refine r_iload_n hC dX6_copyLane_12 rfl ?_
  refine r_iload_n hC dX6_copyLane_13 rfl ?_
  refine z_inv2 hM dX6_copyLane_14 vl_RX6_80 rfl rfl rfl (Nat.le_of_ble_eq_true rfl) (Nat.le_of_ble_eq_true rfl) ?_
  refine y_of (by first | assumption | decide | exact xs_ (by decide) | exact xc_ (by decide) | exact x31_ (by decide) | omega) (by first | assumption | decide | exact xs_ (by decide) | exact xc_ (by decide) | exact x31_ (by decide) | omega) (by first | assumption | decide | exact xs_ (by decide) | exact xc_ (by decide) | exact x31_ (by decide) | omega) (fun o65 => ?_)
  rw [r16a_ρ63]
  refine z_inv3 hM dX6_copyLane_17 vl_RX6_173 rfl rfl rfl (Nat.le_of_ble_eq_true rfl) (Nat.le_of_ble_eq_true rfl) ?_
  refine y_set (by first | assumption | decide | exact xs_ (by decide) | exact xc_ (by decide) | exact x31_ (by decide) | omega) (by first | assumption | decide | exact xs_ (by decide) | exact xc_ (by decide) | exact x31_ (by decide) | omega) ⟨fun h => by omega, fun h => by omega⟩ ?_
  obtain ⟨ρ66, e_ρ66⟩ : ∃ zz_, zz_ = mu ρ63 31 0 ((22 * m) + 16) (if V 11 l 3 = 0 then (0 : Int) else 1) := ⟨_, rfl⟩
  rw [← e_ρ66]
  have Sρ66 : SB t σ0 (mu (mu (mu (mu (mu (mu (mu (mu (mu (mu (mu (mu (mu (mu (mu V 7 m 1 (V 7 l 1)) 7 m 2 (V 7 l 2)) 7 m 3 (V 7 l 3)) 7 m 4 (V 7 l 4)) 7 m 5 (V 7 l 5)) 7 m 6 (V 7 l 6)) 7 m 10 (V 7 l 10)) 7 m 12 (V 7 l 12)) 7 m 13 (V 7 l 13)) 7 m 14 (V 7 l 14)) 7 m 15 (V 7 l 15)) 11 m 0 (V 11 l 0)) 11 m 1 (V 11 l 1)) 11 m 2 (V 11 l 2)) 11 m 3 (V 11 l 3)) ρ66 := by rw [e_ρ66, show ((22 * m) + 16) = 22 * m + 16 from by omega]; exact Sρ63.px (by first | assumption | decide | exact xs_ (by decide) | exact xc_ (by decide) | exact x31_ (by decide) | omega)
  have r16a_ρ66 : ρ66 31 0 (22 * l + 16) = (if V 11 l 3 = 0 then (0 : Int) else 1) := by rw [e_ρ66]; exact (mu_ne (by first | assumption | decide | exact xs_ (by decide) | exact xc_ (by decide) | exact x31_ (by decide) | omega)).trans r16a_ρ63
  have r17b_ρ66 : ρ66 31 0 (22 * l + 17) = 0 := by rw [e_ρ66]; exact (mu_ne (by first | assumption | decide | exact xs_ (by decide) | exact xc_ (by decide) | exact x31_ (by decide) | omega)).trans r17b_ρ63
  have r16_ρ66 : ρ66 31 0 (22 * m + 16) = (if V 11 l 3 = 0 then (0 : Int) else 1) := by rw [e_ρ66, show ((22 * m) + 16) = 22 * m + 16 from by omega]; exact mu_self _ _ _ _ _
  have Yρ66 : FX m (mu (mu (mu (mu (mu (mu (mu (mu (mu (mu (mu (mu (mu (mu (mu V 7 m 1 (V 7 l 1)) 7 m 2 (V 7 l 2)) 7 m 3 (V 7 l 3)) 7 m 4 (V 7 l 4)) 7 m 5 (V 7 l 5)) 7 m 6 (V 7 l 6)) 7 m 10 (V 7 l 10)) 7 m 12 (V 7 l 12)) 7 m 13 (V 7 l 13)) 7 m 14 (V 7 l 14)) 7 m 15 (V 7 l 15)) 11 m 0 (V 11 l 0)) 11 m 1 (V 11 l 1)) 11 m 2 (V 11 l 2)) 11 m 3 (V 11 l 3)) ρ66 := (Yρ63).e (fun m a b c => by rw [e_ρ66]; exact mu_ne (by first | assumption | decide | exact xs_ (by decide) | exact xc_ (by decide) | exact x31_ (by decide) | omega)) (fun m y c => rfl)
  have Xρ66 : KX t m (mu (mu (mu (mu (mu (mu (mu (mu (mu (mu (mu (mu (mu (mu (mu V 7 m 1 (V 7 l 1)) 7 m 2 (V 7 l 2)) 7 m 3 (V 7 l 3)) 7 m 4 (V 7 l 4)) 7 m 5 (V 7 l 5)) 7 m 6 (V 7 l 6)) 7 m 10 (V 7 l 10)) 7 m 12 (V 7 l 12)) 7 m 13 (V 7 l 13)) 7 m 14 (V 7 l 14)) 7 m 15 (V 7 l 15)) 11 m 0 (V 11 l 0)) 11 m 1 (V 11 l 1)) 11 m 2 (V 11 l 2)) 11 m 3 (V 11 l 3)) ρ66 := (Xρ63).e (fun m a b c => by rw [e_ρ66]; exact ⟨mu_ne (by first | assumption | decide | exact xs_ (by decide) | exact xc_ (by decide) | exact x31_ (by decide) | omega), mu_ne (by first | assumption | decide | exact xs_ (by decide) | exact xc_ (by decide) | exact x31_ (by decide) | omega)⟩) (fun m c => rfl)
  refine r_iincE hC (17) dX6_copyLane_20 rfl rfl (by first | assumption | decide | exact xs_ (by decide) | exact xc_ (by decide) | exact x31_ (by decide) | omega) (by unfold inR; omega) ?_
  show K _ [_, _, _, _] _ _
  refine r_goto (tgt := 2) hC dX6_copyLane_23 rfl ?_
  refine r_iload_n hC dX6_copyLane_2 rfl ?_
  refine r_bipush hC dX6_copyLane_3 rfl ?_
  refine r_icmp_ge (tgt := 26) hC dX6_copyLane_5 rfl (fun h67 => by omega) (fun h67 => ?_)
  refine r_aload_n hC dX6_copyLane_8 rfl ?_
  refine r_iload_n hC dX6_copyLane_9 rfl ?_
  refine r_iload_n hC dX6_copyLane_10 rfl ?_
  refine r_aload_n hC dX6_copyLane_11 rfl ?_
  refine r_iload_n hC dX6_copyLane_12 rfl ?_
  refine r_iload_n hC dX6_copyLane_13 rfl ?_
  refine z_inv2 hM dX6_copyLane_14 vl_RX6_80 rfl rfl rfl (Nat.le_of_ble_eq_true rfl) (Nat.le_of_ble_eq_true rfl) ?_
  refine y_of (by first | assumption | decide | exact xs_ (by decide) | exact xc_ (by decide) | exact x31_ (by decide) | omega) (by first | assumption | decide | exact xs_ (by decide) | exact xc_ (by decide) | exact x31_ (by decide) | omega) (by first | assumption | decide | exact xs_ (by decide) | exact xc_ (by decide) | exact x31_ (by decide) | omega) (fun o68 => ?_)
  rw [r17b_ρ66]
  refine z_inv3 hM dX6_copyLane_17 vl_RX6_173 rfl rfl rfl (Nat.le_of_ble_eq_true rfl) (Nat.le_of_ble_eq_true rfl) ?_
  refine y_set (by first | assumption | decide | exact xs_ (by decide) | exact xc_ (by decide) | exact x31_ (by decide) | omega) (by first | assumption | decide | exact xs_ (by decide) | exact xc_ (by decide) | exact x31_ (by decide) | omega) ⟨fun h => by omega, fun h => by omega⟩ ?_
  obtain ⟨ρ69, e_ρ69⟩ : ∃ zz_, zz_ = mu ρ66 31 0 ((22 * m) + 17) 0 := ⟨_, rfl⟩
  rw [← e_ρ69]
  have Sρ69 : SB t σ0 (mu (mu (mu (mu (mu (mu (mu (mu (mu (mu (mu (mu (mu (mu (mu V 7 m 1 (V 7 l 1)) 7 m 2 (V 7 l 2)) 7 m 3 (V 7 l 3)) 7 m 4 (V 7 l 4)) 7 m 5 (V 7 l 5)) 7 m 6 (V 7 l 6)) 7 m 10 (V 7 l 10)) 7 m 12 (V 7 l 12)) 7 m 13 (V 7 l 13)) 7 m 14 (V 7 l 14)) 7 m 15 (V 7 l 15)) 11 m 0 (V 11 l 0)) 11 m 1 (V 11 l 1)) 11 m 2 (V 11 l 2)) 11 m 3 (V 11 l 3)) ρ69 := by rw [e_ρ69, show ((22 * m) + 17) = 22 * m + 17 from by omega]; exact Sρ66.px (by first | assumption | decide | exact xs_ (by decide) | exact xc_ (by decide) | exact x31_ (by decide) | omega)
  have r16a_ρ69 : ρ69 31 0 (22 * l + 16) = (if V 11 l 3 = 0 then (0 : Int) else 1) := by rw [e_ρ69]; exact (mu_ne (by first | assumption | decide | exact xs_ (by decide) | exact xc_ (by decide) | exact x31_ (by decide) | omega)).trans r16a_ρ66
  have r17b_ρ69 : ρ69 31 0 (22 * l + 17) = 0 := by rw [e_ρ69]; exact (mu_ne (by first | assumption | decide | exact xs_ (by decide) | exact xc_ (by decide) | exact x31_ (by decide) | omega)).trans r17b_ρ66
  have r16c_ρ69 : ρ69 31 0 (22 * m + 16) = (if V 11 l 3 = 0 then (0 : Int) else 1) := by rw [e_ρ69]; exact (mu_ne (by first | assumption | decide | exact xs_ (by decide) | exact xc_ (by decide) | exact x31_ (by decide) | omega)).trans r16_ρ66
  have r17_ρ69 : ρ69 31 0 (22 * m + 17) = 0 := by rw [e_ρ69, show ((22 * m) + 17) = 22 * m + 17 from by omega]; exact mu_self _ _ _ _ _
  have Yρ69 : FX m (mu (mu (mu (mu (mu (mu (mu (mu (mu (mu (mu (mu (mu (mu (mu V 7 m 1 (V 7 l 1)) 7 m 2 (V 7 l 2)) 7 m 3 (V 7 l 3)) 7 m 4 (V 7 l 4)) 7 m 5 (V 7 l 5)) 7 m 6 (V 7 l 6)) 7 m 10 (V 7 l 10)) 7 m 12 (V 7 l 12)) 7 m 13 (V 7 l 13)) 7 m 14 (V 7 l 14)) 7 m 15 (V 7 l 15)) 11 m 0 (V 11 l 0)) 11 m 1 (V 11 l 1)) 11 m 2 (V 11 l 2)) 11 m 3 (V 11 l 3)) ρ69 := (Yρ66).e (fun m a b c => by rw [e_ρ69]; exact mu_ne (by first | assumption | decide | exact xs_ (by decide) | exact xc_ (by decide) | exact x31_ (by decide) | omega)) (fun m y c => rfl)
  have Xρ69 : KX t m (mu (mu (mu (mu (mu (mu (mu (mu (mu (mu (mu (mu (mu (mu (mu V 7 m 1 (V 7 l 1)) 7 m 2 (V 7 l 2)) 7 m 3 (V 7 l 3)) 7 m 4 (V 7 l 4)) 7 m 5 (V 7 l 5)) 7 m 6 (V 7 l 6)) 7 m 10 (V 7 l 10)) 7 m 12 (V 7 l 12)) 7 m 13 (V 7 l 13)) 7 m 14 (V 7 l 14)) 7 m 15 (V 7 l 15)) 11 m 0 (V 11 l 0)) 11 m 1 (V 11 l 1)) 11 m 2 (V 11 l 2)) 11 m 3 (V 11 l 3)) ρ69 := (Xρ66).e (fun m a b c => by rw [e_ρ69]; exact ⟨mu_ne (by first | assumption | decide | exact xs_ (by decide) | exact xc_ (by decide) | exact x31_ (by decide) | omega), mu_ne (by first | assumption | decide | exact xs_ (by decide) | exact xc_ (by decide) | exact x31_ (by decide) | omega)⟩) (fun m c => rfl)
  refine r_iincE hC (18) dX6_copyLane_20 rfl rfl (by first | assumption | decide | exact xs_ (by decide) | exact xc_ (by decide) | exact x31_ (by decide) | omega) (by unfold inR; omega) ?_
  refine r_goto (tgt := 2) hC dX6_copyLane_23 rfl ?_
  refine r_iload_n hC dX6_copyLane_2 rfl ?_
  refine r_bipush hC dX6_copyLane_3 rfl ?_
  refine r_icmp_ge (tgt := 26) hC dX6_copyLane_5 rfl (fun h70 => by omega) (fun h70 => ?_)
  refine r_aload_n hC dX6_copyLane_8 rfl ?_
  refine r_iload_n hC dX6_copyLane_9 rfl ?_
  refine r_iload_n hC dX6_copyLane_10 rfl ?_
  refine r_aload_n hC dX6_copyLane_11 rfl ?_
  refine r_iload_n hC dX6_copyLane_12 rfl ?_
  refine r_iload_n hC dX6_copyLane_13 rfl ?_
  refine z_inv2 hM dX6_copyLane_14 vl_RX6_80 rfl rfl rfl (Nat.le_of_ble_eq_true rfl) (Nat.le_of_ble_eq_true rfl) ?_
  refine y_of (by first | assumption | decide | exact xs_ (by decide) | exact xc_ (by decide) | exact x31_ (by decide) | omega) (by first | assumption | decide | exact xs_ (by decide) | exact xc_ (by decide) | exact x31_ (by decide) | omega) (by first | assumption | decide | exact xs_ (by decide) | exact xc_ (by decide) | exact x31_ (by decide) | omega) (fun o71 => ?_)
  have e72 : ρ69 31 0 (22 * l + 18) = (V 11 l 4) := (Sρ69.a11 (s := 4) (f := 18) (by first | assumption | decide | exact xs_ (by decide) | exact xc_ (by decide) | exact x31_ (by decide) | omega) (by first | assumption | decide | exact xs_ (by decide) | exact xc_ (by decide) | exact x31_ (by decide) | omega) (by first | assumption | decide | exact xs_ (by decide) | exact xc_ (by decide) | exact x31_ (by decide) | omega)).trans ((mu_ne (by first | assumption | decide | exact xs_ (by decide) | exact xc_ (by decide) | exact x31_ (by decide) | omega)).trans ((mu_ne (by first | assumption | decide | exact xs_ (by decide) | exact xc_ (by decide) | exact x31_ (by decide) | omega)).trans ((mu_ne (by first | assumption | decide | exact xs_ (by decide) | exact xc_ (by decide) | exact x31_ (by decide) | omega)).trans ((mu_ne (by first | assumption | decide | exact xs_ (by decide) | exact xc_ (by decide) | exact x31_ (by decide) | omega)).trans ((mu_ne (by first | assumption | decide | exact xs_ (by decide) | exact xc_ (by decide) | exact x31_ (by decide) | omega)).trans ((mu_ne (by first | assumption | decide | exact xs_ (by decide) | exact xc_ (by decide) | exact x31_ (by decide) | omega)).trans ((mu_ne (by first | assumption | decide | exact xs_ (by decide) | exact xc_ (by decide) | exact x31_ (by decide) | omega)).trans ((mu_ne (by first | assumption | decide | exact xs_ (by decide) | exact xc_ (by decide) | exact x31_ (by decide) | omega)).trans ((mu_ne (by first | assumption | decide | exact xs_ (by decide) | exact xc_ (by decide) | exact x31_ (by decide) | omega)).trans ((mu_ne (by first | assumption | decide | exact xs_ (by decide) | exact xc_ (by decide) | exact x31_ (by decide) | omega)).trans ((mu_ne (by first | assumption | decide | exact xs_ (by decide) | exact xc_ (by decide) | exact x31_ (by decide) | omega)).trans ((mu_ne (by first | assumption | decide | exact xs_ (by decide) | exact xc_ (by decide) | exact x31_ (by decide) | omega)).trans ((mu_ne (by first | assumption | decide | exact xs_ (by decide) | exact xc_ (by decide) | exact x31_ (by decide) | omega)).trans ((mu_ne (by first | assumption | decide | exact xs_ (by decide) | exact xc_ (by decide) | exact x31_ (by decide) | omega)).trans ((mu_ne (by first | assumption | decide | exact xs_ (by decide) | exact xc_ (by decide) | exact x31_ (by decide) | omega)).trans (rfl))))))))))))))))
  rw [e72] at o71 ⊢
  refine z_inv3 hM dX6_copyLane_17 vl_RX6_173 rfl rfl rfl (Nat.le_of_ble_eq_true rfl) (Nat.le_of_ble_eq_true rfl) ?_
  refine y_set (by first | assumption | decide | exact xs_ (by decide) | exact xc_ (by decide) | exact x31_ (by decide) | omega) (by first | assumption | decide | exact xs_ (by decide) | exact xc_ (by decide) | exact x31_ (by decide) | omega) ⟨fun h => by omega, fun h => by omega⟩ ?_
  obtain ⟨ρ73, e_ρ73⟩ : ∃ zz_, zz_ = mu ρ69 31 0 ((22 * m) + 18) (V 11 l 4) := ⟨_, rfl⟩
  rw [← e_ρ73]
  have Sρ73 : SB t σ0 (mu (mu (mu (mu (mu (mu (mu (mu (mu (mu (mu (mu (mu (mu (mu (mu V 7 m 1 (V 7 l 1)) 7 m 2 (V 7 l 2)) 7 m 3 (V 7 l 3)) 7 m 4 (V 7 l 4)) 7 m 5 (V 7 l 5)) 7 m 6 (V 7 l 6)) 7 m 10 (V 7 l 10)) 7 m 12 (V 7 l 12)) 7 m 13 (V 7 l 13)) 7 m 14 (V 7 l 14)) 7 m 15 (V 7 l 15)) 11 m 0 (V 11 l 0)) 11 m 1 (V 11 l 1)) 11 m 2 (V 11 l 2)) 11 m 3 (V 11 l 3)) 11 m 4 (V 11 l 4)) ρ73 := by rw [e_ρ73, show ((22 * m) + 18) = 22 * m + 18 from by omega]; exact Sρ69.p11 (by first | assumption | decide | exact xs_ (by decide) | exact xc_ (by decide) | exact x31_ (by decide) | omega) (by first | assumption | decide | exact xs_ (by decide) | exact xc_ (by decide) | exact x31_ (by decide) | omega) (by first | assumption | decide | exact xs_ (by decide) | exact xc_ (by decide) | exact x31_ (by decide) | omega)
  have r16a_ρ73 : ρ73 31 0 (22 * l + 16) = (if V 11 l 3 = 0 then (0 : Int) else 1) := by rw [e_ρ73]; exact (mu_ne (by first | assumption | decide | exact xs_ (by decide) | exact xc_ (by decide) | exact x31_ (by decide) | omega)).trans r16a_ρ69
  have r17b_ρ73 : ρ73 31 0 (22 * l + 17) = 0 := by rw [e_ρ73]; exact (mu_ne (by first | assumption | decide | exact xs_ (by decide) | exact xc_ (by decide) | exact x31_ (by decide) | omega)).trans r17b_ρ69
  have r16c_ρ73 : ρ73 31 0 (22 * m + 16) = (if V 11 l 3 = 0 then (0 : Int) else 1) := by rw [e_ρ73]; exact (mu_ne (by first | assumption | decide | exact xs_ (by decide) | exact xc_ (by decide) | exact x31_ (by decide) | omega)).trans r16c_ρ69
  have r17d_ρ73 : ρ73 31 0 (22 * m + 17) = 0 := by rw [e_ρ73]; exact (mu_ne (by first | assumption | decide | exact xs_ (by decide) | exact xc_ (by decide) | exact x31_ (by decide) | omega)).trans r17_ρ69
  have Yρ73 : FX m (mu (mu (mu (mu (mu (mu (mu (mu (mu (mu (mu (mu (mu (mu (mu (mu V 7 m 1 (V 7 l 1)) 7 m 2 (V 7 l 2)) 7 m 3 (V 7 l 3)) 7 m 4 (V 7 l 4)) 7 m 5 (V 7 l 5)) 7 m 6 (V 7 l 6)) 7 m 10 (V 7 l 10)) 7 m 12 (V 7 l 12)) 7 m 13 (V 7 l 13)) 7 m 14 (V 7 l 14)) 7 m 15 (V 7 l 15)) 11 m 0 (V 11 l 0)) 11 m 1 (V 11 l 1)) 11 m 2 (V 11 l 2)) 11 m 3 (V 11 l 3)) 11 m 4 (V 11 l 4)) ρ73 := (Yρ69).e (fun m a b c => by rw [e_ρ73]; exact mu_ne (by first | assumption | decide | exact xs_ (by decide) | exact xc_ (by decide) | exact x31_ (by decide) | omega)) (fun m y c => mu_ne (by first | assumption | decide | exact xs_ (by decide) | exact xc_ (by decide) | exact x31_ (by decide) | omega))
  have Xρ73 : KX t m (mu (mu (mu (mu (mu (mu (mu (mu (mu (mu (mu (mu (mu (mu (mu (mu V 7 m 1 (V 7 l 1)) 7 m 2 (V 7 l 2)) 7 m 3 (V 7 l 3)) 7 m 4 (V 7 l 4)) 7 m 5 (V 7 l 5)) 7 m 6 (V 7 l 6)) 7 m 10 (V 7 l 10)) 7 m 12 (V 7 l 12)) 7 m 13 (V 7 l 13)) 7 m 14 (V 7 l 14)) 7 m 15 (V 7 l 15)) 11 m 0 (V 11 l 0)) 11 m 1 (V 11 l 1)) 11 m 2 (V 11 l 2)) 11 m 3 (V 11 l 3)) 11 m 4 (V 11 l 4)) ρ73 := (Xρ69).e (fun m a b c => by rw [e_ρ73]; exact ⟨mu_ne (by first | assumption | decide | exact xs_ (by decide) | exact xc_ (by decide) | exact x31_ (by decide) | omega), mu_ne (by first | assumption | decide | exact xs_ (by decide) | exact xc_ (by decide) | exact x31_ (by decide) | omega)⟩) (fun m c => mu_ne (by first | assumption | decide | exact xs_ (by decide) | exact xc_ (by decide) | exact x31_ (by decide) | omega))
  refine r_iincE hC (19) dX6_copyLane_20 rfl rfl (by first | assumption | decide | exact xs_ (by decide) | exact xc_ (by decide) | exact x31_ (by decide) | omega) (by unfold inR; omega) ?_
  refine r_goto (tgt := 2) hC dX6_copyLane_23 rfl ?_
  refine r_iload_n hC dX6_copyLane_2 rfl ?_
  refine r_bipush hC dX6_copyLane_3 rfl ?_
  refine r_icmp_ge (tgt := 26) hC dX6_copyLane_5 rfl (fun h74 => by omega) (fun h74 => ?_)
  refine r_aload_n hC dX6_copyLane_8 rfl ?_
  refine r_iload_n hC dX6_copyLane_9 rfl ?_
  refine r_iload_n hC dX6_copyLane_10 rfl ?_
  refine r_aload_n hC dX6_copyLane_11 rfl ?_
  refine r_iload_n hC dX6_copyLane_12 rfl ?_
  refine r_iload_n hC dX6_copyLane_13 rfl ?_
  refine z_inv2 hM dX6_copyLane_14 vl_RX6_80 rfl rfl rfl (Nat.le_of_ble_eq_true rfl) (Nat.le_of_ble_eq_true rfl) ?_
  refine y_of (by first | assumption | decide | exact xs_ (by decide) | exact xc_ (by decide) | exact x31_ (by decide) | omega) (by first | assumption | decide | exact xs_ (by decide) | exact xc_ (by decide) | exact x31_ (by decide) | omega) (by first | assumption | decide | exact xs_ (by decide) | exact xc_ (by decide) | exact x31_ (by decide) | omega) (fun o75 => ?_)
  have e76 : ρ73 31 0 (22 * l + 19) = (V 11 l 5) := (Sρ73.a11 (s := 5) (f := 19) (by first | assumption | decide | exact xs_ (by decide) | exact xc_ (by decide) | exact x31_ (by decide) | omega) (by first | assumption | decide | exact xs_ (by decide) | exact xc_ (by decide) | exact x31_ (by decide) | omega) (by first | assumption | decide | exact xs_ (by decide) | exact xc_ (by decide) | exact x31_ (by decide) | omega)).trans ((mu_ne (by first | assumption | decide | exact xs_ (by decide) | exact xc_ (by decide) | exact x31_ (by decide) | omega)).trans ((mu_ne (by first | assumption | decide | exact xs_ (by decide) | exact xc_ (by decide) | exact x31_ (by decide) | omega)).trans ((mu_ne (by first | assumption | decide | exact xs_ (by decide) | exact xc_ (by decide) | exact x31_ (by decide) | omega)).trans ((mu_ne (by first | assumption | decide | exact xs_ (by decide) | exact xc_ (by decide) | exact x31_ (by decide) | omega)).trans ((mu_ne (by first | assumption | decide | exact xs_ (by decide) | exact xc_ (by decide) | exact x31_ (by decide) | omega)).trans ((mu_ne (by first | assumption | decide | exact xs_ (by decide) | exact xc_ (by decide) | exact x31_ (by decide) | omega)).trans ((mu_ne (by first | assumption | decide | exact xs_ (by decide) | exact xc_ (by decide) | exact x31_ (by decide) | omega)).trans ((mu_ne (by first | assumption | decide | exact xs_ (by decide) | exact xc_ (by decide) | exact x31_ (by decide) | omega)).trans ((mu_ne (by first | assumption | decide | exact xs_ (by decide) | exact xc_ (by decide) | exact x31_ (by decide) | omega)).trans ((mu_ne (by first | assumption | decide | exact xs_ (by decide) | exact xc_ (by decide) | exact x31_ (by decide) | omega)).trans ((mu_ne (by first | assumption | decide | exact xs_ (by decide) | exact xc_ (by decide) | exact x31_ (by decide) | omega)).trans ((mu_ne (by first | assumption | decide | exact xs_ (by decide) | exact xc_ (by decide) | exact x31_ (by decide) | omega)).trans ((mu_ne (by first | assumption | decide | exact xs_ (by decide) | exact xc_ (by decide) | exact x31_ (by decide) | omega)).trans ((mu_ne (by first | assumption | decide | exact xs_ (by decide) | exact xc_ (by decide) | exact x31_ (by decide) | omega)).trans ((mu_ne (by first | assumption | decide | exact xs_ (by decide) | exact xc_ (by decide) | exact x31_ (by decide) | omega)).trans ((mu_ne (by first | assumption | decide | exact xs_ (by decide) | exact xc_ (by decide) | exact x31_ (by decide) | omega)).trans (rfl)))))))))))))))))
  rw [e76] at o75 ⊢
  refine z_inv3 hM dX6_copyLane_17 vl_RX6_173 rfl rfl rfl (Nat.le_of_ble_eq_true rfl) (Nat.le_of_ble_eq_true rfl) ?_
  refine y_set (by first | assumption | decide | exact xs_ (by decide) | exact xc_ (by decide) | exact x31_ (by decide) | omega) (by first | assumption | decide | exact xs_ (by decide) | exact xc_ (by decide) | exact x31_ (by decide) | omega) ⟨fun h => by omega, fun h => by omega⟩ ?_
  obtain ⟨ρ77, e_ρ77⟩ : ∃ zz_, zz_ = mu ρ73 31 0 ((22 * m) + 19) (V 11 l 5) := ⟨_, rfl⟩
  rw [← e_ρ77]
  have Sρ77 : SB t σ0 (mu (mu (mu (mu (mu (mu (mu (mu (mu (mu (mu (mu (mu (mu (mu (mu (mu V 7 m 1 (V 7 l 1)) 7 m 2 (V 7 l 2)) 7 m 3 (V 7 l 3)) 7 m 4 (V 7 l 4)) 7 m 5 (V 7 l 5)) 7 m 6 (V 7 l 6)) 7 m 10 (V 7 l 10)) 7 m 12 (V 7 l 12)) 7 m 13 (V 7 l 13)) 7 m 14 (V 7 l 14)) 7 m 15 (V 7 l 15)) 11 m 0 (V 11 l 0)) 11 m 1 (V 11 l 1)) 11 m 2 (V 11 l 2)) 11 m 3 (V 11 l 3)) 11 m 4 (V 11 l 4)) 11 m 5 (V 11 l 5)) ρ77 := by rw [e_ρ77, show ((22 * m) + 19) = 22 * m + 19 from by omega]; exact Sρ73.p11 (by first | assumption | decide | exact xs_ (by decide) | exact xc_ (by decide) | exact x31_ (by decide) | omega) (by first | assumption | decide | exact xs_ (by decide) | exact xc_ (by decide) | exact x31_ (by decide) | omega) (by first | assumption | decide | exact xs_ (by decide) | exact xc_ (by decide) | exact x31_ (by decide) | omega)
  have r16a_ρ77 : ρ77 31 0 (22 * l + 16) = (if V 11 l 3 = 0 then (0 : Int) else 1) := by rw [e_ρ77]; exact (mu_ne (by first | assumption | decide | exact xs_ (by decide) | exact xc_ (by decide) | exact x31_ (by decide) | omega)).trans r16a_ρ73
  have r17b_ρ77 : ρ77 31 0 (22 * l + 17) = 0 := by rw [e_ρ77]; exact (mu_ne (by first | assumption | decide | exact xs_ (by decide) | exact xc_ (by decide) | exact x31_ (by decide) | omega)).trans r17b_ρ73
  have r16c_ρ77 : ρ77 31 0 (22 * m + 16) = (if V 11 l 3 = 0 then (0 : Int) else 1) := by rw [e_ρ77]; exact (mu_ne (by first | assumption | decide | exact xs_ (by decide) | exact xc_ (by decide) | exact x31_ (by decide) | omega)).trans r16c_ρ73
  have r17d_ρ77 : ρ77 31 0 (22 * m + 17) = 0 := by rw [e_ρ77]; exact (mu_ne (by first | assumption | decide | exact xs_ (by decide) | exact xc_ (by decide) | exact x31_ (by decide) | omega)).trans r17d_ρ73
  have Yρ77 : FX m (mu (mu (mu (mu (mu (mu (mu (mu (mu (mu (mu (mu (mu (mu (mu (mu (mu V 7 m 1 (V 7 l 1)) 7 m 2 (V 7 l 2)) 7 m 3 (V 7 l 3)) 7 m 4 (V 7 l 4)) 7 m 5 (V 7 l 5)) 7 m 6 (V 7 l 6)) 7 m 10 (V 7 l 10)) 7 m 12 (V 7 l 12)) 7 m 13 (V 7 l 13)) 7 m 14 (V 7 l 14)) 7 m 15 (V 7 l 15)) 11 m 0 (V 11 l 0)) 11 m 1 (V 11 l 1)) 11 m 2 (V 11 l 2)) 11 m 3 (V 11 l 3)) 11 m 4 (V 11 l 4)) 11 m 5 (V 11 l 5)) ρ77 := (Yρ73).e (fun m a b c => by rw [e_ρ77]; exact mu_ne (by first | assumption | decide | exact xs_ (by decide) | exact xc_ (by decide) | exact x31_ (by decide) | omega)) (fun m y c => mu_ne (by first | assumption | decide | exact xs_ (by decide) | exact xc_ (by decide) | exact x31_ (by decide) | omega))
  have Xρ77 : KX t m (mu (mu (mu (mu (mu (mu (mu (mu (mu (mu (mu (mu (mu (mu (mu (mu (mu V 7 m 1 (V 7 l 1)) 7 m 2 (V 7 l 2)) 7 m 3 (V 7 l 3)) 7 m 4 (V 7 l 4)) 7 m 5 (V 7 l 5)) 7 m 6 (V 7 l 6)) 7 m 10 (V 7 l 10)) 7 m 12 (V 7 l 12)) 7 m 13 (V 7 l 13)) 7 m 14 (V 7 l 14)) 7 m 15 (V 7 l 15)) 11 m 0 (V 11 l 0)) 11 m 1 (V 11 l 1)) 11 m 2 (V 11 l 2)) 11 m 3 (V 11 l 3)) 11 m 4 (V 11 l 4)) 11 m 5 (V 11 l 5)) ρ77 := (Xρ73).e (fun m a b c => by rw [e_ρ77]; exact ⟨mu_ne (by first | assumption | decide | exact xs_ (by decide) | exact xc_ (by decide) | exact x31_ (by decide) | omega), mu_ne (by first | assumption | decide | exact xs_ (by decide) | exact xc_ (by decide) | exact x31_ (by decide) | omega)⟩) (fun m c => mu_ne (by first | assumption | decide | exact xs_ (by decide) | exact xc_ (by decide) | exact x31_ (by decide) | omega))
  refine r_iincE hC (20) dX6_copyLane_20 rfl rfl (by first | assumption | decide | exact xs_ (by decide) | exact xc_ (by decide) | exact x31_ (by decide) | omega) (by unfold inR; omega) ?_
  show K _ [_, _, _, _] _ _
  refine r_goto (tgt := 2) hC dX6_copyLane_23 rfl ?_
  refine r_iload_n hC dX6_copyLane_2 rfl ?_
  refine r_bipush hC dX6_copyLane_3 rfl ?_
  refine r_icmp_ge (tgt := 26) hC dX6_copyLane_5 rfl (fun h78 => by omega) (fun h78 => ?_)
  refine r_aload_n hC dX6_copyLane_8 rfl ?_
  refine r_iload_n hC dX6_copyLane_9 rfl ?_
  refine r_iload_n hC dX6_copyLane_10 rfl ?_
  refine r_aload_n hC dX6_copyLane_11 rfl ?_
  refine r_iload_n hC dX6_copyLane_12 rfl ?_
  refine r_iload_n hC dX6_copyLane_13 rfl ?_
  refine z_inv2 hM dX6_copyLane_14 vl_RX6_80 rfl rfl rfl (Nat.le_of_ble_eq_true rfl) (Nat.le_of_ble_eq_true rfl) ?_
  refine y_of (by first | assumption | decide | exact xs_ (by decide) | exact xc_ (by decide) | exact x31_ (by decide) | omega) (by first | assumption | decide | exact xs_ (by decide) | exact xc_ (by decide) | exact x31_ (by decide) | omega) (by first | assumption | decide | exact xs_ (by decide) | exact xc_ (by decide) | exact x31_ (by decide) | omega) (fun o79 => ?_)
  have e80 : ρ77 31 0 (22 * l + 20) = (V 11 l 6) := (Sρ77.a11 (s := 6) (f := 20) (by first | assumption | decide | exact xs_ (by decide) | exact xc_ (by decide) | exact x31_ (by decide) | omega) (by first | assumption | decide | exact xs_ (by decide) | exact xc_ (by decide) | exact x31_ (by decide) | omega) (by first | assumption | decide | exact xs_ (by decide) | exact xc_ (by decide) | exact x31_ (by decide) | omega)).trans ((mu_ne (by first | assumption | decide | exact xs_ (by decide) | exact xc_ (by decide) | exact x31_ (by decide) | omega)).trans ((mu_ne (by first | assumption | decide | exact xs_ (by decide) | exact xc_ (by decide) | exact x31_ (by decide) | omega)).trans ((mu_ne (by first | assumption | decide | exact xs_ (by decide) | exact xc_ (by decide) | exact x31_ (by decide) | omega)).trans ((mu_ne (by first | assumption | decide | exact xs_ (by decide) | exact xc_ (by decide) | exact x31_ (by decide) | omega)).trans ((mu_ne (by first | assumption | decide | exact xs_ (by decide) | exact xc_ (by decide) | exact x31_ (by decide) | omega)).trans ((mu_ne (by first | assumption | decide | exact xs_ (by decide) | exact xc_ (by decide) | exact x31_ (by decide) | omega)).trans ((mu_ne (by first | assumption | decide | exact xs_ (by decide) | exact xc_ (by decide) | exact x31_ (by decide) | omega)).trans ((mu_ne (by first | assumption | decide | exact xs_ (by decide) | exact xc_ (by decide) | exact x31_ (by decide) | omega)).trans ((mu_ne (by first | assumption | decide | exact xs_ (by decide) | exact xc_ (by decide) | exact x31_ (by decide) | omega)).trans ((mu_ne (by first | assumption | decide | exact xs_ (by decide) | exact xc_ (by decide) | exact x31_ (by decide) | omega)).trans ((mu_ne (by first | assumption | decide | exact xs_ (by decide) | exact xc_ (by decide) | exact x31_ (by decide) | omega)).trans ((mu_ne (by first | assumption | decide | exact xs_ (by decide) | exact xc_ (by decide) | exact x31_ (by decide) | omega)).trans ((mu_ne (by first | assumption | decide | exact xs_ (by decide) | exact xc_ (by decide) | exact x31_ (by decide) | omega)).trans ((mu_ne (by first | assumption | decide | exact xs_ (by decide) | exact xc_ (by decide) | exact x31_ (by decide) | omega)).trans ((mu_ne (by first | assumption | decide | exact xs_ (by decide) | exact xc_ (by decide) | exact x31_ (by decide) | omega)).trans ((mu_ne (by first | assumption | decide | exact xs_ (by decide) | exact xc_ (by decide) | exact x31_ (by decide) | omega)).trans ((mu_ne (by first | assumption | decide | exact xs_ (by decide) | exact xc_ (by decide) | exact x31_ (by decide) | omega)).trans (rfl))))))))))))))))))
  rw [e80] at o79 ⊢
  refine z_inv3 hM dX6_copyLane_17 vl_RX6_173 rfl rfl rfl (Nat.le_of_ble_eq_true rfl) (Nat.le_of_ble_eq_true rfl) ?_
  refine y_set (by first | assumption | decide | exact xs_ (by decide) | exact xc_ (by decide) | exact x31_ (by decide) | omega) (by first | assumption | decide | exact xs_ (by decide) | exact xc_ (by decide) | exact x31_ (by decide) | omega) ⟨fun h => by omega, fun h => by omega⟩ ?_
  obtain ⟨ρ81, e_ρ81⟩ : ∃ zz_, zz_ = mu ρ77 31 0 ((22 * m) + 20) (V 11 l 6) := ⟨_, rfl⟩
  rw [← e_ρ81]
  have Sρ81 : SB t σ0 (mu (mu (mu (mu (mu (mu (mu (mu (mu (mu (mu (mu (mu (mu (mu (mu (mu (mu V 7 m 1 (V 7 l 1)) 7 m 2 (V 7 l 2)) 7 m 3 (V 7 l 3)) 7 m 4 (V 7 l 4)) 7 m 5 (V 7 l 5)) 7 m 6 (V 7 l 6)) 7 m 10 (V 7 l 10)) 7 m 12 (V 7 l 12)) 7 m 13 (V 7 l 13)) 7 m 14 (V 7 l 14)) 7 m 15 (V 7 l 15)) 11 m 0 (V 11 l 0)) 11 m 1 (V 11 l 1)) 11 m 2 (V 11 l 2)) 11 m 3 (V 11 l 3)) 11 m 4 (V 11 l 4)) 11 m 5 (V 11 l 5)) 11 m 6 (V 11 l 6)) ρ81 := by rw [e_ρ81, show ((22 * m) + 20) = 22 * m + 20 from by omega]; exact Sρ77.p11 (by first | assumption | decide | exact xs_ (by decide) | exact xc_ (by decide) | exact x31_ (by decide) | omega) (by first | assumption | decide | exact xs_ (by decide) | exact xc_ (by decide) | exact x31_ (by decide) | omega) (by first | assumption | decide | exact xs_ (by decide) | exact xc_ (by decide) | exact x31_ (by decide) | omega)
  have r16a_ρ81 : ρ81 31 0 (22 * l + 16) = (if V 11 l 3 = 0 then (0 : Int) else 1) := by rw [e_ρ81]; exact (mu_ne (by first | assumption | decide | exact xs_ (by decide) | exact xc_ (by decide) | exact x31_ (by decide) | omega)).trans r16a_ρ77
  have r17b_ρ81 : ρ81 31 0 (22 * l + 17) = 0 := by rw [e_ρ81]; exact (mu_ne (by first | assumption | decide | exact xs_ (by decide) | exact xc_ (by decide) | exact x31_ (by decide) | omega)).trans r17b_ρ77
  have r16c_ρ81 : ρ81 31 0 (22 * m + 16) = (if V 11 l 3 = 0 then (0 : Int) else 1) := by rw [e_ρ81]; exact (mu_ne (by first | assumption | decide | exact xs_ (by decide) | exact xc_ (by decide) | exact x31_ (by decide) | omega)).trans r16c_ρ77
  have r17d_ρ81 : ρ81 31 0 (22 * m + 17) = 0 := by rw [e_ρ81]; exact (mu_ne (by first | assumption | decide | exact xs_ (by decide) | exact xc_ (by decide) | exact x31_ (by decide) | omega)).trans r17d_ρ77
  have Yρ81 : FX m (mu (mu (mu (mu (mu (mu (mu (mu (mu (mu (mu (mu (mu (mu (mu (mu (mu (mu V 7 m 1 (V 7 l 1)) 7 m 2 (V 7 l 2)) 7 m 3 (V 7 l 3)) 7 m 4 (V 7 l 4)) 7 m 5 (V 7 l 5)) 7 m 6 (V 7 l 6)) 7 m 10 (V 7 l 10)) 7 m 12 (V 7 l 12)) 7 m 13 (V 7 l 13)) 7 m 14 (V 7 l 14)) 7 m 15 (V 7 l 15)) 11 m 0 (V 11 l 0)) 11 m 1 (V 11 l 1)) 11 m 2 (V 11 l 2)) 11 m 3 (V 11 l 3)) 11 m 4 (V 11 l 4)) 11 m 5 (V 11 l 5)) 11 m 6 (V 11 l 6)) ρ81 := (Yρ77).e (fun m a b c => by rw [e_ρ81]; exact mu_ne (by first | assumption | decide | exact xs_ (by decide) | exact xc_ (by decide) | exact x31_ (by decide) | omega)) (fun m y c => mu_ne (by first | assumption | decide | exact xs_ (by decide) | exact xc_ (by decide) | exact x31_ (by decide) | omega))
  have Xρ81 : KX t m (mu (mu (mu (mu (mu (mu (mu (mu (mu (mu (mu (mu (mu (mu (mu (mu (mu (mu V 7 m 1 (V 7 l 1)) 7 m 2 (V 7 l 2)) 7 m 3 (V 7 l 3)) 7 m 4 (V 7 l 4)) 7 m 5 (V 7 l 5)) 7 m 6 (V 7 l 6)) 7 m 10 (V 7 l 10)) 7 m 12 (V 7 l 12)) 7 m 13 (V 7 l 13)) 7 m 14 (V 7 l 14)) 7 m 15 (V 7 l 15)) 11 m 0 (V 11 l 0)) 11 m 1 (V 11 l 1)) 11 m 2 (V 11 l 2)) 11 m 3 (V 11 l 3)) 11 m 4 (V 11 l 4)) 11 m 5 (V 11 l 5)) 11 m 6 (V 11 l 6)) ρ81 := (Xρ77).e (fun m a b c => by rw [e_ρ81]; exact ⟨mu_ne (by first | assumption | decide | exact xs_ (by decide) | exact xc_ (by decide) | exact x31_ (by decide) | omega), mu_ne (by first | assumption | decide | exact xs_ (by decide) | exact xc_ (by decide) | exact x31_ (by decide) | omega)⟩) (fun m c => mu_ne (by first | assumption | decide | exact xs_ (by decide) | exact xc_ (by decide) | exact x31_ (by decide) | omega))
  refine r_iincE hC (21) dX6_copyLane_20 rfl rfl (by first | assumption | decide | exact xs_ (by decide) | exact xc_ (by decide) | exact x31_ (by decide) | omega) (by unfold inR; omega) ?_
  refine r_goto (tgt := 2) hC dX6_copyLane_23 rfl ?_
  refine r_iload_n hC dX6_copyLane_2 rfl ?_
  refine r_bipush hC dX6_copyLane_3 rfl ?_
  refine r_icmp_ge (tgt := 26) hC dX6_copyLane_5 rfl (fun h82 => by omega) (fun h82 => ?_)
  refine r_aload_n hC dX6_copyLane_8 rfl ?_
  refine r_iload_n hC dX6_copyLane_9 rfl ?_
  refine r_iload_n hC dX6_copyLane_10 rfl ?_
  refine r_aload_n hC dX6_copyLane_11 rfl ?_
  refine r_iload_n hC dX6_copyLane_12 rfl ?_
  refine r_iload_n hC dX6_copyLane_13 rfl ?_
  refine z_inv2 hM dX6_copyLane_14 vl_RX6_80 rfl rfl rfl (Nat.le_of_ble_eq_true rfl) (Nat.le_of_ble_eq_true rfl) ?_
  refine y_ofU (by first | assumption | decide | exact xs_ (by decide) | exact xc_ (by decide) | exact x31_ (by decide) | omega) (by first | assumption | decide | exact xs_ (by decide) | exact xc_ (by decide) | exact x31_ (by decide) | omega) (fun vu__ => ?_)
  refine z_inv3 hM dX6_copyLane_17 vl_RX6_173 rfl rfl rfl (Nat.le_of_ble_eq_true rfl) (Nat.le_of_ble_eq_true rfl) ?_
  refine y_set (by first | assumption | decide | exact xs_ (by decide) | exact xc_ (by decide) | exact x31_ (by decide) | omega) (by first | assumption | decide | exact xs_ (by decide) | exact xc_ (by decide) | exact x31_ (by decide) | omega) ⟨fun h => by omega, fun h => by omega⟩ ?_
  obtain ⟨ρ83, e_ρ83⟩ : ∃ zz_, zz_ = mu ρ81 31 0 ((22 * m) + 21) vu__ := ⟨_, rfl⟩
  rw [← e_ρ83]
  have Sρ83 : SB t σ0 (mu (mu (mu (mu (mu (mu (mu (mu (mu (mu (mu (mu (mu (mu (mu (mu (mu (mu V 7 m 1 (V 7 l 1)) 7 m 2 (V 7 l 2)) 7 m 3 (V 7 l 3)) 7 m 4 (V 7 l 4)) 7 m 5 (V 7 l 5)) 7 m 6 (V 7 l 6)) 7 m 10 (V 7 l 10)) 7 m 12 (V 7 l 12)) 7 m 13 (V 7 l 13)) 7 m 14 (V 7 l 14)) 7 m 15 (V 7 l 15)) 11 m 0 (V 11 l 0)) 11 m 1 (V 11 l 1)) 11 m 2 (V 11 l 2)) 11 m 3 (V 11 l 3)) 11 m 4 (V 11 l 4)) 11 m 5 (V 11 l 5)) 11 m 6 (V 11 l 6)) ρ83 := by rw [e_ρ83, show ((22 * m) + 21) = 22 * m + 21 from by omega]; exact Sρ81.px (by first | assumption | decide | exact xs_ (by decide) | exact xc_ (by decide) | exact x31_ (by decide) | omega)
  have r16a_ρ83 : ρ83 31 0 (22 * l + 16) = (if V 11 l 3 = 0 then (0 : Int) else 1) := by rw [e_ρ83]; exact (mu_ne (by first | assumption | decide | exact xs_ (by decide) | exact xc_ (by decide) | exact x31_ (by decide) | omega)).trans r16a_ρ81
  have r17b_ρ83 : ρ83 31 0 (22 * l + 17) = 0 := by rw [e_ρ83]; exact (mu_ne (by first | assumption | decide | exact xs_ (by decide) | exact xc_ (by decide) | exact x31_ (by decide) | omega)).trans r17b_ρ81
  have r16c_ρ83 : ρ83 31 0 (22 * m + 16) = (if V 11 l 3 = 0 then (0 : Int) else 1) := by rw [e_ρ83]; exact (mu_ne (by first | assumption | decide | exact xs_ (by decide) | exact xc_ (by decide) | exact x31_ (by decide) | omega)).trans r16c_ρ81
  have r17d_ρ83 : ρ83 31 0 (22 * m + 17) = 0 := by rw [e_ρ83]; exact (mu_ne (by first | assumption | decide | exact xs_ (by decide) | exact xc_ (by decide) | exact x31_ (by decide) | omega)).trans r17d_ρ81
  have r21_ρ83 : ρ83 31 0 (22 * m + 21) = vu__ := by rw [e_ρ83, show ((22 * m) + 21) = 22 * m + 21 from by omega]; exact mu_self _ _ _ _ _
  have Yρ83 : FX m (mu (mu (mu (mu (mu (mu (mu (mu (mu (mu (mu (mu (mu (mu (mu (mu (mu (mu V 7 m 1 (V 7 l 1)) 7 m 2 (V 7 l 2)) 7 m 3 (V 7 l 3)) 7 m 4 (V 7 l 4)) 7 m 5 (V 7 l 5)) 7 m 6 (V 7 l 6)) 7 m 10 (V 7 l 10)) 7 m 12 (V 7 l 12)) 7 m 13 (V 7 l 13)) 7 m 14 (V 7 l 14)) 7 m 15 (V 7 l 15)) 11 m 0 (V 11 l 0)) 11 m 1 (V 11 l 1)) 11 m 2 (V 11 l 2)) 11 m 3 (V 11 l 3)) 11 m 4 (V 11 l 4)) 11 m 5 (V 11 l 5)) 11 m 6 (V 11 l 6)) ρ83 := (Yρ81).e (fun m a b c => by rw [e_ρ83]; exact mu_ne (by first | assumption | decide | exact xs_ (by decide) | exact xc_ (by decide) | exact x31_ (by decide) | omega)) (fun m y c => rfl)
  have Xρ83 : KX t m (mu (mu (mu (mu (mu (mu (mu (mu (mu (mu (mu (mu (mu (mu (mu (mu (mu (mu V 7 m 1 (V 7 l 1)) 7 m 2 (V 7 l 2)) 7 m 3 (V 7 l 3)) 7 m 4 (V 7 l 4)) 7 m 5 (V 7 l 5)) 7 m 6 (V 7 l 6)) 7 m 10 (V 7 l 10)) 7 m 12 (V 7 l 12)) 7 m 13 (V 7 l 13)) 7 m 14 (V 7 l 14)) 7 m 15 (V 7 l 15)) 11 m 0 (V 11 l 0)) 11 m 1 (V 11 l 1)) 11 m 2 (V 11 l 2)) 11 m 3 (V 11 l 3)) 11 m 4 (V 11 l 4)) 11 m 5 (V 11 l 5)) 11 m 6 (V 11 l 6)) ρ83 := (Xρ81).e (fun m a b c => by rw [e_ρ83]; exact ⟨mu_ne (by first | assumption | decide | exact xs_ (by decide) | exact xc_ (by decide) | exact x31_ (by decide) | omega), mu_ne (by first | assumption | decide | exact xs_ (by decide) | exact xc_ (by decide) | exact x31_ (by decide) | omega)⟩) (fun m c => rfl)
  refine r_iincE hC (22) dX6_copyLane_20 rfl rfl (by first | assumption | decide | exact xs_ (by decide) | exact xc_ (by decide) | exact x31_ (by decide) | omega) (by unfold inR; omega) ?_
  refine r_goto (tgt := 2) hC dX6_copyLane_23 rfl ?_
  refine r_iload_n hC dX6_copyLane_2 rfl ?_
  refine r_bipush hC dX6_copyLane_3 rfl ?_
  refine r_icmp_ge (tgt := 26) hC dX6_copyLane_5 rfl (fun h84 => ?_) (fun h84 => by omega)
  have hV : (mu (mu (mu (mu (mu (mu (mu (mu (mu (mu (mu (mu (mu (mu (mu (mu (mu (mu V 7 m 1 (V 7 l 1)) 7 m 2 (V 7 l 2)) 7 m 3 (V 7 l 3)) 7 m 4 (V 7 l 4)) 7 m 5 (V 7 l 5)) 7 m 6 (V 7 l 6)) 7 m 10 (V 7 l 10)) 7 m 12 (V 7 l 12)) 7 m 13 (V 7 l 13)) 7 m 14 (V 7 l 14)) 7 m 15 (V 7 l 15)) 11 m 0 (V 11 l 0)) 11 m 1 (V 11 l 1)) 11 m 2 (V 11 l 2)) 11 m 3 (V 11 l 3)) 11 m 4 (V 11 l 4)) 11 m 5 (V 11 l 5)) 11 m 6 (V 11 l 6)) = cpA V l m := cpA_eq.symm
  have qS := Sρ83
  have qX := Xρ83
  have qY := Yρ83
  rw [hV] at qS qX qY
  have zS : SB t σ0 (mu (cpA V l m) 7 m 0 vu__) ρ83 := qS.v0
  have zK : KF t (mu (cpA V l m) 7 m 0 vu__) ρ83 := (qX.kf (r16c_ρ83.trans (by rw [cpA_11 (by first | assumption | decide | exact xs_ (by decide) | exact xc_ (by decide) | exact x31_ (by decide) | omega)])) r17d_ρ83).v (fun l => mu_ne (by first | assumption | decide | exact xs_ (by decide) | exact xc_ (by decide) | exact x31_ (by decide) | omega))
  have zF : FB (mu (cpA V l m) 7 m 0 vu__) ρ83 := qY.fb r21_ρ83
  refine r_iconst hC dX6_copyLane_26 rfl ?_
  refine r_istore_n hC dX6_copyLane_27 rfl ?_
  have L28 : ∀ (n28 : Nat) (w85 : Int) (ρ86 W86 : Mm), 0 ≤ w85 ∧ w85 ≤ 121 → ((w85) ≤ V 7 l 6) → 121 - w85 < (n28 : Int) → (RS t σ0 W86 ρ86) → (W86 = cpB (mu (cpA V l m) 7 m 0 vu__) l m (w85)) → K 28 [some (vR 30 0), some (vI l), some (vI m), some (vI w85)] [] ρ86 := by
    intro n28
    induction n28 with
    | zero => intro w85 ρ86 W86 f_w85 i0_28 hm  m0_28 m1_28; omega
    | succ n28 ih28 =>
      intro w85 ρ86 W86 f_w85 i0_28 hm28  m0_28 m1_28
      have e6 : W86 7 l 6 = V 7 l 6 := by rw [m1_28, cpB_7, mu_ne (by first | assumption | decide | exact xs_ (by decide) | exact xc_ (by decide) | exact x31_ (by decide) | omega), cpA_ne (by first | assumption | decide | exact xs_ (by decide) | exact xc_ (by decide) | exact x31_ (by decide) | omega)]
      refine r_iload_n hC dX6_copyLane_28 rfl ?_
      refine r_aload_n hC dX6_copyLane_29 rfl ?_
      refine r_iload_n hC dX6_copyLane_30 rfl ?_
      refine z_inv1 hM dX6_copyLane_31 vl_RX6_116 rfl rfl rfl (Nat.le_of_ble_eq_true rfl) (Nat.le_of_ble_eq_true rfl) ?_
      refine y_heldOf (by first | assumption | decide | exact xs_ (by decide) | exact xc_ (by decide) | exact x31_ (by decide) | omega) (fun o87 => ?_)
      have e88 : ρ86 31 0 (22 * l + 5) = (W86 7 l 6) := (m0_28.1.a7 (s := 6) (f := 5) (by first | assumption | decide | exact xs_ (by decide) | exact xc_ (by decide) | exact x31_ (by decide) | omega) (by first | assumption | decide | exact xs_ (by decide) | exact xc_ (by decide) | exact x31_ (by decide) | omega) (by first | assumption | decide | exact xs_ (by decide) | exact xc_ (by decide) | exact x31_ (by decide) | omega)).trans (rfl)
      rw [e88] at o87 ⊢
      have qo87 : 0 ≤ (W86 7 l 6) ∧ (W86 7 l 6) ≤ 121 := o87.1 (by first | assumption | decide | exact xs_ (by decide) | exact xc_ (by decide) | exact x31_ (by decide) | omega)
      refine r_icmp_ge (tgt := 59) hC dX6_copyLane_34 rfl (fun h89 => ?_) (fun h89 => ?_)
      · refine y_vret hK rfl dX6_copyLane_59 ?_
        have q := m0_28
        rw [m1_28, show w85 = V 7 l 6 from by omega, cpM_fin (by first | assumption | decide | exact xs_ (by decide) | exact xc_ (by decide) | exact x31_ (by decide) | omega)] at q
        exact k _ _ q
      · refine r_aload_n hC dX6_copyLane_37 rfl ?_
        refine r_bipush hC dX6_copyLane_38 rfl ?_
        refine r_iload_n hC dX6_copyLane_40 rfl ?_
        refine r_imulE hC ((121 * l)) dX6_copyLane_41 (by first | assumption | decide | exact xs_ (by decide) | exact xc_ (by decide) | exact x31_ (by decide) | omega) (by unfold inR; omega) ?_
        refine r_iload_n hC dX6_copyLane_42 rfl ?_
        refine r_iaddE hC (((121 * l) + w85)) dX6_copyLane_43 (by first | assumption | decide | exact xs_ (by decide) | exact xc_ (by decide) | exact x31_ (by decide) | omega) (by unfold inR; omega) ?_
        refine r_bipush hC dX6_copyLane_44 rfl ?_
        refine r_iload_n hC dX6_copyLane_46 rfl ?_
        refine r_imulE hC ((121 * m)) dX6_copyLane_47 (by first | assumption | decide | exact xs_ (by decide) | exact xc_ (by decide) | exact x31_ (by decide) | omega) (by unfold inR; omega) ?_
        refine r_iload_n hC dX6_copyLane_48 rfl ?_
        refine r_iaddE hC (((121 * m) + w85)) dX6_copyLane_49 (by first | assumption | decide | exact xs_ (by decide) | exact xc_ (by decide) | exact x31_ (by decide) | omega) (by unfold inR; omega) ?_
        refine z_inv2 hM dX6_copyLane_50 vl_RX6_213 rfl rfl rfl (Nat.le_of_ble_eq_true rfl) (Nat.le_of_ble_eq_true rfl) ?_
        refine y_copyEvent (V := W86) (l := l) (a := w85) (m := m) (b := w85) (by first | assumption | decide | exact xs_ (by decide) | exact xc_ (by decide) | exact x31_ (by decide) | omega) (by first | assumption | decide | exact xs_ (by decide) | exact xc_ (by decide) | exact x31_ (by decide) | omega) ht ⟨m0_28.1, m0_28.2.1, m0_28.2.2⟩ (by first | assumption | decide | exact xs_ (by decide) | exact xc_ (by decide) | exact x31_ (by decide) | omega) (by first | assumption | decide | exact xs_ (by decide) | exact xc_ (by decide) | exact x31_ (by decide) | omega) (by first | assumption | decide | exact xs_ (by decide) | exact xc_ (by decide) | exact x31_ (by decide) | omega) (by first | assumption | decide | exact xs_ (by decide) | exact xc_ (by decide) | exact x31_ (by decide) | omega) (by first | assumption | decide | exact xs_ (by decide) | exact xc_ (by decide) | exact x31_ (by decide) | omega) (by first | assumption | decide | exact xs_ (by decide) | exact xc_ (by decide) | exact x31_ (by decide) | omega) (fun ρ90 Rρ90 => ?_)
        refine r_iincE hC ((w85 + 1)) dX6_copyLane_53 rfl rfl (by first | assumption | decide | exact xs_ (by decide) | exact xc_ (by decide) | exact x31_ (by decide) | omega) (by unfold inR; omega) ?_
        refine r_goto (tgt := 28) hC dX6_copyLane_56 rfl ?_
        exact ih28 ((w85 + 1)) ρ90 (ceM W86 l w85 m w85) (by first | assumption | decide | exact xs_ (by decide) | exact xc_ (by decide) | exact x31_ (by decide) | omega) (by first | assumption | decide | exact xs_ (by decide) | exact xc_ (by decide) | exact x31_ (by decide) | omega) (by first | assumption | decide | exact xs_ (by decide) | exact xc_ (by decide) | exact x31_ (by decide) | omega)  (⟨Rρ90.1, Rρ90.2.1, Rρ90.2.2⟩) (by rw [m1_28]; exact cpB_s (by first | assumption | decide | exact xs_ (by decide) | exact xc_ (by decide) | exact x31_ (by decide) | omega) (by first | assumption | decide | exact xs_ (by decide) | exact xc_ (by decide) | exact x31_ (by decide) | omega))
  exact L28 123 (0) ρ83 (mu (cpA V l m) 7 m 0 vu__) (by first | assumption | decide | exact xs_ (by decide) | exact xc_ (by decide) | exact x31_ (by decide) | omega) (by first | assumption | decide | exact xs_ (by decide) | exact xc_ (by decide) | exact x31_ (by decide) | omega) (by first | assumption | decide | exact xs_ (by decide) | exact xc_ (by decide) | exact x31_ (by decide) | omega)  (⟨zS, zK, zF⟩) (cpB_0.symm)
theorem y_copyLane {eb : Bool} {t : Int} {V : Mm} {d : Nat} {P : Option Vl → Mm → Prop} {σ : Mm} {l m : Int} (b_l : 0 ≤ l ∧ l ≤ 6) (b_m : 0 ≤ m ∧ m ≤ 6) {σ0 : Mm} (ht : 6 ≤ t ∧ t ≤ 7) (hR : RS t σ0 V σ) (hlm : l ≠ m)  (k : ∀ (v : Int) (ρ : Mm), RS t σ0 (mu (cpM V l m) 7 m 0 v) ρ → P none ρ) : WT (true, eb, true) (d + 3) 253 [vR 30 0, vI l, vI m] σ P := y_copyLaneG b_l (by first | assumption | decide | exact xs_ (by decide) | exact xc_ (by decide) | exact x31_ (by decide) | omega) ht hR.1 (hR.2.1.kx m) hR.2.2 (by first | assumption | decide | exact xs_ (by decide) | exact xc_ (by decide) | exact x31_ (by decide) | omega) hlm k
theorem y_keep {eb : Bool} {t : Int} {V : Mm} {d : Nat} {P : Option Vl → Mm → Prop} {σ : Mm} {l x : Int}  {σ0 : Mm} (ht : 6 ≤ t ∧ t ≤ 7) (hR : RS t σ0 V σ) (hG : GI V)  (k : ∀ ρ : Mm, RS t σ0 (kpM V l x) ρ → P (some (vI (kpR V l x))) ρ) : WT (true, eb, true) (d + 4) 254 [vR 30 0, vI l, vI x] σ P := by
  refine WT_in fun K hK => ?_
  have hK : StpY (true, eb, true) cX6_keep RX6 (some .int) (WT (true, eb, true) (d + 3)) P K := hK
  have hM := hK.1
  have hC := hK.1.1
  show K 0 [some (vR 30 0), some (vI l), some (vI x)] [] σ
  refine r_rngz hC (fun g0 => ?_)
  have r_l : -2147483648 ≤ l ∧ l ≤ 2147483647 := inR_le (g0 (vI l) (by simp))
  have r_x : -2147483648 ≤ x ∧ x ≤ 2147483647 := inR_le (g0 (vI x) (by simp))
  refine r_aload_n hC dX6_keep_0 rfl ?_
  refine r_iload_n hC dX6_keep_1 rfl ?_
  refine z_inv1 hM dX6_keep_2 vl_RX6_124 rfl rfl rfl (Nat.le_of_ble_eq_true rfl) (Nat.le_of_ble_eq_true rfl) ?_
  refine y_isLane (V := V) ht ⟨hR.1, hR.2.1, hR.2.2⟩ (fun h1 => ?_) (fun h1 => ?_)
  · unfold opV at h1
    refine r_if_eq (tgt := 17) hC dX6_keep_5 rfl (fun h2 => by omega) (fun h2 => ?_)
    refine r_iload_n hC dX6_keep_8 rfl ?_
    refine r_iconst hC dX6_keep_9 rfl ?_
    refine r_iconst hC dX6_keep_10 rfl ?_
    refine z_ins3 hM dX6_keep_11 tl_RX6_76 rfl (Nat.le_of_ble_eq_true rfl) (Nat.le_of_ble_eq_true rfl) ?_
    refine m_isIn (fun h4 => ?_) (fun h4 => ?_)
    · refine r_if_ne (tgt := 19) hC dX6_keep_14 rfl (fun h5 => ?_) (fun h5 => by omega)
      refine r_aload_n hC dX6_keep_19 rfl ?_
      refine r_iload_n hC dX6_keep_20 rfl ?_
      refine r_iconst hC dX6_keep_21 rfl ?_
      refine r_iload_n hC dX6_keep_22 rfl ?_
      refine r_iaddE hC ((x + 4)) dX6_keep_23 (by first | assumption | decide | exact xs_ (by decide) | exact xc_ (by decide) | exact x31_ (by decide) | omega) (by unfold inR; omega) ?_
      refine z_inv2 hM dX6_keep_24 vl_RX6_292 rfl rfl rfl (Nat.le_of_ble_eq_true rfl) (Nat.le_of_ble_eq_true rfl) ?_
      refine y_copyLane (V := V) (by first | assumption | decide | exact xs_ (by decide) | exact xc_ (by decide) | exact x31_ (by decide) | omega) (by first | assumption | decide | exact xs_ (by decide) | exact xc_ (by decide) | exact x31_ (by decide) | omega) ht ⟨hR.1, hR.2.1, hR.2.2⟩ (by first | assumption | decide | exact xs_ (by decide) | exact xc_ (by decide) | exact x31_ (by decide) | omega) (fun vc7 ρ6 Rρ6 => ?_)
      have fx_ρ6 := (Rρ6.2.2).fx (x + 4)
      refine r_aload_n hC dX6_keep_27 rfl ?_
      refine r_iconst hC dX6_keep_28 rfl ?_
      refine r_iload_n hC dX6_keep_29 rfl ?_
      refine r_iaddE hC ((x + 4)) dX6_keep_30 (by first | assumption | decide | exact xs_ (by decide) | exact xc_ (by decide) | exact x31_ (by decide) | omega) (by unfold inR; omega) ?_
      refine r_bipush hC dX6_keep_31 rfl ?_
      refine r_iload_n hC dX6_keep_33 rfl ?_
      refine z_inv3 hM dX6_keep_34 vl_RX6_173 rfl rfl rfl (Nat.le_of_ble_eq_true rfl) (Nat.le_of_ble_eq_true rfl) ?_
      refine y_set (by first | assumption | decide | exact xs_ (by decide) | exact xc_ (by decide) | exact x31_ (by decide) | omega) (by first | assumption | decide | exact xs_ (by decide) | exact xc_ (by decide) | exact x31_ (by decide) | omega) ⟨fun h => by omega, fun h => by omega⟩ ?_
      obtain ⟨ρ8, e_ρ8⟩ : ∃ zz_, zz_ = mu ρ6 31 0 ((22 * (x + 4)) + 21) l := ⟨_, rfl⟩
      rw [← e_ρ8]
      have Sρ8 : SB t σ0 (mu (cpM V l (x + 4)) 7 (x + 4) 0 vc7) ρ8 := by rw [e_ρ8, show ((22 * (x + 4)) + 21) = 22 * (x + 4) + 21 from by omega]; exact Rρ6.1.px (by first | assumption | decide | exact xs_ (by decide) | exact xc_ (by decide) | exact x31_ (by decide) | omega)
      have r21_ρ8 : ρ8 31 0 (22 * (x + 4) + 21) = l := by rw [e_ρ8, show ((22 * (x + 4)) + 21) = 22 * (x + 4) + 21 from by omega]; exact mu_self _ _ _ _ _
      have Yρ8 : FX (x + 4) (mu (cpM V l (x + 4)) 7 (x + 4) 0 vc7) ρ8 := (fx_ρ6).e (fun m a b c => by rw [e_ρ8]; exact mu_ne (by first | assumption | decide | exact xs_ (by decide) | exact xc_ (by decide) | exact x31_ (by decide) | omega)) (fun m y c => rfl)
      have Kρ8 : KF t (mu (cpM V l (x + 4)) 7 (x + 4) 0 vc7) ρ8 := by rw [e_ρ8]; exact (Rρ6.2.1).e (fun l a b => ⟨mu_ne (by first | assumption | decide | exact xs_ (by decide) | exact xc_ (by decide) | exact x31_ (by decide) | omega), mu_ne (by first | assumption | decide | exact xs_ (by decide) | exact xc_ (by decide) | exact x31_ (by decide) | omega)⟩)
      have hx0 : V 7 l 0 = l := hG.1.1 l (by first | assumption | decide | exact xs_ (by decide) | exact xc_ (by decide) | exact x31_ (by decide) | omega) (by first | assumption | decide | exact xs_ (by decide) | exact xc_ (by decide) | exact x31_ (by decide) | omega)
      have hV : mu (mu (cpM V l (x + 4)) 7 (x + 4) 0 vc7) 7 (x + 4) 0 l = (cpM V l (x + 4)) := mu_back (cpM_0.trans hx0)
      have zS := (Sρ8).v0 (b := (x + 4)) (a := l)
      rw [hV] at zS
      have zK : KF t (cpM V l (x + 4)) ρ8 := (Kρ8).v (fun m => (mu_ne (by first | assumption | decide | exact xs_ (by decide) | exact xc_ (by decide) | exact x31_ (by decide) | omega)).symm)
      have zF := (Yρ8).fb r21_ρ8
      rw [hV] at zF
      refine r_aload_n hC dX6_keep_37 rfl ?_
      refine r_iload_n hC dX6_keep_38 rfl ?_
      refine z_inv1 hM dX6_keep_39 vl_RX6_116 rfl rfl rfl (Nat.le_of_ble_eq_true rfl) (Nat.le_of_ble_eq_true rfl) ?_
      refine y_heldOf (by first | assumption | decide | exact xs_ (by decide) | exact xc_ (by decide) | exact x31_ (by decide) | omega) (fun o9 => ?_)
      have e10 : ρ8 31 0 (22 * l + 5) = (V 7 l 6) := (zS.a7 (s := 6) (f := 5) (by first | assumption | decide | exact xs_ (by decide) | exact xc_ (by decide) | exact x31_ (by decide) | omega) (by first | assumption | decide | exact xs_ (by decide) | exact xc_ (by decide) | exact x31_ (by decide) | omega) (by first | assumption | decide | exact xs_ (by decide) | exact xc_ (by decide) | exact x31_ (by decide) | omega)).trans ((cpM_ne (by first | assumption | decide | exact xs_ (by decide) | exact xc_ (by decide) | exact x31_ (by decide) | omega)).trans (rfl))
      rw [e10] at o9 ⊢
      have qo9 : 0 ≤ (V 7 l 6) ∧ (V 7 l 6) ≤ 121 := o9.1 (by first | assumption | decide | exact xs_ (by decide) | exact xc_ (by decide) | exact x31_ (by decide) | omega)
      refine y_iret hK rfl dX6_keep_42 ?_
      have hM : kpM V l x = (cpM V l (x + 4)) := by
        exact if_pos ⟨by unfold opV; omega, by omega, by omega⟩
      have hRr : kpR V l x = (V 7 l 6) := by
        exact if_pos ⟨by unfold opV; omega, by omega, by omega⟩
      rw [hM] at k
      rw [hRr] at k
      exact k _ ⟨zS, zK, zF⟩
    · refine r_if_ne (tgt := 19) hC dX6_keep_14 rfl (fun h11 => by omega) (fun h11 => ?_)
      refine r_iconst hC dX6_keep_17 rfl ?_
      refine y_iret hK rfl dX6_keep_18 ?_
      have hM : kpM V l x = V := by
        exact if_neg (by unfold kpC opV; omega)
      have hRr : kpR V l x = (-1) := by
        exact if_neg (by unfold kpC opV; omega)
      rw [hM] at k
      rw [hRr] at k
      exact k _ ⟨hR.1, hR.2.1, hR.2.2⟩
  · unfold opV at h1
    refine r_if_eq (tgt := 17) hC dX6_keep_5 rfl (fun h12 => ?_) (fun h12 => by omega)
    refine r_iconst hC dX6_keep_17 rfl ?_
    refine y_iret hK rfl dX6_keep_18 ?_
    have hM : kpM V l x = V := by
      exact if_neg (by unfold kpC opV; omega)
    have hRr : kpR V l x = (-1) := by
      exact if_neg (by unfold kpC opV; omega)
    rw [hM] at k
    rw [hRr] at k
    exact k _ ⟨hR.1, hR.2.1, hR.2.2⟩
theorem y_back {eb : Bool} {t : Int} {V : Mm} {d : Nat} {P : Option Vl → Mm → Prop} {σ : Mm} {x : Int}  {σ0 : Mm} (ht : 6 ≤ t ∧ t ≤ 7) (hR : RS t σ0 V σ) (hG : GI V)  (k : ∀ ρ : Mm, RS t σ0 (bkM V x) ρ → P (some (vI (bkR V x))) ρ) : WT (true, eb, true) (d + 4) 255 [vR 30 0, vI x] σ P := by
  refine WT_in fun K hK => ?_
  have hK : StpY (true, eb, true) cX6_back RX6 (some .int) (WT (true, eb, true) (d + 3)) P K := hK
  have hM := hK.1
  have hC := hK.1.1
  show K 0 [some (vR 30 0), some (vI x), none] [] σ
  refine r_rngz hC (fun g0 => ?_)
  have r_x : -2147483648 ≤ x ∧ x ≤ 2147483647 := inR_le (g0 (vI x) (by simp))
  refine r_iload_n hC dX6_back_0 rfl ?_
  refine r_iconst hC dX6_back_1 rfl ?_
  refine r_iconst hC dX6_back_2 rfl ?_
  refine z_ins3 hM dX6_back_3 tl_RX6_76 rfl (Nat.le_of_ble_eq_true rfl) (Nat.le_of_ble_eq_true rfl) ?_
  refine m_isIn (fun h2 => ?_) (fun h2 => ?_)
  · refine r_if_eq (tgt := 20) hC dX6_back_6 rfl (fun h3 => by omega) (fun h3 => ?_)
    refine r_aload_n hC dX6_back_9 rfl ?_
    refine r_iconst hC dX6_back_10 rfl ?_
    refine r_iload_n hC dX6_back_11 rfl ?_
    refine r_iaddE hC ((x + 4)) dX6_back_12 (by first | assumption | decide | exact xs_ (by decide) | exact xc_ (by decide) | exact x31_ (by decide) | omega) (by unfold inR; omega) ?_
    refine r_iconst hC dX6_back_13 rfl ?_
    refine z_inv2 hM dX6_back_14 vl_RX6_80 rfl rfl rfl (Nat.le_of_ble_eq_true rfl) (Nat.le_of_ble_eq_true rfl) ?_
    refine y_of (by first | assumption | decide | exact xs_ (by decide) | exact xc_ (by decide) | exact x31_ (by decide) | omega) (by first | assumption | decide | exact xs_ (by decide) | exact xc_ (by decide) | exact x31_ (by decide) | omega) (by first | assumption | decide | exact xs_ (by decide) | exact xc_ (by decide) | exact x31_ (by decide) | omega) (fun o4 => ?_)
    have e5 : σ 31 0 (22 * (x + 4) + 0) = (V 7 (x + 4) 1) := (hR.1.a7 (s := 1) (f := 0) (by first | assumption | decide | exact xs_ (by decide) | exact xc_ (by decide) | exact x31_ (by decide) | omega) (by first | assumption | decide | exact xs_ (by decide) | exact xc_ (by decide) | exact x31_ (by decide) | omega) (by first | assumption | decide | exact xs_ (by decide) | exact xc_ (by decide) | exact x31_ (by decide) | omega)).trans (rfl)
    rw [e5] at o4 ⊢
    have qo4 : 0 ≤ (V 7 (x + 4) 1) ∧ (V 7 (x + 4) 1) ≤ 1 := by have := o4.2 (by first | assumption | decide | exact xs_ (by decide) | exact xc_ (by decide) | exact x31_ (by decide) | omega); omega
    refine r_if_ne (tgt := 22) hC dX6_back_17 rfl (fun h6 => ?_) (fun h6 => ?_)
    · have hbx := hG.2.1.2.2.2.2.1 (x + 4) (by first | assumption | decide | exact xs_ (by decide) | exact xc_ (by decide) | exact x31_ (by decide) | omega) (by first | assumption | decide | exact xs_ (by decide) | exact xc_ (by decide) | exact x31_ (by decide) | omega) (by first | assumption | decide | exact xs_ (by decide) | exact xc_ (by decide) | exact x31_ (by decide) | omega)
      have hfb : σ 31 0 (22 * (x + 4) + 21) = (V 7 (x + 4) 0) := hR.2.2 (x + 4) (by first | assumption | decide | exact xs_ (by decide) | exact xc_ (by decide) | exact x31_ (by decide) | omega) (by first | assumption | decide | exact xs_ (by decide) | exact xc_ (by decide) | exact x31_ (by decide) | omega) (by first | assumption | decide | exact xs_ (by decide) | exact xc_ (by decide) | exact x31_ (by decide) | omega)
      refine r_aload_n hC dX6_back_22 rfl ?_
      refine r_iconst hC dX6_back_23 rfl ?_
      refine r_iload_n hC dX6_back_24 rfl ?_
      refine r_iaddE hC ((x + 4)) dX6_back_25 (by first | assumption | decide | exact xs_ (by decide) | exact xc_ (by decide) | exact x31_ (by decide) | omega) (by unfold inR; omega) ?_
      refine r_bipush hC dX6_back_26 rfl ?_
      refine z_inv2 hM dX6_back_28 vl_RX6_80 rfl rfl rfl (Nat.le_of_ble_eq_true rfl) (Nat.le_of_ble_eq_true rfl) ?_
      refine y_of (by first | assumption | decide | exact xs_ (by decide) | exact xc_ (by decide) | exact x31_ (by decide) | omega) (by first | assumption | decide | exact xs_ (by decide) | exact xc_ (by decide) | exact x31_ (by decide) | omega) (by first | assumption | decide | exact xs_ (by decide) | exact xc_ (by decide) | exact x31_ (by decide) | omega) (fun o7 => ?_)
      rw [hfb]
      refine r_istore_n hC dX6_back_31 rfl ?_
      refine r_aload_n hC dX6_back_32 rfl ?_
      refine r_iconst hC dX6_back_33 rfl ?_
      refine r_iload_n hC dX6_back_34 rfl ?_
      refine r_iaddE hC ((x + 4)) dX6_back_35 (by first | assumption | decide | exact xs_ (by decide) | exact xc_ (by decide) | exact x31_ (by decide) | omega) (by unfold inR; omega) ?_
      refine r_iload_n hC dX6_back_36 rfl ?_
      refine z_inv2 hM dX6_back_37 vl_RX6_292 rfl rfl rfl (Nat.le_of_ble_eq_true rfl) (Nat.le_of_ble_eq_true rfl) ?_
      refine y_copyLane (V := V) (by first | assumption | decide | exact xs_ (by decide) | exact xc_ (by decide) | exact x31_ (by decide) | omega) (by first | assumption | decide | exact xs_ (by decide) | exact xc_ (by decide) | exact x31_ (by decide) | omega) ht ⟨hR.1, hR.2.1, hR.2.2⟩ (by first | assumption | decide | exact xs_ (by decide) | exact xc_ (by decide) | exact x31_ (by decide) | omega) (fun vc9 ρ8 Rρ8 => ?_)
      have fx_ρ8 := (Rρ8.2.2).fx (V 7 (x + 4) 0)
      have hV : mu (mu (cpM V (x + 4) (V 7 (x + 4) 0)) 7 (V 7 (x + 4) 0) 0 vc9) 7 (V 7 (x + 4) 0) 0 ((cpM V (x + 4) (V 7 (x + 4) 0)) 7 (V 7 (x + 4) 0) 0) = (cpM V (x + 4) (V 7 (x + 4) 0)) := mu_back rfl
      have zS := (Rρ8.1).v0 (b := (V 7 (x + 4) 0)) (a := (cpM V (x + 4) (V 7 (x + 4) 0)) 7 (V 7 (x + 4) 0) 0)
      rw [hV] at zS
      have zK : KF t (cpM V (x + 4) (V 7 (x + 4) 0)) ρ8 := (Rρ8.2.1).v (fun m => (mu_ne (by first | assumption | decide | exact xs_ (by decide) | exact xc_ (by decide) | exact x31_ (by decide) | omega)).symm)
      have zF : FB (cpM V (x + 4) (V 7 (x + 4) 0)) ρ8 := (Rρ8.2.2).v (fun m y a b c => (mu_ne (by first | assumption | decide | exact xs_ (by decide) | exact xc_ (by decide) | exact x31_ (by decide) | omega)).symm)
      refine r_aload_n hC dX6_back_40 rfl ?_
      refine r_iload_n hC dX6_back_41 rfl ?_
      refine z_inv1 hM dX6_back_42 vl_RX6_176 rfl rfl rfl (Nat.le_of_ble_eq_true rfl) (Nat.le_of_ble_eq_true rfl) ?_
      refine y_endWatches (V := (cpM V (x + 4) (V 7 (x + 4) 0))) (by first | assumption | decide | exact xs_ (by decide) | exact xc_ (by decide) | exact x31_ (by decide) | omega) ht ⟨zS, zK, zF⟩ (fun ρ10 Rρ10 => ?_)
      refine r_aload_n hC dX6_back_45 rfl ?_
      refine r_iload_n hC dX6_back_46 rfl ?_
      refine z_inv1 hM dX6_back_47 vl_RX6_179 rfl rfl rfl (Nat.le_of_ble_eq_true rfl) (Nat.le_of_ble_eq_true rfl) ?_
      refine y_endLinks (V := (etA (cpM V (x + 4) (V 7 (x + 4) 0)) (V 7 (x + 4) 0) 8)) (by first | assumption | decide | exact xs_ (by decide) | exact xc_ (by decide) | exact x31_ (by decide) | omega) ht ⟨Rρ10.1, Rρ10.2.1, Rρ10.2.2⟩ (fun ρ11 Rρ11 => ?_)
      refine r_aload_n hC dX6_back_50 rfl ?_
      refine r_iload_n hC dX6_back_51 rfl ?_
      refine z_inv1 hM dX6_back_52 vl_RX6_116 rfl rfl rfl (Nat.le_of_ble_eq_true rfl) (Nat.le_of_ble_eq_true rfl) ?_
      refine y_heldOf (by first | assumption | decide | exact xs_ (by decide) | exact xc_ (by decide) | exact x31_ (by decide) | omega) (fun o12 => ?_)
      have e13 : ρ11 31 0 (22 * (V 7 (x + 4) 0) + 5) = (V 7 (x + 4) 6) := (Rρ11.1.a7 (s := 6) (f := 5) (by first | assumption | decide | exact xs_ (by decide) | exact xc_ (by decide) | exact x31_ (by decide) | omega) (by first | assumption | decide | exact xs_ (by decide) | exact xc_ (by decide) | exact x31_ (by decide) | omega) (by first | assumption | decide | exact xs_ (by decide) | exact xc_ (by decide) | exact x31_ (by decide) | omega)).trans (((if_neg (by first | assumption | decide | exact xs_ (by decide) | exact xc_ (by decide) | exact x31_ (by decide) | omega))).trans (((if_neg (by first | assumption | decide | exact xs_ (by decide) | exact xc_ (by decide) | exact x31_ (by decide) | omega))).trans (cpM_6)))
      rw [e13] at o12 ⊢
      have qo12 : 0 ≤ (V 7 (x + 4) 6) ∧ (V 7 (x + 4) 6) ≤ 121 := o12.1 (by first | assumption | decide | exact xs_ (by decide) | exact xc_ (by decide) | exact x31_ (by decide) | omega)
      refine y_iret hK rfl dX6_back_55 ?_
      have hM : bkM V x = (etB (etA (cpM V (x + 4) (V 7 (x + 4) 0)) (V 7 (x + 4) 0) 8) (V 7 (x + 4) 0) 4) := by
        exact if_pos ⟨by omega, by omega⟩
      have hRr : bkR V x = (V 7 (x + 4) 6) := by
        exact if_pos ⟨by omega, by omega⟩
      rw [hM] at k
      rw [hRr] at k
      exact k _ ⟨Rρ11.1, Rρ11.2.1, Rρ11.2.2⟩
    · refine r_iconst hC dX6_back_20 rfl ?_
      refine y_iret hK rfl dX6_back_21 ?_
      have hM : bkM V x = V := by
        exact if_neg (by first | assumption | decide | exact xs_ (by decide) | exact xc_ (by decide) | exact x31_ (by decide) | omega)
      have hRr : bkR V x = (-1) := by
        exact if_neg (by first | assumption | decide | exact xs_ (by decide) | exact xc_ (by decide) | exact x31_ (by decide) | omega)
      rw [hM] at k
      rw [hRr] at k
      exact k _ ⟨hR.1, hR.2.1, hR.2.2⟩
  · refine r_if_eq (tgt := 20) hC dX6_back_6 rfl (fun h14 => ?_) (fun h14 => by omega)
    refine r_iconst hC dX6_back_20 rfl ?_
    refine y_iret hK rfl dX6_back_21 ?_
    have hM : bkM V x = V := by
      exact if_neg (by first | assumption | decide | exact xs_ (by decide) | exact xc_ (by decide) | exact x31_ (by decide) | omega)
    have hRr : bkR V x = (-1) := by
      exact if_neg (by first | assumption | decide | exact xs_ (by decide) | exact xc_ (by decide) | exact x31_ (by decide) | omega)
    rw [hM] at k
    rw [hRr] at k
    exact k _ ⟨hR.1, hR.2.1, hR.2.2⟩
