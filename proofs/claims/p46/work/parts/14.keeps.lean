-- B: what always holds at rest, and what keeps it
theorem hc_spec (f : Int → Int) (t : Int) : ∀ n : Nat, (∀ j : Int, hc f t n ≤ j → j < (n : Int) → t < f j) ∧ (hc f t n = 0 ∨ f (hc f t n - 1) ≤ t)
  | 0 => ⟨fun j a b => by have : (0 : Int) ≤ j := a; omega, Or.inl rfl⟩
  | n + 1 => by
    obtain ⟨i1, i2⟩ := hc_spec f t n
    have e : hc f t (n + 1) = (if f n ≤ t then (n : Int) + 1 else hc f t n) := rfl
    rw [e]
    by_cases h : f n ≤ t
    · rw [if_pos h]
      refine ⟨fun j a b => by omega, Or.inr ?_⟩
      rw [show (n : Int) + 1 - 1 = (n : Int) from by omega]
      exact h
    · rw [if_neg h]
      refine ⟨fun j a b => ?_, i2⟩
      by_cases ej : j = (n : Int)
      · subst ej; omega
      · exact i1 j a (by omega)
theorem hU_hi {V : Mm} {i t j : Int} (h : hU V i t ≤ j) (h1 : j < V 7 i 6) (h0 : 0 ≤ V 7 i 6) : t < V 8 i j := (hc_spec (V 8 i) t (V 7 i 6).toNat).1 j h (by omega)
theorem hU_lo {V : Mm} {i t j : Int} (s : So (V 8 i) (V 7 i 6)) (h0 : 0 ≤ V 7 i 6) (hj : 0 ≤ j) (h : j < hU V i t) : V 8 i j ≤ t := by
  have hb := hU_b (V := V) (i := i) (t := t) h0
  rcases (hc_spec (V 8 i) t (V 7 i 6).toNat).2 with q | q
  · have : hU V i t = 0 := q
    omega
  · have q2 : V 8 i (hU V i t - 1) ≤ t := q
    have := s.le2 hj (show j ≤ hU V i t - 1 by omega) (by omega)
    omega
theorem So_ins {f : Int → Int} {h a t : Int} (s : So f h) (ha : 0 ≤ a ∧ a ≤ h) (h1 : ∀ j : Int, 0 ≤ j → j < a → f j ≤ t) (h2 : ∀ j : Int, a ≤ j → j < h → t < f j) : So (insR f a h t) (h + 1) := fun j j0 j1 => by
  unfold insR
  by_cases e1 : j + 1 < a
  · rw [if_neg (by omega), if_neg (by omega), if_neg (by omega), if_neg (by omega)]
    exact s j j0 (by omega)
  by_cases e2 : j + 1 = a
  · rw [if_neg (by omega), if_neg (by omega), if_pos e2]
    exact h1 j j0 (by omega)
  by_cases e3 : j = a
  · rw [if_pos e3, if_neg (by omega), if_pos (by omega), show j + 1 - 1 = j from by omega]
    have := h2 j (by omega) (by omega)
    omega
  · rw [if_neg e3, if_pos (by omega), if_neg (by omega), if_pos (by omega), show j + 1 - 1 = j - 1 + 1 from by omega]
    exact s (j - 1) (by omega) (by omega)
theorem So_rem {f : Int → Int} {h e : Int} (s : So f h) (he : 0 ≤ e) : So (remR f e h) (h - 1) := fun j j0 j1 => by
  unfold remR
  by_cases e1 : j + 1 < e
  · rw [if_neg (by omega), if_neg (by omega)]
    exact s j j0 (by omega)
  by_cases e2 : j + 1 = e
  · rw [if_neg (by omega), if_pos (by omega)]
    have a := s j j0 (by omega)
    have b := s (j + 1) (by omega) (by omega)
    omega
  · rw [if_pos (by omega), if_pos (by omega)]
    exact s (j + 1) (by omega) (by omega)
def GJ (V : Mm) : Prop :=
  (∀ l : Int, 0 ≤ l → l ≤ 6 → So (V 8 l) (V 7 l 6)) ∧
  (∀ l : Int, 0 ≤ l → l ≤ 6 → (-1 ≤ V 7 l 10 ∧ V 7 l 10 ≤ 100000) ∧ (0 ≤ V 7 l 5 ∧ V 7 l 5 ≤ 10000) ∧ 0 ≤ V 7 l 4 ∧ V 7 l 4 ≤ 10000) ∧
  (∀ l y : Int, 0 ≤ l → l ≤ 6 → 0 ≤ y → y ≤ 120 → (0 ≤ V 8 l y ∧ V 8 l y ≤ 100000) ∧ -1000 ≤ V 9 l y ∧ V 9 l y ≤ 1000) ∧
  (∀ l : Int, 0 ≤ l → l ≤ 6 → (V 7 l 1 = 0 ∨ V 7 l 1 = 1) ∧ 0 ≤ V 7 l 2 ∧ V 7 l 2 ≤ 9) ∧
  (∀ b : Int, 4 ≤ b → b ≤ 6 → V 7 b 1 = 1 → 0 ≤ V 7 b 0 ∧ V 7 b 0 ≤ 3) ∧
  (∀ i : Int, 0 ≤ i → i ≤ 3 → V 13 i 0 = -1 ∨ (opV V i ∧ opV V (V 13 i 0) ∧ V 13 i 0 ≠ i ∧ V 13 (V 13 i 0) 0 = -1 ∧ 0 ≤ V 13 i 2 ∧ V 13 i 2 < numF (V 7 i 2))) ∧
  (∀ w : Int, 0 ≤ w → w ≤ 7 → (V 12 w 0 = -1 ∨ (opV V (V 12 w 0) ∧ 0 ≤ V 12 w 1 ∧ V 12 w 1 < numF (V 7 (V 12 w 0) 2))) ∧ (V 12 w 3 = 0 ∨ V 12 w 3 = 1)) ∧
  (∀ j : Int, 0 ≤ j → j < 16 → 0 ≤ V 15 0 j ∧ V 15 0 j ≤ 3)
/-- the places that GJ speaks of, but for a LANE's rows, how many are held and the newest's time -/
abbrev GP (c : Nat) (y : Int) : Prop := (c = 7 ∧ (y = 0 ∨ y = 1 ∨ y = 2 ∨ y = 4 ∨ y = 5)) ∨ (c = 13 ∧ (y = 0 ∨ y = 2)) ∨ (c = 12 ∧ (y = 0 ∨ y = 1 ∨ y = 3)) ∨ c = 15
abbrev GR (c : Nat) (y : Int) : Prop := c = 8 ∨ c = 9 ∨ (c = 7 ∧ (y = 6 ∨ y = 10))
theorem GJ.lane {V W : Mm} (i : Int) (h : GJ V) (e : ∀ (c : Nat) (x y : Int), GP c y → W c x y = V c x y) (e2 : ∀ (c : Nat) (x y : Int), x ≠ i → GR c y → W c x y = V c x y) (hS : 0 ≤ i → i ≤ 6 → So (W 8 i) (W 7 i 6)) (hN : 0 ≤ i → i ≤ 6 → -1 ≤ W 7 i 10 ∧ W 7 i 10 ≤ 100000) (hR : ∀ y : Int, 0 ≤ i → i ≤ 6 → 0 ≤ y → y ≤ 120 → (0 ≤ W 8 i y ∧ W 8 i y ≤ 100000) ∧ -1000 ≤ W 9 i y ∧ W 9 i y ≤ 1000) : GJ W := by
  obtain ⟨q1, q2, q3, q4, q5, q6, q7, q8⟩ := h
  have e7 : ∀ x y : Int, (y = 0 ∨ y = 1 ∨ y = 2 ∨ y = 4 ∨ y = 5) → W 7 x y = V 7 x y := fun x y hy => e 7 x y (Or.inl ⟨rfl, hy⟩)
  have e13 : ∀ x y : Int, (y = 0 ∨ y = 2) → W 13 x y = V 13 x y := fun x y hy => e 13 x y (Or.inr (Or.inl ⟨rfl, hy⟩))
  have e12 : ∀ x y : Int, (y = 0 ∨ y = 1 ∨ y = 3) → W 12 x y = V 12 x y := fun x y hy => e 12 x y (Or.inr (Or.inr (Or.inl ⟨rfl, hy⟩)))
  refine ⟨fun l a b => ?_, fun l a b => ?_, fun l y a b c d => ?_, fun l a b => ?_, fun b a c d => ?_, fun l a b => ?_, fun w a b => ?_, fun j a b => ?_⟩
  · by_cases hl : l = i
    · subst hl; exact hS a b
    · rw [e2 7 l 6 hl (by omega), show W 8 l = V 8 l from funext fun y => e2 8 l y hl (by omega)]; exact q1 l a b
  · have q := q2 l a b
    rw [e7 l 5 (by omega), e7 l 4 (by omega)]
    refine ⟨?_, q.2⟩
    by_cases hl : l = i
    · subst hl; exact hN a b
    · rw [e2 7 l 10 hl (by omega)]; exact q.1
  · by_cases hl : l = i
    · subst hl; exact hR y a b c d
    · rw [e2 8 l y hl (by omega), e2 9 l y hl (by omega)]; exact q3 l y a b c d
  · rw [e7 l 1 (by omega), e7 l 2 (by omega)]; exact q4 l a b
  · rw [e7 b 1 (by omega)] at d
    rw [e7 b 0 (by omega)]; exact q5 b a c d
  · unfold opV
    rw [e13 l 0 (by omega), e13 l 2 (by omega), e13 _ 0 (by omega), e7 l 1 (by omega), e7 l 2 (by omega), e7 _ 1 (by omega)]; exact q6 l a b
  · unfold opV
    rw [e12 w 0 (by omega), e12 w 1 (by omega), e12 w 3 (by omega), e7 _ 1 (by omega), e7 _ 2 (by omega)]; exact q7 w a b
  · rw [e 15 0 j (Or.inr (Or.inr (Or.inr rfl)))]; exact q8 j a b
theorem GJ.to {V W : Mm} (h : GJ V) (e : ∀ (c : Nat) (x y : Int), GP c y ∨ GR c y → W c x y = V c x y) : GJ W := by
  refine h.lane (-1) (fun c x y q => e c x y (Or.inl q)) (fun c x y _ q => e c x y (Or.inr q)) (fun a => by omega) (fun a => by omega) (fun y a => by omega)
theorem GJ.rg {V : Mm} (h : GJ V) {i : Int} : GJ (rgM V i) := by
  obtain ⟨q1, q2, q3, q4, q5, q6, q7, q8⟩ := h
  refine ⟨fun l a b => ?_, fun l a b => ?_, fun l y a b c d => ?_, fun l a b => ?_, fun b a c d => ?_, fun l a b => ?_, fun w a b => ?_, fun j a b => ?_⟩
  · rw [rgM_ne (by omega), show rgM V i 8 l = V 8 l from funext fun y => rgM_ne (by omega)]; exact q1 l a b
  · rw [rgM_ne (by omega), rgM_ne (by omega), rgM_ne (by omega)]; exact q2 l a b
  · rw [rgM_ne (by omega), rgM_ne (by omega)]; exact q3 l y a b c d
  · rw [rgM_ne (by omega), rgM_ne (by omega)]; exact q4 l a b
  · rw [rgM_ne (by omega)] at d
    rw [rgM_ne (by omega)]; exact q5 b a c d
  · unfold opV
    rw [show ∀ x : Int, rgM V i 13 x 0 = V 13 x 0 from fun x => rgM_ne (by omega), show ∀ x : Int, rgM V i 13 x 2 = V 13 x 2 from fun x => rgM_ne (by omega), show ∀ x : Int, rgM V i 7 x 1 = V 7 x 1 from fun x => rgM_ne (by omega), show ∀ x : Int, rgM V i 7 x 2 = V 7 x 2 from fun x => rgM_ne (by omega)]; exact q6 l a b
  · refine ⟨?_, ?_⟩
    · unfold opV
      rw [show ∀ x : Int, rgM V i 12 x 0 = V 12 x 0 from fun x => rgM_ne (by omega), show ∀ x : Int, rgM V i 12 x 1 = V 12 x 1 from fun x => rgM_ne (by omega), show ∀ x : Int, rgM V i 7 x 1 = V 7 x 1 from fun x => rgM_ne (by omega), show ∀ x : Int, rgM V i 7 x 2 = V 7 x 2 from fun x => rgM_ne (by omega)]; exact (q7 w a b).1
    · unfold rgM
      split
      · rw [if_pos rfl]; exact isR_01 V i w
      · exact (q7 w a b).2
  · rw [rgM_ne (by omega)]; exact q8 j a b
theorem ins_row8 {V : Mm} {i a t v : Int} : insM V i a t v 8 i = insR (V 8 i) a (V 7 i 6) t := by
  funext y
  unfold insM
  rw [if_pos rfl, if_pos rfl]
theorem ins_row9 {V : Mm} {i a t v : Int} : insM V i a t v 9 i = insR (V 9 i) a (V 7 i 6) v := by
  funext y
  unfold insM
  rw [if_pos rfl, if_neg (by decide), if_pos rfl]
theorem insM_10 {V : Mm} {i a t v : Int} : insM V i a t v 7 i 10 = max (V 7 i 10) t := by
  unfold insM
  rw [if_pos rfl, if_neg (by decide), if_neg (by decide), if_neg (by decide), if_pos rfl, if_neg (by decide), if_neg (by decide), if_pos rfl]
theorem rem_row {V : Mm} {i a : Int} {c : Nat} (h : c = 8 ∨ c = 9 ∨ c = 10) : remM V i a c i = remR (V c i) a (V 7 i 6) := by
  funext y
  unfold remM
  rw [if_pos rfl, if_pos h]
theorem insR_b {f : Int → Int} {a h x lo hi : Int} (hf : ∀ y : Int, 0 ≤ y → y ≤ 120 → lo ≤ f y ∧ f y ≤ hi) (hx : lo ≤ x ∧ x ≤ hi) (ha : 0 ≤ a) {y : Int} (y0 : 0 ≤ y) (y1 : y ≤ 120) : lo ≤ insR f a h x y ∧ insR f a h x y ≤ hi := by
  unfold insR
  split
  · exact hx
  · split
    · exact hf _ (by omega) (by omega)
    · exact hf y y0 y1
theorem remR_b {f : Int → Int} {a h lo hi : Int} (hf : ∀ y : Int, 0 ≤ y → y ≤ 120 → lo ≤ f y ∧ f y ≤ hi) (hh : h ≤ 121) {y : Int} (y0 : 0 ≤ y) (y1 : y ≤ 120) : lo ≤ remR f a h y ∧ remR f a h y ≤ hi := by
  unfold remR
  split
  · exact hf _ (by omega) (by omega)
  · exact hf y y0 y1
theorem GJ.ins {V : Mm} (h : GJ V) {i t v : Int} (h0 : 0 ≤ i) (h1 : i ≤ 6) (h6 : 0 ≤ V 7 i 6) (ht : 0 ≤ t ∧ t ≤ 100000) (hv : -1000 ≤ v ∧ v ≤ 1000) : GJ (insM V i (hU V i t) t v) := by
  have hb := hU_b (V := V) (i := i) (t := t) h6
  have hs := h.1 i h0 h1
  refine h.lane i (fun c x y q => insM_ne (by omega)) (fun c x y hx q => insM_ne (by omega)) (fun _ _ => ?_) (fun _ _ => ?_) (fun y _ _ a b => ?_)
  · rw [ins_row8, insM_6]
    exact So_ins hs hb (fun j j0 j1 => hU_lo hs h6 j0 j1) (fun j j0 j1 => hU_hi j0 j1 h6)
  · rw [insM_10]
    have := (h.2.1 i h0 h1).1
    omega
  · rw [ins_row8, ins_row9]
    exact ⟨insR_b (fun y a b => (h.2.2.1 i y h0 h1 a b).1) ht hb.1 a b, insR_b (fun y a b => (h.2.2.1 i y h0 h1 a b).2) hv hb.1 a b⟩
theorem GJ.rem {V : Mm} (h : GJ V) {i a : Int} (h0 : 0 ≤ i) (h1 : i ≤ 6) (h6 : V 7 i 6 ≤ 121) (ha : 0 ≤ a) : GJ (remM V i a) := by
  refine h.lane i (fun c x y q => remM_ne (by omega)) (fun c x y hx q => remM_ne (by omega)) (fun _ _ => ?_) (fun _ _ => ?_) (fun y _ _ b c => ?_)
  · rw [rem_row (Or.inl rfl), remM_6]
    exact So_rem (h.1 i h0 h1) ha
  · rw [remM_ne (by omega)]
    exact (h.2.1 i h0 h1).1
  · rw [rem_row (Or.inl rfl), rem_row (Or.inr (Or.inl rfl))]
    exact ⟨remR_b (fun y a b => (h.2.2.1 i y h0 h1 a b).1) h6 b c, remR_b (fun y a b => (h.2.2.1 i y h0 h1 a b).2) h6 b c⟩
theorem GJ.su {V : Mm} (h : GJ V) {i : Int} {f : Int → Int} : GJ (su V 11 i f) := h.to fun c x y q => su_ne (by omega)
theorem GJ.dp {V : Mm} (h : GJ V) {i : Int} (h0 : 0 ≤ i) (h1 : i ≤ 6) (h6 : V 7 i 6 ≤ 121) : GJ (dpM V i) := by
  unfold dpM
  refine GJ.rg ?_
  unfold dfM
  refine GJ.su ?_
  exact (h.rem h0 h1 h6 (Int.le_refl 0)).to fun c x y q => mu_ne (by omega)
theorem GJ.en {V : Mm} (h : GJ V) {i t v : Int} (h0 : 0 ≤ i) (h1 : i ≤ 6) (h6 : 0 ≤ V 7 i 6) (ht : 0 ≤ t ∧ t ≤ 100000) (hv : -1000 ≤ v ∧ v ≤ 1000) : GJ (enM V i t v) := by
  unfold enM
  refine GJ.rg ?_
  split
  · exact (h.ins h0 h1 h6 ht hv).su
  · exact (h.ins h0 h1 h6 ht hv).su
theorem GJ_drps {i : Int} (h0 : 0 ≤ i) (h1 : i ≤ 6) : ∀ (n : Nat) {V : Mm}, GJ V → V 7 i 6 ≤ 121 → GJ (drps i n V)
  | 0, _, h, _ => h
  | n + 1, V, h, h6 => by
    show GJ (if goV V i then drps i n (dpM V i) else V)
    split
    · exact GJ_drps h0 h1 n (h.dp h0 h1 h6) (by rw [dpM_6]; omega)
    · exact h
theorem GJ_dpN {i : Int} (h0 : 0 ≤ i) (h1 : i ≤ 6) : ∀ (n : Nat) {V : Mm}, GJ V → V 7 i 6 ≤ 121 → GJ (dpN i n V)
  | 0, _, h, _ => h
  | n + 1, V, h, h6 => GJ_dpN h0 h1 n (h.dp h0 h1 h6) (by rw [dpM_6]; omega)
theorem GJ.pl {V : Mm} (h : GJ V) {i t v : Int} (h0 : 0 ≤ i) (h1 : i ≤ 6) (h6 : 0 ≤ V 7 i 6 ∧ V 7 i 6 ≤ 120) (ht : 0 ≤ t ∧ t ≤ 100000) (hv : -1000 ≤ v ∧ v ≤ 1000) : GJ (plM V i t v) :=
  GJ_drps h0 h1 _ (h.en h0 h1 h6.1 ht hv) (by rw [enM_6]; omega)
theorem GJ.gv {V : Mm} (h : GJ V) (hc : CI V) {i t : Int} (h0 : 0 ≤ i) (h1 : i ≤ 3) : GJ (gvM V i t) := by
  unfold gvM
  split
  · rename_i q
    have hW : GJ (mu V 13 i 3 (wr (V 13 i 3 + 1))) := h.to fun c x y q => mu_ne (by omega)
    have h6 := hc.h7 (l := V 13 i 0) q.1.1 (by omega)
    have h6i := hc.h7 (l := i) h0 (by omega)
    refine hW.pl q.1.1 (by omega) (by rw [mu_ne (by omega)]; exact h6) (h.2.2.1 i _ h0 (by omega) (by omega) (by omega)).1 (by omega)
  · exact h
theorem GJ.nt {V : Mm} (h : GJ V) : GJ (ntM V) := h.to fun c x y q => if_neg (by omega)
theorem GJ.lk {V : Mm} (h : GJ V) (hc : CI V) {l : Int} (h0 : 0 ≤ l) (h1 : l ≤ 6) : LK V l := by
  have h6 := hc.h7 h0 h1
  refine ⟨(h.2.2.2.1 l h0 h1).2, by omega, fun j a b => (h.2.2.1 l j h0 h1 a b).2, h.2.2.2.2.2.2.2, fun w a b c => ?_, fun w a b => (h.2.2.2.2.2.2.1 w a b).2⟩
  rcases (h.2.2.2.2.2.2.1 w a b).1 with q | q
  · omega
  · rw [c] at q; exact q.2
def GM (V : Mm) : Prop := ∀ l : Int, 0 ≤ l → l ≤ 6 → V 7 l 6 ≤ V 7 l 15
def GI (V : Mm) : Prop := CI V ∧ GJ V ∧ GM V
theorem pl_10 {V : Mm} {i t v : Int} : plM V i t v 7 i 10 = max (V 7 i 10) t := by
  have hd : ∀ (n : Nat) (W : Mm), drps i n W 7 i 10 = W 7 i 10 := fun n => by
    induction n with
    | zero => intro W; rfl
    | succ n ih =>
      intro W
      show (if goV W i then drps i n (dpM W i) else W) 7 i 10 = W 7 i 10
      split
      · rw [ih, dpM_ne (by omega)]
      · rfl
  unfold plM
  rw [hd]
  unfold enM
  rw [rgM_ne (by omega)]
  split
  · rw [adM_ne (by omega), insM_10]
  · rw [lyM_ne (by omega), insM_10]
theorem GM.nt {V : Mm} (h : ∀ l : Int, 4 ≤ l → l ≤ 6 → V 7 l 6 ≤ V 7 l 15) : GM (ntM V) := fun l a b => by
  rw [show ntM V 7 l 6 = V 7 l 6 from if_neg (by omega)]
  by_cases hl : l ≤ 3
  · rw [show ntM V 7 l 15 = max (V 7 l 15) (V 7 l 6) from if_pos ⟨rfl, ⟨a, hl⟩, rfl⟩]
    omega
  · rw [show ntM V 7 l 15 = V 7 l 15 from if_neg (by omega)]
    exact h l (by omega) b
-- B: every call keeps what holds at rest
theorem FI_zr {f : Int → Int} : FI (zrR f) 0 := by
  have e0 : zrR f 0 = 0 := rfl
  have e1 : zrR f 1 = 0 := rfl
  have e2 : zrR f 2 = 0 := rfl
  have e3 : zrR f 3 = 0 := rfl
  unfold FI
  rw [e0, e1, e2, e3]
  omega
theorem FI_c {f g : Int → Int} {h : Int} (p : FI f h) (e : ∀ y : Int, 0 ≤ y → y ≤ 3 → g y = f y) : FI g h := by
  unfold FI
  rw [e 0 (by omega) (by omega), e 1 (by omega) (by omega), e 2 (by omega) (by omega), e 3 (by omega) (by omega)]
  exact p
theorem etM_13 {V : Mm} {l i : Int} (a : 0 ≤ i) (b : i ≤ 3) : etM V l 13 i 0 = if i = l ∨ V 13 i 0 = l then -1 else V 13 i 0 := by
  have e : etA V l 8 13 i 0 = V 13 i 0 := if_neg (by omega)
  unfold etM etB
  rw [e]
  by_cases q : i = l ∨ V 13 i 0 = l
  · rw [if_pos q, if_pos ⟨rfl, ⟨a, by omega⟩, rfl, q⟩]
  · rw [if_neg q, if_neg (fun z => q z.2.2.2)]
theorem etM_12 {V : Mm} {l w : Int} (a : 0 ≤ w) (b : w ≤ 7) : etM V l 12 w 0 = if V 12 w 0 = l then -1 else V 12 w 0 := by
  have e : etB (etA V l 8) l 4 12 w 0 = etA V l 8 12 w 0 := if_neg (by omega)
  show etB (etA V l 8) l 4 12 w 0 = _
  rw [e]
  unfold etA
  by_cases q : V 12 w 0 = l
  · rw [if_pos q, if_pos ⟨rfl, ⟨a, by omega⟩, rfl, q⟩]
  · rw [if_neg q, if_neg (fun z => q z.2.2.2)]
/-- what GJ says of LANES, BOXES and the TABLE, without the ties -/
def GK (V : Mm) : Prop :=
  (∀ l : Int, 0 ≤ l → l ≤ 6 → So (V 8 l) (V 7 l 6)) ∧
  (∀ l : Int, 0 ≤ l → l ≤ 6 → (-1 ≤ V 7 l 10 ∧ V 7 l 10 ≤ 100000) ∧ (0 ≤ V 7 l 5 ∧ V 7 l 5 ≤ 10000) ∧ 0 ≤ V 7 l 4 ∧ V 7 l 4 ≤ 10000) ∧
  (∀ l y : Int, 0 ≤ l → l ≤ 6 → 0 ≤ y → y ≤ 120 → (0 ≤ V 8 l y ∧ V 8 l y ≤ 100000) ∧ -1000 ≤ V 9 l y ∧ V 9 l y ≤ 1000) ∧
  (∀ l : Int, 0 ≤ l → l ≤ 6 → (V 7 l 1 = 0 ∨ V 7 l 1 = 1) ∧ 0 ≤ V 7 l 2 ∧ V 7 l 2 ≤ 9) ∧
  (∀ b : Int, 4 ≤ b → b ≤ 6 → V 7 b 1 = 1 → 0 ≤ V 7 b 0 ∧ V 7 b 0 ≤ 3) ∧
  (∀ j : Int, 0 ≤ j → j < 16 → 0 ≤ V 15 0 j ∧ V 15 0 j ≤ 3)
theorem GJ.gk {V : Mm} (h : GJ V) : GK V := ⟨h.1, h.2.1, h.2.2.1, h.2.2.2.1, h.2.2.2.2.1, h.2.2.2.2.2.2.2⟩
theorem GK.et {V W : Mm} {l : Int} (p : GK W) (h : GJ V) (h0 : 0 ≤ l) (e7 : ∀ x y : Int, x ≠ l → y = 1 ∨ y = 2 → x ≤ 3 → W 7 x y = V 7 x y) (e12 : ∀ x y : Int, W 12 x y = V 12 x y) (e13 : ∀ x y : Int, W 13 x y = V 13 x y) : GJ (etM W l) := by
  obtain ⟨p1, p2, p3, p4, p5, p8⟩ := p
  refine ⟨fun i a b => ?_, fun i a b => ?_, fun i y a b c d => ?_, fun i a b => ?_, fun b a c d => ?_, fun i a b => ?_, fun w a b => ?_, fun j a b => ?_⟩
  · rw [etM_ne (by omega), show etM W l 8 i = W 8 i from funext fun y => etM_ne (by omega)]; exact p1 i a b
  · rw [etM_ne (by omega), etM_ne (by omega), etM_ne (by omega)]; exact p2 i a b
  · rw [etM_ne (by omega), etM_ne (by omega)]; exact p3 i y a b c d
  · rw [etM_ne (by omega), etM_ne (by omega)]; exact p4 i a b
  · rw [etM_ne (by omega)] at d
    rw [etM_ne (by omega)]; exact p5 b a c d
  · rw [etM_13 a b, e13 i 0]
    by_cases q : i = l ∨ V 13 i 0 = l
    · left; exact if_pos q
    · rw [if_neg q]
      rcases h.2.2.2.2.2.1 i a b with z | ⟨z1, z2, z3, z4, z5⟩
      · exact Or.inl z
      · have hj : V 13 i 0 ≠ l := fun z => q (Or.inr z)
        have hi : i ≠ l := fun z => q (Or.inl z)
        refine Or.inr ⟨⟨z1.1, ?_⟩, ⟨z2.1, ?_⟩, z3, ?_, ?_⟩
        · rw [etM_ne (by omega), e7 i 1 hi (Or.inl rfl) b]; exact z1.2
        · rw [etM_ne (by omega), e7 _ 1 hj (Or.inl rfl) z2.1.2]; exact z2.2
        · rw [etM_13 z2.1.1 z2.1.2, e13, z4, if_neg (by omega)]
        · rw [etM_ne (by omega), etM_ne (by omega), e7 i 2 hi (Or.inr rfl) b, e13 i 2]; exact z5
  · refine ⟨?_, ?_⟩
    · rw [etM_12 a b, e12 w 0]
      by_cases q : V 12 w 0 = l
      · left; exact if_pos q
      · rw [if_neg q]
        rcases (h.2.2.2.2.2.2.1 w a b).1 with z | ⟨z1, z2⟩
        · exact Or.inl z
        · refine Or.inr ⟨⟨z1.1, ?_⟩, ?_⟩
          · rw [etM_ne (by omega), e7 _ 1 q (Or.inl rfl) z1.1.2]; exact z1.2
          · rw [etM_ne (by omega), etM_ne (by omega), e12 w 1, e7 _ 2 q (Or.inr rfl) z1.1.2]; exact z2
    · rw [etM_ne (by omega), e12 w 3]; exact (h.2.2.2.2.2.2.1 w a b).2
  · rw [etM_ne (by omega)]; exact p8 j a b
theorem CI.et {V : Mm} {l : Int} (h : CI V) (h0 : 0 ≤ l) : CI (etM V l) := by
  refine ⟨fun i a b => ?_, fun i a b => ?_, fun i a b => ?_, fun i a b => ?_⟩
  · rw [etM_ne (by omega)]; exact h.1 i a b
  · rw [etM_ne (by omega), show etM V l 11 i = V 11 i from funext fun y => etM_ne (by omega)]; exact h.2.1 i a b
  · rw [etM_ne (by omega), etM_ne (by omega), etM_ne (by omega)]; exact h.2.2.1 i a b
  · rw [etM_13 a b]
    split
    · omega
    · exact h.2.2.2 i a b
theorem GM.et {V : Mm} {l : Int} (h : GM V) : GM (etM V l) := fun i a b => by
  rw [etM_ne (by omega), etM_ne (by omega)]; exact h i a b
theorem GI.sh {V : Mm} (h : GI V) (l : Int) : GI (shM V l) := by
  unfold shM
  split
  · rename_i q
    obtain ⟨⟨ql0, ql3⟩, q1⟩ := q
    obtain ⟨hc, hj, hm⟩ := h
    obtain ⟨p1, p2, p3, p4, p5, p8⟩ := hj.gk
    refine ⟨CI.et (hc.to fun c x y z => mu_ne (by omega)) ql0, GK.et (V := V) ⟨fun i a b => ?_, fun i a b => ?_, fun i y a b c d => ?_, fun i a b => ?_, fun b a c d => ?_, fun j a b => ?_⟩ hj ql0 (fun x y z _ _ => mu_ne (by omega)) (fun x y => mu_ne (by omega)) (fun x y => mu_ne (by omega)), GM.et (fun i a b => ?_)⟩
    · rw [mu_ne (by omega), show mu V 7 l 1 0 8 i = V 8 i from funext fun y => mu_ne (by omega)]; exact p1 i a b
    · rw [mu_ne (by omega), mu_ne (by omega), mu_ne (by omega)]; exact p2 i a b
    · rw [mu_ne (by omega), mu_ne (by omega)]; exact p3 i y a b c d
    · refine ⟨?_, ?_⟩
      · by_cases z : i = l
        · subst z; exact Or.inl (mu_self _ _ _ _ _)
        · rw [mu_ne (by omega)]; exact (p4 i a b).1
      · rw [mu_ne (by omega)]; exact (p4 i a b).2
    · rw [mu_ne (by omega)] at d
      rw [mu_ne (by omega)]; exact p5 b a c d
    · rw [mu_ne (by omega)]; exact p8 j a b
    · rw [mu_ne (by omega), mu_ne (by omega)]; exact hm i a b
  · exact h
theorem GI.on {V : Mm} (h : GI V) (l o b z y : Int) : GI (onM V l o b z y) := by
  unfold onM
  split
  · rename_i q
    obtain ⟨q1, q2, q3, q4, q5⟩ := q
    obtain ⟨zz, hzz⟩ : ∃ zz : Int, zz = (if b = 0 then 0 else z) := ⟨_, rfl⟩
    rw [← hzz]
    have hz : (b = 0 ∧ zz = 0) ∨ (b = 1 ∧ 1 ≤ zz ∧ zz ≤ 120) ∨ (b = 2 ∧ 1 ≤ zz ∧ zz ≤ 10000) := by
      rw [hzz]
      split <;> omega
    obtain ⟨hc, hj, hm⟩ := h
    obtain ⟨p1, p2, p3, p4, p5, p8⟩ := hj.gk
    have b7 : ∀ t : Int, bgM V l o b zz y 7 l t = bgR o b zz y (V 7 l) t := fun t => by
      unfold bgM
      rw [if_pos rfl, if_pos rfl]
    have bn : ∀ (c : Nat) (x t : Int), x ≠ l → bgM V l o b zz y c x t = V c x t := fun c x t e => if_neg e
    have bo : ∀ (c : Nat) (x t : Int), c ≠ 7 → c ≠ 11 → bgM V l o b zz y c x t = V c x t := fun c x t e7 e11 => by
      unfold bgM
      by_cases hx : x = l
      · rw [if_pos hx, if_neg e7, if_neg e11]
      · rw [if_neg hx]
    have v0 : bgM V l o b zz y 7 l 0 = V 7 l 0 := (b7 0).trans (by simp [bgR])
    have v1 : bgM V l o b zz y 7 l 1 = 1 := (b7 1).trans (by simp [bgR])
    have v2 : bgM V l o b zz y 7 l 2 = o := (b7 2).trans (by simp [bgR])
    have v3 : bgM V l o b zz y 7 l 3 = b := (b7 3).trans (by simp [bgR])
    have v4 : bgM V l o b zz y 7 l 4 = zz := (b7 4).trans (by simp [bgR])
    have v5 : bgM V l o b zz y 7 l 5 = y := (b7 5).trans (by simp [bgR])
    have v6 : bgM V l o b zz y 7 l 6 = 0 := (b7 6).trans (by simp [bgR])
    have v10 : bgM V l o b zz y 7 l 10 = -1 := (b7 10).trans (by simp [bgR])
    have v15 : bgM V l o b zz y 7 l 15 = 0 := (b7 15).trans (by simp [bgR])
    have e11 : bgM V l o b zz y 11 l = zrR (V 11 l) := funext fun t => by
      unfold bgM
      rw [if_pos rfl, if_neg (by decide), if_pos rfl]
    refine ⟨CI.et ⟨fun i a c => ?_, fun i a c => ?_, fun i a c => ?_, fun i a c => ?_⟩ q1.1, GK.et (V := V) ⟨fun i a c => ?_, fun i a c => ?_, fun i t a c d e => ?_, fun i a c => ?_, fun i a c d => ?_, fun j a c => ?_⟩ hj q1.1 (fun x t e _ _ => bn 7 x t e) (fun x t => bo 12 x t (by decide) (by decide)) (fun x t => bo 13 x t (by decide) (by decide)), GM.et (fun i a c => ?_)⟩
    · by_cases e : i = l
      · subst e; rw [v0]; exact hc.1 i a c
      · rw [bn _ _ _ e]; exact hc.1 i a c
    · by_cases e : i = l
      · subst e; rw [v6, e11]; exact FI_zr
      · rw [bn _ _ _ e, show bgM V l o b zz y 11 i = V 11 i from funext fun t => bn 11 i t e]; exact hc.2.1 i a c
    · by_cases e : i = l
      · subst e; rw [v3, v4, v6]; unfold Rst; omega
      · rw [bn _ _ _ e, bn _ _ _ e, bn _ _ _ e]; exact hc.2.2.1 i a c
    · rw [bo _ _ _ (by decide) (by decide)]; exact hc.2.2.2 i a c
    · by_cases e : i = l
      · subst e; rw [v6]; exact fun j j0 j1 => by omega
      · rw [bn _ _ _ e, show bgM V l o b zz y 8 i = V 8 i from funext fun t => bn 8 i t e]; exact p1 i a c
    · by_cases e : i = l
      · subst e; rw [v10, v5, v4]; omega
      · rw [bn _ _ _ e, bn _ _ _ e, bn _ _ _ e]; exact p2 i a c
    · rw [bo _ _ _ (by decide) (by decide), bo _ _ _ (by decide) (by decide)]; exact p3 i t a c d e
    · by_cases e : i = l
      · subst e; rw [v1, v2]; omega
      · rw [bn _ _ _ e, bn _ _ _ e]; exact p4 i a c
    · rw [bn _ _ _ (by omega)] at d
      rw [bn _ _ _ (by omega)]; exact p5 i a c d
    · rw [bo _ _ _ (by decide) (by decide)]; exact p8 j a c
    · by_cases e : i = l
      · subst e; rw [v6, v15]; omega
      · rw [bn _ _ _ e, bn _ _ _ e]; exact hm i a c
  · exact h
-- copies
theorem cp_7 {V : Mm} {a b y : Int} (h : cpS y) : cpM V a b 7 b y = V 7 a y := by
  unfold cpM
  rw [if_pos rfl, if_pos rfl, if_pos h]
theorem cp_in {V : Mm} {a b y : Int} {c : Nat} (hc : c = 8 ∨ c = 9 ∨ c = 10) (h : 0 ≤ y ∧ y < V 7 a 6) : cpM V a b c b y = V c a y := by
  unfold cpM
  rw [if_pos rfl, if_neg (by omega), if_pos hc, if_pos h]
theorem cp_off {V : Mm} {a b y : Int} {c : Nat} (hc : c = 8 ∨ c = 9 ∨ c = 10) (h : ¬ (0 ≤ y ∧ y < V 7 a 6)) : cpM V a b c b y = V c b y := by
  unfold cpM
  rw [if_pos rfl, if_neg (by omega), if_pos hc, if_neg h]
theorem cp_11 {V : Mm} {a b y : Int} (h : 0 ≤ y ∧ y ≤ 6) : cpM V a b 11 b y = V 11 a y := by
  unfold cpM
  rw [if_pos rfl, if_neg (by decide), if_neg (by decide), if_pos rfl, if_pos h]
theorem cp_ot {V : Mm} {a b x y : Int} {c : Nat} (h : 12 ≤ c) : cpM V a b c x y = V c x y := by
  unfold cpM
  split
  · rw [if_neg (by omega), if_neg (by omega), if_neg (by omega)]
  · rfl
theorem CI.cp {V : Mm} (h : CI V) {a b : Int} (a0 : 0 ≤ a) (a6 : a ≤ 6) (hb : b ≤ 3 → V 7 a 0 = b) : CI (cpM V a b) := by
  refine ⟨fun i c d => ?_, fun i c d => ?_, fun i c d => ?_, fun i c d => ?_⟩
  · by_cases e : i = b
    · subst e; rw [cp_7 (by unfold cpS; omega)]; exact hb d
    · rw [cpM_ne e]; exact h.1 i c d
  · by_cases e : i = b
    · subst e; rw [cp_7 (by unfold cpS; omega)]; exact FI_c (h.2.1 a a0 a6) (fun y y0 y1 => cp_11 ⟨y0, by omega⟩)
    · rw [cpM_ne e, show cpM V a b 11 i = V 11 i from funext fun y => cpM_ne e]; exact h.2.1 i c d
  · by_cases e : i = b
    · subst e; rw [cp_7 (by unfold cpS; omega), cp_7 (by unfold cpS; omega), cp_7 (by unfold cpS; omega)]; exact h.2.2.1 a a0 a6
    · rw [cpM_ne e, cpM_ne e, cpM_ne e]; exact h.2.2.1 i c d
  · rw [cp_ot (by decide)]; exact h.2.2.2 i c d
theorem GK.cp {V : Mm} (h : GK V) {a b : Int} (a0 : 0 ≤ a) (a6 : a ≤ 6) (hb : 4 ≤ b → 0 ≤ V 7 a 0 ∧ V 7 a 0 ≤ 3) : GK (cpM V a b) := by
  obtain ⟨p1, p2, p3, p4, p5, p8⟩ := h
  refine ⟨fun i c d => ?_, fun i c d => ?_, fun i y c d e f => ?_, fun i c d => ?_, fun i c d e => ?_, fun j c d => ?_⟩
  · by_cases e : i = b
    · subst e
      rw [cp_7 (by unfold cpS; omega)]
      intro j j0 j1
      rw [cp_in (Or.inl rfl) ⟨j0, by omega⟩, cp_in (Or.inl rfl) ⟨by omega, j1⟩]
      exact p1 a a0 a6 j j0 j1
    · rw [cpM_ne e, show cpM V a b 8 i = V 8 i from funext fun y => cpM_ne e]; exact p1 i c d
  · by_cases e : i = b
    · subst e; rw [cp_7 (by unfold cpS; omega), cp_7 (by unfold cpS; omega), cp_7 (by unfold cpS; omega)]; exact p2 a a0 a6
    · rw [cpM_ne e, cpM_ne e, cpM_ne e]; exact p2 i c d
  · by_cases g : i = b
    · subst g
      by_cases k : 0 ≤ y ∧ y < V 7 a 6
      · rw [cp_in (Or.inl rfl) k, cp_in (Or.inr (Or.inl rfl)) k]; exact p3 a y a0 a6 e f
      · rw [cp_off (Or.inl rfl) k, cp_off (Or.inr (Or.inl rfl)) k]; exact p3 i y c d e f
    · rw [cpM_ne g, cpM_ne g]; exact p3 i y c d e f
  · by_cases e : i = b
    · subst e; rw [cp_7 (by unfold cpS; omega), cp_7 (by unfold cpS; omega)]; exact p4 a a0 a6
    · rw [cpM_ne e, cpM_ne e]; exact p4 i c d
  · by_cases g : i = b
    · subst g; rw [cp_7 (by unfold cpS; omega)]; exact hb c
    · rw [cpM_ne g] at e
      rw [cpM_ne g]; exact p5 i c d e
  · rw [cp_ot (by decide)]; exact p8 j c d
theorem GM.cp {V : Mm} (h : GM V) {a b : Int} (a0 : 0 ≤ a) (a6 : a ≤ 6) : GM (cpM V a b) := fun i c d => by
  by_cases e : i = b
  · subst e; rw [cp_7 (by unfold cpS; omega), cp_7 (by unfold cpS; omega)]; exact h a a0 a6
  · rw [cpM_ne e, cpM_ne e]; exact h i c d
theorem GI.kp {V : Mm} (h : GI V) (l x : Int) : GI (kpM V l x) := by
  unfold kpM
  split
  · rename_i q
    obtain ⟨⟨⟨ql0, ql3⟩, q1⟩, q2, q3⟩ := q
    obtain ⟨hc, hj, hm⟩ := h
    have hk := GK.cp (b := x + 4) hj.gk ql0 (by omega) (fun _ => by rw [hc.1 l ql0 ql3]; omega)
    have e7 : ∀ m y : Int, m ≤ 3 → cpM V l (x + 4) 7 m y = V 7 m y := fun m y hm3 => cpM_ne (by omega)
    refine ⟨hc.cp ql0 (by omega) (fun _ => by omega), ⟨hk.1, hk.2.1, hk.2.2.1, hk.2.2.2.1, hk.2.2.2.2.1, fun i a b => ?_, fun w a b => ?_, hk.2.2.2.2.2⟩, hm.cp ql0 (by omega)⟩
    · rw [cp_ot (by decide), cp_ot (by decide), cp_ot (by decide)]
      rcases hj.2.2.2.2.2.1 i a b with z | ⟨z1, z2, z3, z4, z5⟩
      · exact Or.inl z
      · refine Or.inr ⟨⟨z1.1, ?_⟩, ⟨z2.1, ?_⟩, z3, z4, ?_⟩
        · rw [e7 i 1 b]; exact z1.2
        · rw [e7 _ 1 z2.1.2]; exact z2.2
        · rw [e7 i 2 b]; exact z5
    · have c12 : ∀ y : Int, cpM V l (x + 4) 12 w y = V 12 w y := fun y => cp_ot (by decide)
      rw [c12 0, c12 1, c12 3]
      refine ⟨?_, (hj.2.2.2.2.2.2.1 w a b).2⟩
      rcases (hj.2.2.2.2.2.2.1 w a b).1 with z | ⟨z1, z2⟩
      · exact Or.inl z
      · refine Or.inr ⟨⟨z1.1, ?_⟩, ?_⟩
        · rw [e7 _ 1 z1.1.2]; exact z1.2
        · rw [e7 _ 2 z1.1.2]; exact z2
  · exact h
theorem GI.bk {V : Mm} (h : GI V) (x : Int) : GI (bkM V x) := by
  unfold bkM
  split
  · rename_i q
    obtain ⟨⟨q1, q2⟩, q3⟩ := q
    obtain ⟨hc, hj, hm⟩ := h
    have hr := hj.2.2.2.2.1 (x + 4) (by omega) (by omega) q3
    refine ⟨CI.et (hc.cp (by omega) (by omega) (fun _ => rfl)) hr.1, GK.et (V := V) (hj.gk.cp (by omega) (by omega) (fun z => by omega)) hj hr.1 (fun m y e _ _ => cpM_ne e) (fun m y => cp_ot (by decide)) (fun m y => cp_ot (by decide)), GM.et (hm.cp (by omega) (by omega))⟩
  · exact h
-- ties
theorem GJ.w12 {V W : Mm} (h : GJ V) (e : ∀ (c : Nat) (x y : Int), c ≠ 12 → W c x y = V c x y) (p7 : ∀ w : Int, 0 ≤ w → w ≤ 7 → (W 12 w 0 = -1 ∨ (opV V (W 12 w 0) ∧ 0 ≤ W 12 w 1 ∧ W 12 w 1 < numF (V 7 (W 12 w 0) 2))) ∧ (W 12 w 3 = 0 ∨ W 12 w 3 = 1)) : GJ W := by
  have e7 : W 7 = V 7 := funext fun x => funext fun y => e 7 x y (by decide)
  have e8 : W 8 = V 8 := funext fun x => funext fun y => e 8 x y (by decide)
  have e9 : W 9 = V 9 := funext fun x => funext fun y => e 9 x y (by decide)
  have e13 : W 13 = V 13 := funext fun x => funext fun y => e 13 x y (by decide)
  have e15 : W 15 = V 15 := funext fun x => funext fun y => e 15 x y (by decide)
  obtain ⟨q1, q2, q3, q4, q5, q6, q7, q8⟩ := h
  unfold GJ opV
  rw [e7, e8, e9, e13, e15]
  exact ⟨q1, q2, q3, q4, q5, q6, p7, q8⟩
theorem GJ.w13 {V W : Mm} (h : GJ V) (e : ∀ (c : Nat) (x y : Int), c ≠ 13 → W c x y = V c x y) (p6 : ∀ i : Int, 0 ≤ i → i ≤ 3 → W 13 i 0 = -1 ∨ (opV V i ∧ opV V (W 13 i 0) ∧ W 13 i 0 ≠ i ∧ W 13 (W 13 i 0) 0 = -1 ∧ 0 ≤ W 13 i 2 ∧ W 13 i 2 < numF (V 7 i 2))) : GJ W := by
  have e7 : W 7 = V 7 := funext fun x => funext fun y => e 7 x y (by decide)
  have e8 : W 8 = V 8 := funext fun x => funext fun y => e 8 x y (by decide)
  have e9 : W 9 = V 9 := funext fun x => funext fun y => e 9 x y (by decide)
  have e12 : W 12 = V 12 := funext fun x => funext fun y => e 12 x y (by decide)
  have e15 : W 15 = V 15 := funext fun x => funext fun y => e 15 x y (by decide)
  obtain ⟨q1, q2, q3, q4, q5, q6, q7, q8⟩ := h
  unfold GJ opV
  rw [e7, e8, e9, e12, e15]
  exact ⟨q1, q2, q3, q4, q5, p6, q7, q8⟩
theorem GI.wt {V : Mm} (h : GI V) (v l w b : Int) : GI (wtM V v l w b) := by
  unfold wtM
  split
  · rename_i q
    obtain ⟨⟨q1, q2⟩, q3⟩ := q
    obtain ⟨hc, hj, hm⟩ := h
    have e : ∀ (c : Nat) (x y : Int), ¬ (c = 12 ∧ x = v) → (mu (mu (mu (mu (mu (mu V 12 v 0 l) 12 v 1 w) 12 v 2 b) 12 v 3 (rc1 V l w b)) 12 v 4 0) 12 v 5 (-1)) c x y = V c x y := fun c x y z => by
      rw [mu_ne (by omega), mu_ne (by omega), mu_ne (by omega), mu_ne (by omega), mu_ne (by omega), mu_ne (by omega)]
    refine ⟨hc.to (fun c x y z => e c x y (by omega)), hj.w12 (fun c x y z => e c x y (by omega)) (fun j a c => ?_), fun i a c => ?_⟩
    · by_cases g : j = v
      · subst g
        rw [mu_ne (by omega), mu_ne (by omega), mu_ne (by omega), mu_ne (by omega), mu_ne (by omega), mu_self, mu_ne (by omega), mu_ne (by omega), mu_ne (by omega), mu_ne (by omega), mu_self, mu_ne (by omega), mu_ne (by omega), mu_self]
        exact ⟨Or.inr ⟨q1, q2⟩, rc1_01 V l w b⟩
      · rw [e _ _ _ (by omega), e _ _ _ (by omega), e _ _ _ (by omega)]; exact hj.2.2.2.2.2.2.1 j a c
    · rw [e _ _ _ (by omega), e _ _ _ (by omega)]; exact hm i a c
  · exact h
theorem GI.lk {V : Mm} (h : GI V) {l o z w : Int} (q : lkC V l o z w) : GI (lkM V l o z w) := by
  obtain ⟨⟨q1, q2⟩, q3, q4, q5, q6, q7⟩ := q
  obtain ⟨hc, hj, hm⟩ := h
  have e : ∀ (c : Nat) (x y : Int), ¬ (c = 13 ∧ x = l) → lkM V l o z w c x y = V c x y := fun c x y g => by
    unfold lkM
    rw [mu_ne (by omega), mu_ne (by omega), mu_ne (by omega), mu_ne (by omega)]
  have e0 : lkM V l o z w 13 l 0 = o := by
    unfold lkM
    rw [mu_ne (by omega), mu_ne (by omega), mu_ne (by omega), mu_self]
  have e2 : lkM V l o z w 13 l 2 = w := by
    unfold lkM
    rw [mu_ne (by omega), mu_self]
  refine ⟨⟨fun i a b => ?_, fun i a b => ?_, fun i a b => ?_, fun i a b => ?_⟩, hj.w13 (fun c x y g => e c x y (by omega)) (fun i a b => ?_), fun i a b => ?_⟩
  · rw [e _ _ _ (by omega)]; exact hc.1 i a b
  · rw [e _ _ _ (by omega), show lkM V l o z w 11 i = V 11 i from funext fun y => e _ _ _ (by omega)]; exact hc.2.1 i a b
  · rw [e _ _ _ (by omega), e _ _ _ (by omega), e _ _ _ (by omega)]; exact hc.2.2.1 i a b
  · by_cases g : i = l
    · subst g; rw [e0]; omega
    · rw [e _ _ _ (by omega)]; exact hc.2.2.2 i a b
  · by_cases g : i = l
    · subst g
      rw [e0, e2, e 13 o 0 (by omega)]
      exact Or.inr ⟨q1, q3, by omega, q6, q2⟩
    · rw [e 13 i 0 (by omega), e 13 i 2 (by omega)]
      rcases hj.2.2.2.2.2.1 i a b with y | ⟨z1, z2, z3, z4, z5⟩
      · exact Or.inl y
      · refine Or.inr ⟨z1, z2, z3, ?_, z5⟩
        have := q7 i a (by omega)
        rw [e 13 _ 0 (by omega)]; exact z4
  · rw [e _ _ _ (by omega), e _ _ _ (by omega)]; exact hm i a b
theorem GI.ul {V : Mm} (h : GI V) (l : Int) : GI (ulM V l) := by
  unfold ulM
  split
  · rename_i q
    obtain ⟨⟨ql0, ql3⟩, q1⟩ := q
    obtain ⟨hc, hj, hm⟩ := h
    refine ⟨⟨fun i a b => ?_, fun i a b => ?_, fun i a b => ?_, fun i a b => ?_⟩, hj.w13 (fun c x y g => mu_ne (by omega)) (fun i a b => ?_), fun i a b => ?_⟩
    · rw [mu_ne (by omega)]; exact hc.1 i a b
    · rw [mu_ne (by omega), show mu V 13 l 0 (-1) 11 i = V 11 i from funext fun y => mu_ne (by omega)]; exact hc.2.1 i a b
    · rw [mu_ne (by omega), mu_ne (by omega), mu_ne (by omega)]; exact hc.2.2.1 i a b
    · by_cases g : i = l
      · subst g; rw [mu_self]; omega
      · rw [mu_ne (by omega)]; exact hc.2.2.2 i a b
    · by_cases g : i = l
      · subst g; exact Or.inl (mu_self _ _ _ _ _)
      · rw [show mu V 13 l 0 (-1) 13 i 0 = V 13 i 0 from mu_ne (by omega), show mu V 13 l 0 (-1) 13 i 2 = V 13 i 2 from mu_ne (by omega)]
        rcases hj.2.2.2.2.2.1 i a b with y | ⟨z1, z2, z3, z4, z5⟩
        · exact Or.inl y
        · refine Or.inr ⟨z1, z2, z3, ?_, z5⟩
          by_cases k : V 13 i 0 = l
          · rw [k]; exact mu_self _ _ _ _ _
          · rw [mu_ne (by omega)]; exact z4
    · rw [mu_ne (by omega), mu_ne (by omega)]; exact hm i a b
  · exact h
theorem GI.tb {V : Mm} (h : GI V) {x y : Int} (hy : 0 ≤ y ∧ y ≤ 3) : GI (mu V 15 0 x y) := by
  obtain ⟨hc, hj, hm⟩ := h
  refine ⟨hc.to (fun c a b z => mu_ne (by omega)), ?_, fun i a b => ?_⟩
  · have e7 : mu V 15 0 x y 7 = V 7 := funext fun a => funext fun b => mu_ne (by omega)
    have e8 : mu V 15 0 x y 8 = V 8 := funext fun a => funext fun b => mu_ne (by omega)
    have e9 : mu V 15 0 x y 9 = V 9 := funext fun a => funext fun b => mu_ne (by omega)
    have e12 : mu V 15 0 x y 12 = V 12 := funext fun a => funext fun b => mu_ne (by omega)
    have e13 : mu V 15 0 x y 13 = V 13 := funext fun a => funext fun b => mu_ne (by omega)
    obtain ⟨q1, q2, q3, q4, q5, q6, q7, q8⟩ := hj
    unfold GJ opV
    rw [e7, e8, e9, e12, e13]
    refine ⟨q1, q2, q3, q4, q5, q6, q7, fun j a b => ?_⟩
    by_cases g : j = x
    · subst g; rw [mu_self]; exact hy
    · rw [mu_ne (by omega)]; exact q8 j a b
  · rw [mu_ne (by omega), mu_ne (by omega)]; exact hm i a b
theorem GI.lt {V : Mm} (h : GI V) {x y : Int} : GI (mu V 16 0 x y) := by
  obtain ⟨hc, hj, hm⟩ := h
  refine ⟨hc.to (fun c a b z => mu_ne (by omega)), hj.to (fun c a b z => mu_ne (by omega)), fun i a b => ?_⟩
  rw [mu_ne (by omega), mu_ne (by omega)]; exact hm i a b
-- what is let go
theorem GI_dpN {i : Int} (h0 : 0 ≤ i) (h1 : i ≤ 3) : ∀ (n : Nat) {V : Mm}, GI V → (n : Int) ≤ V 7 i 6 → GI (dpN i n V)
  | 0, _, h, _ => h
  | n + 1, V, h, hn => by
    have h6 := h.1.h7 h0 (show i ≤ 6 by omega)
    show GI (dpN i n (dpM V i))
    refine GI_dpN h0 h1 n ⟨h.1.dp h0 h1 (by omega), h.2.1.dp h0 (by omega) (by omega), fun l a b => ?_⟩ (by rw [dpM_6]; omega)
    by_cases hl : l = i
    · subst hl
      rw [dpM_6, dpM_ne (by omega)]
      have := h.2.2 l a b
      omega
    · rw [dpM_ne (by omega), dpM_ne (by omega)]; exact h.2.2 l a b
theorem GI.le {V : Mm} (h : GI V) (l m : Int) : GI (leM V l m) := by
  unfold leM
  split
  · rename_i q
    exact GI_dpN q.1.1.1 q.1.1.2 _ h (by have := q.2; omega)
  · exact h
theorem GI.un {V : Mm} (h : GI V) (l t : Int) : GI (unM V l t) := by
  unfold unM
  split
  · rename_i q
    have h6 := h.1.h7 (l := l) q.1.1 (by omega)
    have hb := hU_b (V := V) (i := l) (t := t) h6.1
    exact GI_dpN q.1.1 q.1.2 _ h (by omega)
  · exact h
theorem GI.ta {V : Mm} (h : GI V) (l x : Int) : GI (taM V l x) := by
  unfold taM
  split
  · rename_i q
    obtain ⟨⟨⟨ql0, ql3⟩, q1⟩, q2, q3⟩ := q
    obtain ⟨hc, hj, hm⟩ := h
    have h6 := hc.h7 ql0 (show l ≤ 6 by omega)
    refine ⟨CI.rg ⟨fun i a b => ?_, fun i a b => ?_, fun i a b => ?_, fun i a b => ?_⟩, GJ.rg (GJ.su (hj.rem ql0 (by omega) (by omega) q2)), fun i a b => ?_⟩
    · rw [lyM_ne (by omega), remM_ne (by omega)]; exact hc.1 i a b
    · rw [lyM_ne (by omega)]
      by_cases hl : i = l
      · subst hl
        rw [remM_6, show lyM (remM V i x) i (V 7 i 6 - 1) 11 i = lyR (V 7 i 6 - 1) (remM V i x 11 i) from funext fun y => su_at]
        exact FI_ly (by omega)
      · rw [remM_ne (by omega), show lyM (remM V l x) l (V 7 l 6 - 1) 11 i = V 11 i from funext fun y => (lyM_ne (by omega)).trans (remM_ne (by omega))]; exact hc.2.1 i a b
    · rw [lyM_ne (by omega), lyM_ne (by omega), lyM_ne (by omega)]
      by_cases hl : i = l
      · subst hl
        rw [remM_6, remM_ne (by omega), remM_ne (by omega)]
        have := hc.2.2.1 i a b
        unfold Rst at this ⊢
        omega
      · rw [remM_ne (by omega), remM_ne (by omega), remM_ne (by omega)]; exact hc.2.2.1 i a b
    · rw [lyM_ne (by omega), remM_ne (by omega)]; exact hc.2.2.2 i a b
    · rw [rgM_ne (by omega), rgM_ne (by omega), lyM_ne (by omega), lyM_ne (by omega)]
      by_cases hl : i = l
      · subst hl
        rw [remM_6, remM_ne (by omega)]
        have := hm i a b
        omega
      · rw [remM_ne (by omega), remM_ne (by omega)]; exact hm i a b
  · exact h
theorem GI.al {V : Mm} (h : GI V) (l x v : Int) : GI (alM V l x v) := by
  unfold alM
  split
  · rename_i q
    obtain ⟨⟨⟨⟨ql0, ql3⟩, q1⟩, q2, q3⟩, q4⟩ := q
    obtain ⟨hc, hj, hm⟩ := h
    have hl := CI.lay (V := mu V 9 l x v) (i := l) (hc.to fun c a b z => mu_ne (by omega)) ql0 ql3
    rw [show mu V 9 l x v 7 l 6 = V 7 l 6 from mu_ne (by omega)] at hl
    refine ⟨hl.rg, GJ.rg (GJ.su (hj.lane l (fun c a b z => mu_ne (by omega)) (fun c a b z1 z2 => mu_ne (by omega)) (fun a b => ?_) (fun a b => ?_) (fun y a b c d => ?_))), fun i a b => ?_⟩
    · rw [mu_ne (by omega), show mu V 9 l x v 8 l = V 8 l from funext fun y => mu_ne (by omega)]; exact hj.1 l a b
    · rw [mu_ne (by omega)]; exact (hj.2.1 l a b).1
    · rw [show mu V 9 l x v 8 l y = V 8 l y from mu_ne (by omega)]
      refine ⟨(hj.2.2.1 l y a b c d).1, ?_⟩
      by_cases g : y = x
      · subst g; rw [mu_self]; exact q4
      · rw [mu_ne (by omega)]; exact (hj.2.2.1 l y a b c d).2
    · rw [rgM_ne (by omega), rgM_ne (by omega), lyM_ne (by omega), lyM_ne (by omega), mu_ne (by omega), mu_ne (by omega)]; exact hm i a b
  · exact h
-- what comes
theorem GI.k13 {V : Mm} (h : GI V) {l : Int} (h0 : 0 ≤ l) (h1 : l ≤ 3) : V 13 l 0 ≤ 3 := by
  rcases h.2.1.2.2.2.2.2.1 l h0 h1 with q | q
  · omega
  · exact q.2.1.1.2
theorem GJ.k13 {V : Mm} (h : GJ V) {l : Int} (h0 : 0 ≤ l) (h1 : l ≤ 3) : V 13 l 0 ≤ 3 := by
  rcases h.2.2.2.2.2.1 l h0 h1 with q | q
  · omega
  · exact q.2.1.1.2
/-- one that comes, with its gift -/
theorem GI_cm {V : Mm} {l t v : Int} (hc : CI V) (hj : GJ V) (h0 : 0 ≤ l) (h1 : l ≤ 3) (hf : ¬ fuV V l) (ht : 0 ≤ t ∧ t ≤ 100000) (hv : -1000 ≤ v ∧ v ≤ 1000) : CI (plM (gvM V l t) l t v) ∧ GJ (plM (gvM V l t) l t v) ∧ ∀ m y : Int, 4 ≤ m → plM (gvM V l t) l t v 7 m y = V 7 m y := by
  have hk := hj.k13 h0 h1
  have hg := hc.gv (i := l) (t := t)
  have e3 : gvM V l t 7 l 3 = V 7 l 3 := gv_7 hc h0 h1
  have e6 : gvM V l t 7 l 6 = V 7 l 6 := gv_7 hc h0 h1
  have hf2 : ¬ fuV (gvM V l t) l := by
    unfold fuV at hf ⊢
    rw [e3, e6]
    exact hf
  refine ⟨hg.pl h0 h1 hf2, (hj.gv hc h0 h1).pl h0 (by omega) (hg.h7 h0 (by omega)) ht hv, fun m y a => ?_⟩
  rw [plM_nx (by unfold PS; omega), gvM_nx (by unfold PS; omega) (by omega)]
theorem GI.co {V : Mm} (h : GI V) (l t v : Int) : GI (coM V l t v) := by
  unfold coM
  split
  · rename_i q
    obtain ⟨⟨⟨⟨ql0, ql3⟩, q1⟩, q2, q3⟩, q4, q5⟩ := q
    obtain ⟨hc, hj, hm⟩ := h
    have g := GI_cm hc hj ql0 ql3 q5 q2 q3
    refine ⟨g.1.nt, g.2.1.nt, GM.nt (fun m a b => ?_)⟩
    rw [g.2.2 m 6 a, g.2.2 m 15 a]
    exact hm m (by omega) b
  · exact h
theorem GI_bst {l s : Int} (h0 : 0 ≤ l) (h1 : l ≤ 3) : ∀ (n : Nat) {V : Mm} (v : Int), CI V → GJ V → V 7 l 10 + n ≤ 100000 → (V 7 l 3 = 1 ∨ V 7 l 6 + n ≤ 120) → (∀ i : Int, 0 ≤ i → i < n → -1000 ≤ v + i * s ∧ v + i * s ≤ 1000) → CI (bst l s n v V) ∧ GJ (bst l s n v V) ∧ ∀ m y : Int, 4 ≤ m → bst l s n v V 7 m y = V 7 m y
  | 0, _, _, hc, hj, _, _, _ => ⟨hc, hj, fun _ _ _ => rfl⟩
  | n + 1, V, v, hc, hj, ht, hh, hv => by
    have h10 := (hj.2.1 l h0 (by omega)).1
    have et : wr (V 7 l 10 + 1) = V 7 l 10 + 1 := wr_id ⟨by omega, by omega⟩
    have hv0 := hv 0 (by omega) (by omega)
    rw [Int.zero_mul, Int.add_zero] at hv0
    have g := GI_cm (t := V 7 l 10 + 1) (v := v) hc hj h0 h1 (by unfold fuV; omega) (by omega) hv0
    have hg := hc.gv (i := l) (t := V 7 l 10 + 1)
    have e10 : plM (gvM V l (V 7 l 10 + 1)) l (V 7 l 10 + 1) v 7 l 10 = V 7 l 10 + 1 := by
      rw [pl_10, gv_7 hc h0 h1]
      omega
    have e3 : plM (gvM V l (V 7 l 10 + 1)) l (V 7 l 10 + 1) v 7 l 3 = V 7 l 3 := (plM_nx (by unfold PS; omega)).trans (gv_7 hc h0 h1)
    have e6 := pl_6 hg (i := l) (t := V 7 l 10 + 1) (v := v) h0 h1
    rw [gv_7 hc h0 h1] at e6
    have ih := GI_bst (s := s) h0 h1 n (v + s) g.1 g.2.1 (by rw [e10]; omega) (by rw [e3]; omega) (fun i a b => by
      have := hv (i + 1) (by omega) (by omega)
      rw [Int.add_mul, Int.one_mul] at this
      omega)
    rw [bst_s, et]
    exact ⟨ih.1, ih.2.1, fun m y a => (ih.2.2 m y a).trans (g.2.2 m y a)⟩
theorem GI.bu {V : Mm} (h : GI V) (l m v s : Int) : GI (buM V l m v s) := by
  unfold buM
  split
  · rename_i q
    obtain ⟨⟨⟨ql0, ql3⟩, q1⟩, q2, q3, q4, q5, q6, q7⟩ := q
    obtain ⟨hc, hj, hm⟩ := h
    have h10 := (hj.2.1 l ql0 (by omega)).1
    rw [wr_id ⟨by omega, by omega⟩] at q6
    have g := GI_bst (s := s) ql0 ql3 m.toNat v hc hj (by omega) (by omega) (fun i a b => lin_btw (m := m - 1) a (by omega) q4 q5)
    refine ⟨g.1.nt, g.2.1.nt, GM.nt (fun i a b => ?_)⟩
    rw [g.2.2 i 6 a, g.2.2 i 15 a]
    exact hm i (by omega) b
  · exact h
-- B: the reference: gifts
theorem y_isLost {eb : Bool} {t : Int} {V : Mm} {d : Nat} {P : Option Vl → Mm → Prop} {σ : Mm} {l z : Int} (b_l : 0 ≤ l ∧ l ≤ 7) {σ0 : Mm} (ht : 6 ≤ t ∧ t ≤ 7) (hR : RS t σ0 V σ) (hl : l ≤ t)  (k1 : (0 ≤ V 7 l 10 ∧ z < wr (V 7 l 10 - V 7 l 5)) → P (some (vI 1)) σ) (k0 : ¬ (0 ≤ V 7 l 10 ∧ z < wr (V 7 l 10 - V 7 l 5)) → P (some (vI 0)) σ) : WT (true, eb, true) (d + 2) 202 [vR 30 0, vI l, vI z] σ P := by
  refine WT_in fun K hK => ?_
  have hK : StpY (true, eb, true) cX6_isLost RX6 (some .boolean) (WT (true, eb, true) (d + 1)) P K := hK
  have hM := hK.1
  have hC := hK.1.1
  show K 0 [some (vR 30 0), some (vI l), some (vI z)] [] σ
  refine r_rngz hC (fun g0 => ?_)
  have r_z : -2147483648 ≤ z ∧ z ≤ 2147483647 := inR_le (g0 (vI z) (by simp))
  refine r_aload_n hC dX6_isLost_0 rfl ?_
  refine r_iload_n hC dX6_isLost_1 rfl ?_
  refine r_bipush hC dX6_isLost_2 rfl ?_
  refine z_inv2 hM dX6_isLost_4 vl_RX6_80 rfl rfl rfl (Nat.le_of_ble_eq_true rfl) (Nat.le_of_ble_eq_true rfl) ?_
  refine y_of (by first | assumption | decide | exact xs_ (by decide) | exact xc_ (by decide) | exact x31_ (by decide) | omega) (by first | assumption | decide | exact xs_ (by decide) | exact xc_ (by decide) | exact x31_ (by decide) | omega) (by first | assumption | decide | exact xs_ (by decide) | exact xc_ (by decide) | exact x31_ (by decide) | omega) (fun o1 => ?_)
  have e2 : σ 31 0 (22 * l + 6) = (V 7 l 10) := (hR.1.a7 (s := 10) (f := 6) (by first | assumption | decide | exact xs_ (by decide) | exact xc_ (by decide) | exact x31_ (by decide) | omega) (by first | assumption | decide | exact xs_ (by decide) | exact xc_ (by decide) | exact x31_ (by decide) | omega) (by first | assumption | decide | exact xs_ (by decide) | exact xc_ (by decide) | exact x31_ (by decide) | omega)).trans (rfl)
  rw [e2] at o1 ⊢
  refine r_if_lt (tgt := 32) hC dX6_isLost_7 rfl (fun h3 => ?_) (fun h3 => ?_)
  · refine r_iconst hC dX6_isLost_32 rfl ?_
    refine y_zret hK rfl dX6_isLost_33 (by first | assumption | decide | exact xs_ (by decide) | exact xc_ (by decide) | exact x31_ (by decide) | omega) ?_
    exact k0 (by first | assumption | decide | exact xs_ (by decide) | exact xc_ (by decide) | exact x31_ (by decide) | omega)
  · refine r_iload_n hC dX6_isLost_10 rfl ?_
    refine r_aload_n hC dX6_isLost_11 rfl ?_
    refine r_iload_n hC dX6_isLost_12 rfl ?_
    refine r_bipush hC dX6_isLost_13 rfl ?_
    refine z_inv2 hM dX6_isLost_15 vl_RX6_80 rfl rfl rfl (Nat.le_of_ble_eq_true rfl) (Nat.le_of_ble_eq_true rfl) ?_
    refine y_of (by first | assumption | decide | exact xs_ (by decide) | exact xc_ (by decide) | exact x31_ (by decide) | omega) (by first | assumption | decide | exact xs_ (by decide) | exact xc_ (by decide) | exact x31_ (by decide) | omega) (by first | assumption | decide | exact xs_ (by decide) | exact xc_ (by decide) | exact x31_ (by decide) | omega) (fun o4 => ?_)
    have e5 : σ 31 0 (22 * l + 6) = (V 7 l 10) := (hR.1.a7 (s := 10) (f := 6) (by first | assumption | decide | exact xs_ (by decide) | exact xc_ (by decide) | exact x31_ (by decide) | omega) (by first | assumption | decide | exact xs_ (by decide) | exact xc_ (by decide) | exact x31_ (by decide) | omega) (by first | assumption | decide | exact xs_ (by decide) | exact xc_ (by decide) | exact x31_ (by decide) | omega)).trans (rfl)
    rw [e5] at o4 ⊢
    refine r_aload_n hC dX6_isLost_18 rfl ?_
    refine r_iload_n hC dX6_isLost_19 rfl ?_
    refine r_iconst hC dX6_isLost_20 rfl ?_
    refine z_inv2 hM dX6_isLost_21 vl_RX6_80 rfl rfl rfl (Nat.le_of_ble_eq_true rfl) (Nat.le_of_ble_eq_true rfl) ?_
    refine y_of (by first | assumption | decide | exact xs_ (by decide) | exact xc_ (by decide) | exact x31_ (by decide) | omega) (by first | assumption | decide | exact xs_ (by decide) | exact xc_ (by decide) | exact x31_ (by decide) | omega) (by first | assumption | decide | exact xs_ (by decide) | exact xc_ (by decide) | exact x31_ (by decide) | omega) (fun o6 => ?_)
    have e7 : σ 31 0 (22 * l + 4) = (V 7 l 5) := (hR.1.a7 (s := 5) (f := 4) (by first | assumption | decide | exact xs_ (by decide) | exact xc_ (by decide) | exact x31_ (by decide) | omega) (by first | assumption | decide | exact xs_ (by decide) | exact xc_ (by decide) | exact x31_ (by decide) | omega) (by first | assumption | decide | exact xs_ (by decide) | exact xc_ (by decide) | exact x31_ (by decide) | omega)).trans (rfl)
    rw [e7] at o6 ⊢
    refine r_isub hC dX6_isLost_24 ?_
    have f8 := inR_le (inR_wr ((V 7 l 10) - (V 7 l 5)))
    refine r_icmp_ge (tgt := 32) hC dX6_isLost_25 rfl (fun h9 => ?_) (fun h9 => ?_)
    · refine r_iconst hC dX6_isLost_32 rfl ?_
      refine y_zret hK rfl dX6_isLost_33 (by first | assumption | decide | exact xs_ (by decide) | exact xc_ (by decide) | exact x31_ (by decide) | omega) ?_
      exact k0 (by first | assumption | decide | exact xs_ (by decide) | exact xc_ (by decide) | exact x31_ (by decide) | omega)
    · refine r_iconst hC dX6_isLost_28 rfl ?_
      refine r_goto (tgt := 33) hC dX6_isLost_29 rfl ?_
      refine y_zret hK rfl dX6_isLost_33 (by first | assumption | decide | exact xs_ (by decide) | exact xc_ (by decide) | exact x31_ (by decide) | omega) ?_
      exact k1 (by first | assumption | decide | exact xs_ (by decide) | exact xc_ (by decide) | exact x31_ (by decide) | omega)
theorem y_isFull {eb : Bool} {t : Int} {V : Mm} {d : Nat} {P : Option Vl → Mm → Prop} {σ : Mm} {l : Int} (b_l : 0 ≤ l ∧ l ≤ 7) {σ0 : Mm} (ht : 6 ≤ t ∧ t ≤ 7) (hR : RS t σ0 V σ) (hl : l ≤ t)  (k1 : (V 7 l 3 ≠ 1 ∧ V 7 l 6 = 120) → P (some (vI 1)) σ) (k0 : ¬ (V 7 l 3 ≠ 1 ∧ V 7 l 6 = 120) → P (some (vI 0)) σ) : WT (true, eb, true) (d + 3) 203 [vR 30 0, vI l] σ P := by
  refine WT_in fun K hK => ?_
  have hK : StpY (true, eb, true) cX6_isFull RX6 (some .boolean) (WT (true, eb, true) (d + 2)) P K := hK
  have hM := hK.1
  have hC := hK.1.1
  show K 0 [some (vR 30 0), some (vI l)] [] σ
  refine r_aload_n hC dX6_isFull_0 rfl ?_
  refine r_iload_n hC dX6_isFull_1 rfl ?_
  refine r_iconst hC dX6_isFull_2 rfl ?_
  refine z_inv2 hM dX6_isFull_3 vl_RX6_80 rfl rfl rfl (Nat.le_of_ble_eq_true rfl) (Nat.le_of_ble_eq_true rfl) ?_
  refine y_of (by first | assumption | decide | exact xs_ (by decide) | exact xc_ (by decide) | exact x31_ (by decide) | omega) (by first | assumption | decide | exact xs_ (by decide) | exact xc_ (by decide) | exact x31_ (by decide) | omega) (by first | assumption | decide | exact xs_ (by decide) | exact xc_ (by decide) | exact x31_ (by decide) | omega) (fun o1 => ?_)
  have e2 : σ 31 0 (22 * l + 2) = (V 7 l 3) := (hR.1.a7 (s := 3) (f := 2) (by first | assumption | decide | exact xs_ (by decide) | exact xc_ (by decide) | exact x31_ (by decide) | omega) (by first | assumption | decide | exact xs_ (by decide) | exact xc_ (by decide) | exact x31_ (by decide) | omega) (by first | assumption | decide | exact xs_ (by decide) | exact xc_ (by decide) | exact x31_ (by decide) | omega)).trans (rfl)
  rw [e2] at o1 ⊢
  refine r_iconst hC dX6_isFull_6 rfl ?_
  refine r_icmp_eq (tgt := 24) hC dX6_isFull_7 rfl (fun h3 => ?_) (fun h3 => ?_)
  · refine r_iconst hC dX6_isFull_24 rfl ?_
    refine y_zret hK rfl dX6_isFull_25 (by first | assumption | decide | exact xs_ (by decide) | exact xc_ (by decide) | exact x31_ (by decide) | omega) ?_
    exact k0 (by first | assumption | decide | exact xs_ (by decide) | exact xc_ (by decide) | exact x31_ (by decide) | omega)
  · refine r_aload_n hC dX6_isFull_10 rfl ?_
    refine r_iload_n hC dX6_isFull_11 rfl ?_
    refine z_inv1 hM dX6_isFull_12 vl_RX6_116 rfl rfl rfl (Nat.le_of_ble_eq_true rfl) (Nat.le_of_ble_eq_true rfl) ?_
    refine y_heldOf (by first | assumption | decide | exact xs_ (by decide) | exact xc_ (by decide) | exact x31_ (by decide) | omega) (fun o4 => ?_)
    have e5 : σ 31 0 (22 * l + 5) = (V 7 l 6) := (hR.1.a7 (s := 6) (f := 5) (by first | assumption | decide | exact xs_ (by decide) | exact xc_ (by decide) | exact x31_ (by decide) | omega) (by first | assumption | decide | exact xs_ (by decide) | exact xc_ (by decide) | exact x31_ (by decide) | omega) (by first | assumption | decide | exact xs_ (by decide) | exact xc_ (by decide) | exact x31_ (by decide) | omega)).trans (rfl)
    rw [e5] at o4 ⊢
    have qo4 : 0 ≤ (V 7 l 6) ∧ (V 7 l 6) ≤ 121 := o4.1 (by first | assumption | decide | exact xs_ (by decide) | exact xc_ (by decide) | exact x31_ (by decide) | omega)
    refine r_bipush hC dX6_isFull_15 rfl ?_
    refine r_icmp_ne (tgt := 24) hC dX6_isFull_17 rfl (fun h6 => ?_) (fun h6 => ?_)
    · refine r_iconst hC dX6_isFull_24 rfl ?_
      refine y_zret hK rfl dX6_isFull_25 (by first | assumption | decide | exact xs_ (by decide) | exact xc_ (by decide) | exact x31_ (by decide) | omega) ?_
      exact k0 (by first | assumption | decide | exact xs_ (by decide) | exact xc_ (by decide) | exact x31_ (by decide) | omega)
    · refine r_iconst hC dX6_isFull_20 rfl ?_
      refine r_goto (tgt := 25) hC dX6_isFull_21 rfl ?_
      refine y_zret hK rfl dX6_isFull_25 (by first | assumption | decide | exact xs_ (by decide) | exact xc_ (by decide) | exact x31_ (by decide) | omega) ?_
      exact k1 (by first | assumption | decide | exact xs_ (by decide) | exact xc_ (by decide) | exact x31_ (by decide) | omega)
theorem lt_neg {a b z : Int} (ha : a = -1) (hb : 0 ≤ b ∧ b ≤ 10000) (hz : 0 ≤ z) : ¬ z < wr (a - b) := by
  rw [wr_id ⟨by omega, by omega⟩]
  omega
theorem y_comesFrom {eb : Bool} {t : Int} {V : Mm} {d : Nat} {P : Option Vl → Mm → Prop} {σ : Mm} {l f z w : Int} (b_l : 0 ≤ l ∧ l ≤ 7) (b_f : 0 ≤ f ∧ f ≤ 121) (b_z : -2147483648 ≤ z ∧ z ≤ 120) (b_w : 0 ≤ w ∧ w ≤ 6) {σ0 : Mm} (ht : 6 ≤ t ∧ t ≤ 7) (hR : RS t σ0 V σ) (hl : l ≤ t) (hL : LK V l) (hw : w < numF (V 7 l 2))  (k : ∀ ρ : Mm, RS t σ0 V ρ → P (some (vI (cm (V 16 0) (V 15 0) (V 7 l 2) (fun j => V 9 l (f + j)) (z + 1 - f).toNat w))) ρ) : WT (true, eb, true) (d + 5) 213 [vR 30 0, vI l, vI f, vI z, vI w] σ P := by
  refine WT_in fun K hK => ?_
  have hK : StpY (true, eb, true) cX6_comesFrom RX6 (some .int) (WT (true, eb, true) (d + 4)) P K := hK
  have hM := hK.1
  have hC := hK.1.1
  show K 0 [some (vR 30 0), some (vI l), some (vI f), some (vI z), some (vI w)] [] σ
  have hop := hL.1
  have h6 := hL.2.1
  have hBd_ : Bd (fun j => V 9 l (f + j)) (0 + (z + 1 - f).toNat) := fun j a b => hL.2.2.1 (f + j) (by first | assumption | decide | exact xs_ (by decide) | exact xc_ (by decide) | exact x31_ (by decide) | omega) (by first | assumption | decide | exact xs_ (by decide) | exact xc_ (by decide) | exact x31_ (by decide) | omega)
  refine r_aload_n hC dX6_comesFrom_0 rfl ?_
  refine z_inv0 hM dX6_comesFrom_1 vl_RX6_113 rfl rfl rfl (Nat.le_of_ble_eq_true rfl) (Nat.le_of_ble_eq_true rfl) ?_
  refine y_clearRow ?_
  obtain ⟨ρ1, e_ρ1⟩ : ∃ zz_, zz_ = mu σ 30 0 8 0 := ⟨_, rfl⟩
  rw [← e_ρ1]
  have n_ρ1 : ∀ u : Int → Int, RWP ρ1 u 0 := fun u => RWP.nil (by rw [e_ρ1]; exact mu_self _ _ _ _ _)
  have Rρ1 : RS t σ0 V ρ1 := RS.mk2 hR.1 hR.2.1 hR.2.2 (fun c p q h => by rw [e_ρ1]; exact mu_ne (by first | assumption | decide | exact xs_ (by decide) | exact xc_ (by decide) | exact x31_ (by decide) | omega))
  clear e_ρ1
  refine r_aload_n hC dX6_comesFrom_4 rfl ?_
  refine r_iload_n hC dX6_comesFrom_5 rfl ?_
  refine r_iload_n hC dX6_comesFrom_6 rfl ?_
  refine r_iload_n hC dX6_comesFrom_7 rfl ?_
  refine z_inv3 hM dX6_comesFrom_8 vl_RX6_120 rfl rfl rfl (Nat.le_of_ble_eq_true rfl) (Nat.le_of_ble_eq_true rfl) ?_
  refine y_putFrom (n := 0) (u := (fun j => V 9 l (f + j))) (by first | assumption | decide | exact xs_ (by decide) | exact xc_ (by decide) | exact x31_ (by decide) | omega) (by first | assumption | decide | exact xs_ (by decide) | exact xc_ (by decide) | exact x31_ (by decide) | omega) (by first | assumption | decide | exact xs_ (by decide) | exact xc_ (by decide) | exact x31_ (by decide) | omega) (by first | assumption | decide | exact xs_ (by decide) | exact xc_ (by decide) | exact x31_ (by decide) | omega) (by first | assumption | decide | exact xs_ (by decide) | exact xc_ (by decide) | exact x31_ (by decide) | omega) (n_ρ1 (fun j => V 9 l (f + j))) (fun j a b => by show V 9 l (f + (((0 : Nat) : Int) + (j - f))) = _; rw [show f + (((0 : Nat) : Int) + (j - f)) = j from by omega]; exact (Rρ1.1.a9 (y := j) (by first | assumption | decide | exact xs_ (by decide) | exact xc_ (by decide) | exact x31_ (by decide) | omega) (by first | assumption | decide | exact xs_ (by decide) | exact xc_ (by decide) | exact x31_ (by decide) | omega) (by first | assumption | decide | exact xs_ (by decide) | exact xc_ (by decide) | exact x31_ (by decide) | omega) (by first | assumption | decide | exact xs_ (by decide) | exact xc_ (by decide) | exact x31_ (by decide) | omega)).symm) (fun ρ2 g_ρ2 w_ρ2 => ?_)
  have Rρ2 : RS t σ0 V ρ2 := RS.mk2 Rρ1.1 Rρ1.2.1 Rρ1.2.2 (fun c p q h => g_ρ2 c p q (by first | assumption | decide | exact xs_ (by decide) | exact xc_ (by decide) | exact x31_ (by decide) | omega))
  clear Rρ1
  refine r_aload_n hC dX6_comesFrom_11 rfl ?_
  refine r_aload_n hC dX6_comesFrom_12 rfl ?_
  refine r_iload_n hC dX6_comesFrom_13 rfl ?_
  refine r_iconst hC dX6_comesFrom_14 rfl ?_
  refine z_inv2 hM dX6_comesFrom_15 vl_RX6_80 rfl rfl rfl (Nat.le_of_ble_eq_true rfl) (Nat.le_of_ble_eq_true rfl) ?_
  refine y_of (by first | assumption | decide | exact xs_ (by decide) | exact xc_ (by decide) | exact x31_ (by decide) | omega) (by first | assumption | decide | exact xs_ (by decide) | exact xc_ (by decide) | exact x31_ (by decide) | omega) (by first | assumption | decide | exact xs_ (by decide) | exact xc_ (by decide) | exact x31_ (by decide) | omega) (fun o3 => ?_)
  have e4 : ρ2 31 0 (22 * l + 1) = (V 7 l 2) := (Rρ2.1.a7 (s := 2) (f := 1) (by first | assumption | decide | exact xs_ (by decide) | exact xc_ (by decide) | exact x31_ (by decide) | omega) (by first | assumption | decide | exact xs_ (by decide) | exact xc_ (by decide) | exact x31_ (by decide) | omega) (by first | assumption | decide | exact xs_ (by decide) | exact xc_ (by decide) | exact x31_ (by decide) | omega)).trans (rfl)
  rw [e4] at o3 ⊢
  refine r_iload hC dX6_comesFrom_18 rfl ?_
  refine z_inv2 hM dX6_comesFrom_20 vl_RX6_197 rfl rfl rfl (Nat.le_of_ble_eq_true rfl) (Nat.le_of_ble_eq_true rfl) ?_
  refine y_comes (n := (0 + (z + 1 - f).toNat)) (u := (fun j => V 9 l (f + j))) (by first | assumption | decide | exact xs_ (by decide) | exact xc_ (by decide) | exact x31_ (by decide) | omega) (by first | assumption | decide | exact xs_ (by decide) | exact xc_ (by decide) | exact x31_ (by decide) | omega) (by first | assumption | decide | exact xs_ (by decide) | exact xc_ (by decide) | exact x31_ (by decide) | omega) (by first | assumption | decide | exact xs_ (by decide) | exact xc_ (by decide) | exact x31_ (by decide) | omega) w_ρ2 hBd_ (fun ρ5 g_ρ5 => ?_)
  rw [cm_t (fun j a b => Rρ2.1.t16 a b) (fun j a b => Rρ2.1.t15 a b) (fun j a b => by rw [Rρ2.1.t15 a (by first | assumption | decide | exact xs_ (by decide) | exact xc_ (by decide) | exact x31_ (by decide) | omega)]; exact hL.2.2.2.1 j a b)]
  have Rρ5 : RS t σ0 V ρ5 := RS.mk2 Rρ2.1 Rρ2.2.1 Rρ2.2.2 (fun c p q h => g_ρ5 c p q (by first | assumption | decide | exact xs_ (by decide) | exact xc_ (by decide) | exact x31_ (by decide) | omega))
  clear Rρ2
  refine y_iret hK rfl dX6_comesFrom_23 ?_
  have hv : (cm (V 16 0) (V 15 0) (V 7 l 2) (fun j => V 9 l (f + j)) (z + 1 - f).toNat w) = (cm (V 16 0) (V 15 0) (V 7 l 2) (fun j => V 9 l (f + j)) (0 + (z + 1 - f).toNat) w) := by rw [Nat.zero_add]
  rw [hv] at k
  exact k _ ⟨Rρ5.1, Rρ5.2.1, Rρ5.2.2⟩
theorem y_give {eb : Bool} {t : Int} {V : Mm} {d : Nat} {P : Option Vl → Mm → Prop} {σ : Mm} {l z : Int} (b_l : 0 ≤ l ∧ l ≤ 3) (b_z : -2147483648 ≤ z ∧ z ≤ 2147483647) {σ0 : Mm} (ht : 6 ≤ t ∧ t ≤ 7) (hR : RS t σ0 V σ) (hCI : CI V) (hJ : GJ V)  (k : ∀ ρ : Mm, RS t σ0 (gvM V l z) ρ → P none ρ) : WT (true, eb, true) (d + 10) 204 [vR 30 0, vI l, vI z] σ P := by
  refine WT_in fun K hK => ?_
  have hK : StpY (true, eb, true) cX6_give RX6 (none) (WT (true, eb, true) (d + 9)) P K := hK
  have hM := hK.1
  have hC := hK.1.1
  show K 0 [some (vR 30 0), some (vI l), some (vI z), none, none, none, none, none] [] σ
  have h6 := hCI.h7 (l := l) (by first | assumption | decide | exact xs_ (by decide) | exact xc_ (by decide) | exact x31_ (by decide) | omega) (by first | assumption | decide | exact xs_ (by decide) | exact xc_ (by decide) | exact x31_ (by decide) | omega)
  have hLl := hJ.lk hCI (l := l) (by first | assumption | decide | exact xs_ (by decide) | exact xc_ (by decide) | exact x31_ (by decide) | omega) (by first | assumption | decide | exact xs_ (by decide) | exact xc_ (by decide) | exact x31_ (by decide) | omega)
  have hlk := hJ.2.2.2.2.2.1 l (by first | assumption | decide | exact xs_ (by decide) | exact xc_ (by decide) | exact x31_ (by decide) | omega) (by first | assumption | decide | exact xs_ (by decide) | exact xc_ (by decide) | exact x31_ (by decide) | omega)
  unfold opV at hlk
  have hlk2 : ¬ V 13 l 0 = -1 → 0 ≤ V 13 l 2 ∧ V 13 l 2 < numF (V 7 l 2) := fun q => by rcases hlk with z | z; exact absurd z q; exact z.2.2.2.2
  refine r_aload_n hC dX6_give_0 rfl ?_
  refine z_getR hM dX6_give_1 fl_RX6_52 rfl rfl (vld_of (n := 1) rfl (by first | assumption | decide | exact xs_ (by decide) | exact xc_ (by decide) | exact x31_ (by decide) | omega) (by first | assumption | decide | exact xs_ (by decide) | exact xc_ (by decide) | exact x31_ (by decide) | omega)) ?_
  refine r_iload_n hC dX6_give_4 rfl ?_
  refine z_iald hM dX6_give_5 rfl (by first | assumption | decide | exact xs_ (by decide) | exact xc_ (by decide) | exact x31_ (by decide) | omega) (by first | assumption | decide | exact xs_ (by decide) | exact xc_ (by decide) | exact x31_ (by decide) | omega) (fun v1 h_v1 o_v1 t_v1 => ?_)
  have w_v1 := ((t_v1 (Or.inl (by first | exact trivial | exact tb7_ (by decide) | simp [Tb]))).trans ((hR.1.k0 (by first | assumption | decide | exact xs_ (by decide) | exact xc_ (by decide) | exact x31_ (by decide) | omega) (by first | assumption | decide | exact xs_ (by decide) | exact xc_ (by decide) | exact x31_ (by decide) | omega)).trans (rfl))).symm
  clear t_v1
  subst w_v1
  have q_v1 : -1 ≤ (V 13 l 0) ∧ (V 13 l 0) ≤ 3 := o_v1
  refine r_if_lt (tgt := 17) hC dX6_give_6 rfl (fun h2 => ?_) (fun h2 => ?_)
  · refine y_vret hK rfl dX6_give_17 ?_
    have hm : gvM V l z = V := if_neg (fun q => by have q1 := q.1; have q2 := q.2.1; have q3 := q.2.2.1; have q4 := q.2.2.2.1; have q5 := q.2.2.2.2.1; have q6 := q.2.2.2.2.2; unfold fuV at *; unfold ltV at *; omega)
    rw [hm] at k
    exact k _ ⟨hR.1, hR.2.1, hR.2.2⟩
  · refine r_aload_n hC dX6_give_9 rfl ?_
    refine r_iload_n hC dX6_give_10 rfl ?_
    refine z_inv1 hM dX6_give_11 vl_RX6_116 rfl rfl rfl (Nat.le_of_ble_eq_true rfl) (Nat.le_of_ble_eq_true rfl) ?_
    refine y_heldOf (by first | assumption | decide | exact xs_ (by decide) | exact xc_ (by decide) | exact x31_ (by decide) | omega) (fun o3 => ?_)
    have e4 : σ 31 0 (22 * l + 5) = (V 7 l 6) := (hR.1.a7 (s := 6) (f := 5) (by first | assumption | decide | exact xs_ (by decide) | exact xc_ (by decide) | exact x31_ (by decide) | omega) (by first | assumption | decide | exact xs_ (by decide) | exact xc_ (by decide) | exact x31_ (by decide) | omega) (by first | assumption | decide | exact xs_ (by decide) | exact xc_ (by decide) | exact x31_ (by decide) | omega)).trans (rfl)
    rw [e4] at o3 ⊢
    have qo3 : 0 ≤ (V 7 l 6) ∧ (V 7 l 6) ≤ 121 := o3.1 (by first | assumption | decide | exact xs_ (by decide) | exact xc_ (by decide) | exact x31_ (by decide) | omega)
    refine r_if_ne (tgt := 18) hC dX6_give_14 rfl (fun h5 => ?_) (fun h5 => ?_)
    · refine r_aload_n hC dX6_give_18 rfl ?_
      refine r_iload_n hC dX6_give_19 rfl ?_
      refine z_inv1 hM dX6_give_20 vl_RX6_116 rfl rfl rfl (Nat.le_of_ble_eq_true rfl) (Nat.le_of_ble_eq_true rfl) ?_
      refine y_heldOf (by first | assumption | decide | exact xs_ (by decide) | exact xc_ (by decide) | exact x31_ (by decide) | omega) (fun o6 => ?_)
      have e7 : σ 31 0 (22 * l + 5) = (V 7 l 6) := (hR.1.a7 (s := 6) (f := 5) (by first | assumption | decide | exact xs_ (by decide) | exact xc_ (by decide) | exact x31_ (by decide) | omega) (by first | assumption | decide | exact xs_ (by decide) | exact xc_ (by decide) | exact x31_ (by decide) | omega) (by first | assumption | decide | exact xs_ (by decide) | exact xc_ (by decide) | exact x31_ (by decide) | omega)).trans (rfl)
      rw [e7] at o6 ⊢
      have qo6 : 0 ≤ (V 7 l 6) ∧ (V 7 l 6) ≤ 121 := o6.1 (by first | assumption | decide | exact xs_ (by decide) | exact xc_ (by decide) | exact x31_ (by decide) | omega)
      refine r_iconst hC dX6_give_23 rfl ?_
      refine r_isubE hC (((V 7 l 6) - 1)) dX6_give_24 (by first | assumption | decide | exact xs_ (by decide) | exact xc_ (by decide) | exact x31_ (by decide) | omega) (by unfold inR; omega) ?_
      refine r_istore_n hC dX6_give_25 rfl ?_
      refine r_aload_n hC dX6_give_26 rfl ?_
      refine z_getR hM dX6_give_27 fl_RX6_13 rfl rfl (vld_of (n := 1) rfl (by first | assumption | decide | exact xs_ (by decide) | exact xc_ (by decide) | exact x31_ (by decide) | omega) (by first | assumption | decide | exact xs_ (by decide) | exact xc_ (by decide) | exact x31_ (by decide) | omega)) ?_
      refine r_bipush hC dX6_give_30 rfl ?_
      refine r_iload_n hC dX6_give_32 rfl ?_
      refine r_imulE hC ((121 * l)) dX6_give_33 (by first | assumption | decide | exact xs_ (by decide) | exact xc_ (by decide) | exact x31_ (by decide) | omega) (by unfold inR; omega) ?_
      refine r_iload_n hC dX6_give_34 rfl ?_
      refine r_iaddE hC (((121 * l) + ((V 7 l 6) - 1))) dX6_give_35 (by first | assumption | decide | exact xs_ (by decide) | exact xc_ (by decide) | exact x31_ (by decide) | omega) (by unfold inR; omega) ?_
      refine z_iald hM dX6_give_36 rfl (by first | assumption | decide | exact xs_ (by decide) | exact xc_ (by decide) | exact x31_ (by decide) | omega) (by first | assumption | decide | exact xs_ (by decide) | exact xc_ (by decide) | exact x31_ (by decide) | omega) (fun v8 h_v8 o_v8 t_v8 => ?_)
      have w_v8 := ((t_v8 (Or.inl trivial)).trans ((show σ 32 0 ((121 * l) + ((V 7 l 6) - 1)) = V 8 l ((V 7 l 6) - 1) from by rw [show ((121 * l) + ((V 7 l 6) - 1)) = 121 * l + ((V 7 l 6) - 1) from by omega]; exact hR.1.a8 (y := ((V 7 l 6) - 1)) (by first | assumption | decide | exact xs_ (by decide) | exact xc_ (by decide) | exact x31_ (by decide) | omega) (by first | assumption | decide | exact xs_ (by decide) | exact xc_ (by decide) | exact x31_ (by decide) | omega) (by first | assumption | decide | exact xs_ (by decide) | exact xc_ (by decide) | exact x31_ (by decide) | omega) (by first | assumption | decide | exact xs_ (by decide) | exact xc_ (by decide) | exact x31_ (by decide) | omega)).trans (rfl))).symm
      clear t_v8
      subst w_v8
      have hwhen := (hJ.2.2.1 l (V 7 l 6 - 1) (by first | assumption | decide | exact xs_ (by decide) | exact xc_ (by decide) | exact x31_ (by decide) | omega) (by first | assumption | decide | exact xs_ (by decide) | exact xc_ (by decide) | exact x31_ (by decide) | omega) (by first | assumption | decide | exact xs_ (by decide) | exact xc_ (by decide) | exact x31_ (by decide) | omega) (by first | assumption | decide | exact xs_ (by decide) | exact xc_ (by decide) | exact x31_ (by decide) | omega)).1
      have hbo := hJ.2.1 (V 13 l 0) (by first | assumption | decide | exact xs_ (by decide) | exact xc_ (by decide) | exact x31_ (by decide) | omega) (by first | assumption | decide | exact xs_ (by decide) | exact xc_ (by decide) | exact x31_ (by decide) | omega)
      have hnl : V 7 (V 13 l 0) 10 = -1 → ¬ V 8 l (V 7 l 6 - 1) < wr (V 7 (V 13 l 0) 10 - V 7 (V 13 l 0) 5) := fun q => lt_neg q (by first | assumption | decide | exact xs_ (by decide) | exact xc_ (by decide) | exact x31_ (by decide) | omega) (by first | assumption | decide | exact xs_ (by decide) | exact xc_ (by decide) | exact x31_ (by decide) | omega)
      refine r_istore hC dX6_give_37 rfl ?_
      refine r_iload_n hC dX6_give_39 rfl ?_
      refine r_iload hC dX6_give_40 rfl ?_
      refine r_isub hC dX6_give_42 ?_
      have f9 := inR_le (inR_wr (z - (V 8 l ((V 7 l 6) - 1))))
      refine r_aload_n hC dX6_give_43 rfl ?_
      refine z_getR hM dX6_give_44 fl_RX6_55 rfl rfl (vld_of (n := 1) rfl (by first | assumption | decide | exact xs_ (by decide) | exact xc_ (by decide) | exact x31_ (by decide) | omega) (by first | assumption | decide | exact xs_ (by decide) | exact xc_ (by decide) | exact x31_ (by decide) | omega)) ?_
      refine r_iload_n hC dX6_give_47 rfl ?_
      refine z_iald hM dX6_give_48 rfl (by first | assumption | decide | exact xs_ (by decide) | exact xc_ (by decide) | exact x31_ (by decide) | omega) (by first | assumption | decide | exact xs_ (by decide) | exact xc_ (by decide) | exact x31_ (by decide) | omega) (fun v10 h_v10 o_v10 t_v10 => ?_)
      have w_v10 := ((t_v10 (Or.inl (by first | exact trivial | exact tb7_ (by decide) | simp [Tb]))).trans ((hR.1.k1 (by first | assumption | decide | exact xs_ (by decide) | exact xc_ (by decide) | exact x31_ (by decide) | omega) (by first | assumption | decide | exact xs_ (by decide) | exact xc_ (by decide) | exact x31_ (by decide) | omega)).trans (rfl))).symm
      clear t_v10
      subst w_v10
      refine r_icmp_gt (tgt := 53) hC dX6_give_49 rfl (fun h11 => ?_) (fun h11 => ?_)
      · refine r_iload_n hC dX6_give_53 rfl ?_
        refine r_istore hC dX6_give_54 rfl ?_
        have L56 : ∀ (n56 : Nat) (w12 : Int), 0 ≤ w12 ∧ w12 ≤ 120 → (ses (V 8 l) (V 13 l 1) ((w12)).toNat = ses (V 8 l) (V 13 l 1) (V 7 l 6 - 1).toNat) → w12 - 0 < (n56 : Int) → K 56 [some (vR 30 0), some (vI l), some (vI z), some (vI ((V 7 l 6) - 1)), some (vI (V 8 l ((V 7 l 6) - 1))), some (vI w12), none, none] [] σ := by
          intro n56
          induction n56 with
          | zero => intro w12  f_w12 i0_56 hm  ; omega
          | succ n56 ih56 =>
            intro w12  f_w12 i0_56 hm56  
            refine r_iload hC dX6_give_56 rfl ?_
            refine r_if_le (tgt := 103) hC dX6_give_58 rfl (fun h13 => ?_) (fun h13 => ?_)
            · have hs_ : ses (V 8 l) (V 13 l 1) (V 7 l 6 - 1).toNat = w12 := by rw [← i0_56]; first | exact ses_0 (by first | assumption | decide | exact xs_ (by decide) | exact xc_ (by decide) | exact x31_ (by decide) | omega) | exact ses_yes (by first | assumption | decide | exact xs_ (by decide) | exact xc_ (by decide) | exact x31_ (by decide) | omega) (by first | assumption | decide | exact xs_ (by decide) | exact xc_ (by decide) | exact x31_ (by decide) | omega)
              refine r_aload_n hC dX6_give_103 rfl ?_
              refine r_iload_n hC dX6_give_104 rfl ?_
              refine r_iload hC dX6_give_105 rfl ?_
              refine r_iload_n hC dX6_give_107 rfl ?_
              refine r_aload_n hC dX6_give_108 rfl ?_
              refine z_getR hM dX6_give_109 fl_RX6_58 rfl rfl (vld_of (n := 1) rfl (by first | assumption | decide | exact xs_ (by decide) | exact xc_ (by decide) | exact x31_ (by decide) | omega) (by first | assumption | decide | exact xs_ (by decide) | exact xc_ (by decide) | exact x31_ (by decide) | omega)) ?_
              refine r_iload_n hC dX6_give_112 rfl ?_
              refine z_iald hM dX6_give_113 rfl (by first | assumption | decide | exact xs_ (by decide) | exact xc_ (by decide) | exact x31_ (by decide) | omega) (by first | assumption | decide | exact xs_ (by decide) | exact xc_ (by decide) | exact x31_ (by decide) | omega) (fun v14 h_v14 o_v14 t_v14 => ?_)
              have w_v14 := ((t_v14 (Or.inl (by first | exact trivial | exact tb7_ (by decide) | simp [Tb]))).trans ((hR.1.k2 (by first | assumption | decide | exact xs_ (by decide) | exact xc_ (by decide) | exact x31_ (by decide) | omega) (by first | assumption | decide | exact xs_ (by decide) | exact xc_ (by decide) | exact x31_ (by decide) | omega)).trans (rfl))).symm
              clear t_v14
              subst w_v14
              have q_v14 : 0 ≤ (V 13 l 2) ∧ (V 13 l 2) ≤ 6 := o_v14
              refine z_inv4 hM dX6_give_114 vl_RX6_243 rfl rfl rfl (Nat.le_of_ble_eq_true rfl) (Nat.le_of_ble_eq_true rfl) ?_
              have hw_ := hlk2 (by first | assumption | decide | exact xs_ (by decide) | exact xc_ (by decide) | exact x31_ (by decide) | omega)
              have hwN := numF_rng (V 7 l 2)
              refine y_comesFrom (V := V) (by first | assumption | decide | exact xs_ (by decide) | exact xc_ (by decide) | exact x31_ (by decide) | omega) (by first | assumption | decide | exact xs_ (by decide) | exact xc_ (by decide) | exact x31_ (by decide) | omega) (by first | assumption | decide | exact xs_ (by decide) | exact xc_ (by decide) | exact x31_ (by decide) | omega) (by first | assumption | decide | exact xs_ (by decide) | exact xc_ (by decide) | exact x31_ (by decide) | omega) ht ⟨hR.1, hR.2.1, hR.2.2⟩ (by first | assumption | decide | exact xs_ (by decide) | exact xc_ (by decide) | exact x31_ (by decide) | omega) hLl (by first | assumption | decide | exact xs_ (by decide) | exact xc_ (by decide) | exact x31_ (by decide) | omega) (fun ρ15 Rρ15 => ?_)
              refine r_istore hC dX6_give_117 rfl ?_
              refine r_iload hC dX6_give_119 rfl ?_
              refine r_ldc hC dX6_give_121 co_RX6_160 rfl ?_
              refine r_icmp_ne (tgt := 127) hC dX6_give_123 rfl (fun h16 => ?_) (fun h16 => ?_)
              · refine r_aload_n hC dX6_give_127 rfl ?_
                refine z_getR hM dX6_give_128 fl_RX6_52 rfl rfl (vld_of (n := 1) rfl (by first | assumption | decide | exact xs_ (by decide) | exact xc_ (by decide) | exact x31_ (by decide) | omega) (by first | assumption | decide | exact xs_ (by decide) | exact xc_ (by decide) | exact x31_ (by decide) | omega)) ?_
                refine r_iload_n hC dX6_give_131 rfl ?_
                refine z_iald hM dX6_give_132 rfl (by first | assumption | decide | exact xs_ (by decide) | exact xc_ (by decide) | exact x31_ (by decide) | omega) (by first | assumption | decide | exact xs_ (by decide) | exact xc_ (by decide) | exact x31_ (by decide) | omega) (fun v17 h_v17 o_v17 t_v17 => ?_)
                have w_v17 := ((t_v17 (Or.inl (by first | exact trivial | exact tb7_ (by decide) | simp [Tb]))).trans ((Rρ15.1.k0 (by first | assumption | decide | exact xs_ (by decide) | exact xc_ (by decide) | exact x31_ (by decide) | omega) (by first | assumption | decide | exact xs_ (by decide) | exact xc_ (by decide) | exact x31_ (by decide) | omega)).trans (rfl))).symm
                clear t_v17
                subst w_v17
                have q_v17 : -1 ≤ (V 13 l 0) ∧ (V 13 l 0) ≤ 3 := o_v17
                refine r_istore hC dX6_give_133 rfl ?_
                refine r_aload_n hC dX6_give_135 rfl ?_
                refine r_iload hC dX6_give_136 rfl ?_
                refine r_iload hC dX6_give_138 rfl ?_
                refine z_inv2 hM dX6_give_140 vl_RX6_247 rfl rfl rfl (Nat.le_of_ble_eq_true rfl) (Nat.le_of_ble_eq_true rfl) ?_
                refine y_isLost (V := V) (by first | assumption | decide | exact xs_ (by decide) | exact xc_ (by decide) | exact x31_ (by decide) | omega) ht ⟨Rρ15.1, Rρ15.2.1, Rρ15.2.2⟩ (by first | assumption | decide | exact xs_ (by decide) | exact xc_ (by decide) | exact x31_ (by decide) | omega) (fun h18 => ?_) (fun h18 => ?_)
                · refine r_if_eq (tgt := 156) hC dX6_give_143 rfl (fun h19 => by omega) (fun h19 => ?_)
                  refine r_aload_n hC dX6_give_146 rfl ?_
                  refine r_iload hC dX6_give_147 rfl ?_
                  refine r_bipush hC dX6_give_149 rfl ?_
                  refine r_iconst hC dX6_give_151 rfl ?_
                  refine z_inv3 hM dX6_give_152 vl_RX6_188 rfl rfl rfl (Nat.le_of_ble_eq_true rfl) (Nat.le_of_ble_eq_true rfl) ?_
                  refine y_moreG (by first | assumption | decide | exact xs_ (by decide) | exact xc_ (by decide) | exact x31_ (by decide) | omega) ?_
                  refine y_vret hK rfl dX6_give_155 ?_
                  have hm : gvM V l z = V := if_neg (fun q => by have q1 := q.1; have q2 := q.2.1; have q3 := q.2.2.1; have q4 := q.2.2.2.1; have q5 := q.2.2.2.2.1; have q6 := q.2.2.2.2.2; unfold gvN at q5; rw [hs_, show (V 7 l 6 - w12).toNat = (V 7 l 6 - 1 + 1 - w12).toNat from by omega] at q5; unfold NO at q5; unfold fuV at *; unfold ltV at *; omega)
                  rw [hm] at k
                  exact k _ ⟨Rρ15.1, Rρ15.2.1, Rρ15.2.2⟩
                · refine r_if_eq (tgt := 156) hC dX6_give_143 rfl (fun h20 => ?_) (fun h20 => by omega)
                  refine r_aload_n hC dX6_give_156 rfl ?_
                  refine r_iload hC dX6_give_157 rfl ?_
                  refine z_inv1 hM dX6_give_159 vl_RX6_250 rfl rfl rfl (Nat.le_of_ble_eq_true rfl) (Nat.le_of_ble_eq_true rfl) ?_
                  refine y_isFull (V := V) (by first | assumption | decide | exact xs_ (by decide) | exact xc_ (by decide) | exact x31_ (by decide) | omega) ht ⟨Rρ15.1, Rρ15.2.1, Rρ15.2.2⟩ (by first | assumption | decide | exact xs_ (by decide) | exact xc_ (by decide) | exact x31_ (by decide) | omega) (fun h21 => ?_) (fun h21 => ?_)
                  · refine r_if_eq (tgt := 166) hC dX6_give_162 rfl (fun h22 => by omega) (fun h22 => ?_)
                    refine y_vret hK rfl dX6_give_165 ?_
                    have hm : gvM V l z = V := if_neg (fun q => by have q1 := q.1; have q2 := q.2.1; have q3 := q.2.2.1; have q4 := q.2.2.2.1; have q5 := q.2.2.2.2.1; have q6 := q.2.2.2.2.2; unfold gvN at q5; rw [hs_, show (V 7 l 6 - w12).toNat = (V 7 l 6 - 1 + 1 - w12).toNat from by omega] at q5; unfold NO at q5; unfold fuV at *; unfold ltV at *; omega)
                    rw [hm] at k
                    exact k _ ⟨Rρ15.1, Rρ15.2.1, Rρ15.2.2⟩
                  · refine r_if_eq (tgt := 166) hC dX6_give_162 rfl (fun h23 => ?_) (fun h23 => by omega)
                    refine r_aload_n hC dX6_give_166 rfl ?_
                    refine z_getR hM dX6_give_167 fl_RX6_61 rfl rfl (vld_of (n := 1) rfl (by first | assumption | decide | exact xs_ (by decide) | exact xc_ (by decide) | exact x31_ (by decide) | omega) (by first | assumption | decide | exact xs_ (by decide) | exact xc_ (by decide) | exact x31_ (by decide) | omega)) ?_
                    refine r_iload_n hC dX6_give_170 rfl ?_
                    refine r_dup2 hC dX6_give_171 rfl rfl ?_
                    refine z_iald hM dX6_give_172 rfl (by first | assumption | decide | exact xs_ (by decide) | exact xc_ (by decide) | exact x31_ (by decide) | omega) (by first | assumption | decide | exact xs_ (by decide) | exact xc_ (by decide) | exact x31_ (by decide) | omega) (fun v24 h_v24 o_v24 t_v24 => ?_)
                    have w_v24 := ((t_v24 (Or.inl (by first | exact trivial | exact tb7_ (by decide) | simp [Tb]))).trans ((Rρ15.1.k3 (by first | assumption | decide | exact xs_ (by decide) | exact xc_ (by decide) | exact x31_ (by decide) | omega) (by first | assumption | decide | exact xs_ (by decide) | exact xc_ (by decide) | exact x31_ (by decide) | omega)).trans (rfl))).symm
                    clear t_v24
                    subst w_v24
                    refine r_iconst hC dX6_give_173 rfl ?_
                    refine r_iadd hC dX6_give_174 ?_
                    have f25 := inR_le (inR_wr ((V 13 l 3) + 1))
                    refine z_iastT hM dX6_give_175 rfl (by first | assumption | decide | exact xs_ (by decide) | exact xc_ (by decide) | exact x31_ (by decide) | omega) (by first | assumption | decide | exact xs_ (by decide) | exact xc_ (by decide) | exact x31_ (by decide) | omega) ⟨Or.inr (by first | exact id | exact dl7_ (by decide) | simp [DL]), Or.inr (by first | exact id | exact df14_ (by decide) | simp [DF])⟩ (by first | trivial | (simp only [Okv]; omega) | (simp [Okv]; try omega)) ?_
                    obtain ⟨ρ26, e_ρ26⟩ : ∃ zz_, zz_ = mu ρ15 48 0 l (wr ((V 13 l 3) + 1)) := ⟨_, rfl⟩
                    rw [← e_ρ26]
                    have Sρ26 : SB t σ0 (mu V 13 l 3 (wr ((V 13 l 3) + 1))) ρ26 := by rw [e_ρ26]; exact Rρ15.1.pk3 (by first | assumption | decide | exact xs_ (by decide) | exact xc_ (by decide) | exact x31_ (by decide) | omega) (by first | assumption | decide | exact xs_ (by decide) | exact xc_ (by decide) | exact x31_ (by decide) | omega)
                    have Kρ26 : KF t (mu V 13 l 3 (wr ((V 13 l 3) + 1))) ρ26 := by rw [e_ρ26]; exact (Rρ15.2.1).e (fun l a b => ⟨mu_ne (by first | assumption | decide | exact xs_ (by decide) | exact xc_ (by decide) | exact x31_ (by decide) | omega), mu_ne (by first | assumption | decide | exact xs_ (by decide) | exact xc_ (by decide) | exact x31_ (by decide) | omega)⟩) |>.v (fun l => mu_ne (by first | assumption | decide | exact xs_ (by decide) | exact xc_ (by decide) | exact x31_ (by decide) | omega))
                    have Fρ26 : FB (mu V 13 l 3 (wr ((V 13 l 3) + 1))) ρ26 := by rw [e_ρ26]; exact (Rρ15.2.2).e (fun l a b => mu_ne (by first | assumption | decide | exact xs_ (by decide) | exact xc_ (by decide) | exact x31_ (by decide) | omega)) |>.v (fun l y a b c => mu_ne (by first | assumption | decide | exact xs_ (by decide) | exact xc_ (by decide) | exact x31_ (by decide) | omega))
                    clear e_ρ26
                    refine r_aload_n hC dX6_give_176 rfl ?_
                    refine r_iload hC dX6_give_177 rfl ?_
                    refine r_iload hC dX6_give_179 rfl ?_
                    refine r_iload hC dX6_give_181 rfl ?_
                    refine r_sipush hC dX6_give_183 rfl ?_
                    refine r_icmp_ge (tgt := 195) hC dX6_give_186 rfl (fun h27 => ?_) (fun h27 => ?_)
                    · refine r_iload hC dX6_give_195 rfl ?_
                      refine r_sipush hC dX6_give_197 rfl ?_
                      refine r_icmp_le (tgt := 209) hC dX6_give_200 rfl (fun h28 => ?_) (fun h28 => ?_)
                      · refine r_iload hC dX6_give_209 rfl ?_
                        refine z_inv3 hM dX6_give_211 vl_RX6_253 rfl rfl rfl (Nat.le_of_ble_eq_true rfl) (Nat.le_of_ble_eq_true rfl) ?_
                        have hO6 := hCI.h7 (l := (V 13 l 0)) (by first | assumption | decide | exact xs_ (by decide) | exact xc_ (by decide) | exact x31_ (by decide) | omega) (by first | assumption | decide | exact xs_ (by decide) | exact xc_ (by decide) | exact x31_ (by decide) | omega)
                        have eO7 : ∀ y : Int, (mu V 13 l 3 (wr ((V 13 l 3) + 1))) 7 (V 13 l 0) y = V 7 (V 13 l 0) y := fun y => mu_ne (by first | assumption | decide | exact xs_ (by decide) | exact xc_ (by decide) | exact x31_ (by decide) | omega)
                        have eO11 : (mu V 13 l 3 (wr ((V 13 l 3) + 1))) 11 (V 13 l 0) = V 11 (V 13 l 0) := funext fun y => mu_ne (by first | assumption | decide | exact xs_ (by decide) | exact xc_ (by decide) | exact x31_ (by decide) | omega)
                        have eO8 : (mu V 13 l 3 (wr ((V 13 l 3) + 1))) 8 (V 13 l 0) = V 8 (V 13 l 0) := funext fun y => mu_ne (by first | assumption | decide | exact xs_ (by decide) | exact xc_ (by decide) | exact x31_ (by decide) | omega)
                        refine y_enter (V := (mu V 13 l 3 (wr ((V 13 l 3) + 1)))) (l := (V 13 l 0)) (z := (V 8 l ((V 7 l 6) - 1))) (v := (cm (V 16 0) (V 15 0) (V 7 l 2) (fun j => V 9 l (w12 + j)) (((V 7 l 6) - 1) + 1 - w12).toNat (V 13 l 2))) (by first | assumption | decide | exact xs_ (by decide) | exact xc_ (by decide) | exact x31_ (by decide) | omega) (by first | assumption | decide | exact xs_ (by decide) | exact xc_ (by decide) | exact x31_ (by decide) | omega) (by first | assumption | decide | exact xs_ (by decide) | exact xc_ (by decide) | exact x31_ (by decide) | omega) ht ⟨Sρ26, Kρ26, Fρ26⟩ (by first | assumption | decide | exact xs_ (by decide) | exact xc_ (by decide) | exact x31_ (by decide) | omega) ((hJ.lk hCI (l := (V 13 l 0)) (by first | assumption | decide | exact xs_ (by decide) | exact xc_ (by decide) | exact x31_ (by decide) | omega) (by first | assumption | decide | exact xs_ (by decide) | exact xc_ (by decide) | exact x31_ (by decide) | omega)).to (fun c2 x y h => mu_ne (by first | assumption | decide | exact xs_ (by decide) | exact xc_ (by decide) | exact x31_ (by decide) | omega))) (by rw [eO11, eO7]; exact hCI.2.1 (V 13 l 0) (by first | assumption | decide | exact xs_ (by decide) | exact xc_ (by decide) | exact x31_ (by decide) | omega) (by first | assumption | decide | exact xs_ (by decide) | exact xc_ (by decide) | exact x31_ (by decide) | omega)) (by rw [eO8, eO7]; exact hJ.1 (V 13 l 0) (by first | assumption | decide | exact xs_ (by decide) | exact xc_ (by decide) | exact x31_ (by decide) | omega) (by first | assumption | decide | exact xs_ (by decide) | exact xc_ (by decide) | exact x31_ (by decide) | omega)) (by rw [eO7]; omega) (by rw [eO7, eO7]; intro q; have := hCI.size (i := (V 13 l 0)) (by first | assumption | decide | exact xs_ (by decide) | exact xc_ (by decide) | exact x31_ (by decide) | omega) (by first | assumption | decide | exact xs_ (by decide) | exact xc_ (by decide) | exact x31_ (by decide) | omega) q; omega) (fun ρ29 Rρ29 => ?_)
                        refine y_vret hK rfl dX6_give_214 ?_
                        have hN : gvN V l = (cm (V 16 0) (V 15 0) (V 7 l 2) (fun j => V 9 l (w12 + j)) (((V 7 l 6) - 1) + 1 - w12).toNat (V 13 l 2)) := by unfold gvN; rw [hs_, show (V 7 l 6 - w12).toNat = (V 7 l 6 - 1 + 1 - w12).toNat from by omega]
                        have hm : gvM V l z = (plM (mu V 13 l 3 (wr ((V 13 l 3) + 1))) (V 13 l 0) (V 8 l ((V 7 l 6) - 1)) (cm (V 16 0) (V 15 0) (V 7 l 2) (fun j => V 9 l (w12 + j)) (((V 7 l 6) - 1) + 1 - w12).toNat (V 13 l 2))) := by
                          unfold gvM
                          rw [if_pos ⟨by omega, by omega, by omega, by unfold fuV; omega, by rw [hN]; unfold NO; omega, by unfold ltV; omega⟩, hN]
                          rw [show max (-1000) (min 1000 (cm (V 16 0) (V 15 0) (V 7 l 2) (fun j => V 9 l (w12 + j)) (((V 7 l 6) - 1) + 1 - w12).toNat (V 13 l 2))) = (cm (V 16 0) (V 15 0) (V 7 l 2) (fun j => V 9 l (w12 + j)) (((V 7 l 6) - 1) + 1 - w12).toNat (V 13 l 2)) from by omega]
                        rw [hm] at k
                        exact k _ ⟨Rρ29.1, Rρ29.2.1, Rρ29.2.2⟩
                      · refine r_sipush hC dX6_give_203 rfl ?_
                        refine r_goto (tgt := 211) hC dX6_give_206 rfl ?_
                        refine z_inv3 hM dX6_give_211 vl_RX6_253 rfl rfl rfl (Nat.le_of_ble_eq_true rfl) (Nat.le_of_ble_eq_true rfl) ?_
                        have hO6 := hCI.h7 (l := (V 13 l 0)) (by first | assumption | decide | exact xs_ (by decide) | exact xc_ (by decide) | exact x31_ (by decide) | omega) (by first | assumption | decide | exact xs_ (by decide) | exact xc_ (by decide) | exact x31_ (by decide) | omega)
                        have eO7 : ∀ y : Int, (mu V 13 l 3 (wr ((V 13 l 3) + 1))) 7 (V 13 l 0) y = V 7 (V 13 l 0) y := fun y => mu_ne (by first | assumption | decide | exact xs_ (by decide) | exact xc_ (by decide) | exact x31_ (by decide) | omega)
                        have eO11 : (mu V 13 l 3 (wr ((V 13 l 3) + 1))) 11 (V 13 l 0) = V 11 (V 13 l 0) := funext fun y => mu_ne (by first | assumption | decide | exact xs_ (by decide) | exact xc_ (by decide) | exact x31_ (by decide) | omega)
                        have eO8 : (mu V 13 l 3 (wr ((V 13 l 3) + 1))) 8 (V 13 l 0) = V 8 (V 13 l 0) := funext fun y => mu_ne (by first | assumption | decide | exact xs_ (by decide) | exact xc_ (by decide) | exact x31_ (by decide) | omega)
                        refine y_enter (V := (mu V 13 l 3 (wr ((V 13 l 3) + 1)))) (l := (V 13 l 0)) (z := (V 8 l ((V 7 l 6) - 1))) (v := 1000) (by first | assumption | decide | exact xs_ (by decide) | exact xc_ (by decide) | exact x31_ (by decide) | omega) (by first | assumption | decide | exact xs_ (by decide) | exact xc_ (by decide) | exact x31_ (by decide) | omega) (by first | assumption | decide | exact xs_ (by decide) | exact xc_ (by decide) | exact x31_ (by decide) | omega) ht ⟨Sρ26, Kρ26, Fρ26⟩ (by first | assumption | decide | exact xs_ (by decide) | exact xc_ (by decide) | exact x31_ (by decide) | omega) ((hJ.lk hCI (l := (V 13 l 0)) (by first | assumption | decide | exact xs_ (by decide) | exact xc_ (by decide) | exact x31_ (by decide) | omega) (by first | assumption | decide | exact xs_ (by decide) | exact xc_ (by decide) | exact x31_ (by decide) | omega)).to (fun c2 x y h => mu_ne (by first | assumption | decide | exact xs_ (by decide) | exact xc_ (by decide) | exact x31_ (by decide) | omega))) (by rw [eO11, eO7]; exact hCI.2.1 (V 13 l 0) (by first | assumption | decide | exact xs_ (by decide) | exact xc_ (by decide) | exact x31_ (by decide) | omega) (by first | assumption | decide | exact xs_ (by decide) | exact xc_ (by decide) | exact x31_ (by decide) | omega)) (by rw [eO8, eO7]; exact hJ.1 (V 13 l 0) (by first | assumption | decide | exact xs_ (by decide) | exact xc_ (by decide) | exact x31_ (by decide) | omega) (by first | assumption | decide | exact xs_ (by decide) | exact xc_ (by decide) | exact x31_ (by decide) | omega)) (by rw [eO7]; omega) (by rw [eO7, eO7]; intro q; have := hCI.size (i := (V 13 l 0)) (by first | assumption | decide | exact xs_ (by decide) | exact xc_ (by decide) | exact x31_ (by decide) | omega) (by first | assumption | decide | exact xs_ (by decide) | exact xc_ (by decide) | exact x31_ (by decide) | omega) q; omega) (fun ρ30 Rρ30 => ?_)
                        refine y_vret hK rfl dX6_give_214 ?_
                        have hN : gvN V l = (cm (V 16 0) (V 15 0) (V 7 l 2) (fun j => V 9 l (w12 + j)) (((V 7 l 6) - 1) + 1 - w12).toNat (V 13 l 2)) := by unfold gvN; rw [hs_, show (V 7 l 6 - w12).toNat = (V 7 l 6 - 1 + 1 - w12).toNat from by omega]
                        have hm : gvM V l z = (plM (mu V 13 l 3 (wr ((V 13 l 3) + 1))) (V 13 l 0) (V 8 l ((V 7 l 6) - 1)) 1000) := by
                          unfold gvM
                          rw [if_pos ⟨by omega, by omega, by omega, by unfold fuV; omega, by rw [hN]; unfold NO; omega, by unfold ltV; omega⟩, hN]
                          rw [show max (-1000) (min 1000 (cm (V 16 0) (V 15 0) (V 7 l 2) (fun j => V 9 l (w12 + j)) (((V 7 l 6) - 1) + 1 - w12).toNat (V 13 l 2))) = 1000 from by omega]
                        rw [hm] at k
                        exact k _ ⟨Rρ30.1, Rρ30.2.1, Rρ30.2.2⟩
                    · refine r_sipush hC dX6_give_189 rfl ?_
                      refine r_goto (tgt := 211) hC dX6_give_192 rfl ?_
                      refine z_inv3 hM dX6_give_211 vl_RX6_253 rfl rfl rfl (Nat.le_of_ble_eq_true rfl) (Nat.le_of_ble_eq_true rfl) ?_
                      have hO6 := hCI.h7 (l := (V 13 l 0)) (by first | assumption | decide | exact xs_ (by decide) | exact xc_ (by decide) | exact x31_ (by decide) | omega) (by first | assumption | decide | exact xs_ (by decide) | exact xc_ (by decide) | exact x31_ (by decide) | omega)
                      have eO7 : ∀ y : Int, (mu V 13 l 3 (wr ((V 13 l 3) + 1))) 7 (V 13 l 0) y = V 7 (V 13 l 0) y := fun y => mu_ne (by first | assumption | decide | exact xs_ (by decide) | exact xc_ (by decide) | exact x31_ (by decide) | omega)
                      have eO11 : (mu V 13 l 3 (wr ((V 13 l 3) + 1))) 11 (V 13 l 0) = V 11 (V 13 l 0) := funext fun y => mu_ne (by first | assumption | decide | exact xs_ (by decide) | exact xc_ (by decide) | exact x31_ (by decide) | omega)
                      have eO8 : (mu V 13 l 3 (wr ((V 13 l 3) + 1))) 8 (V 13 l 0) = V 8 (V 13 l 0) := funext fun y => mu_ne (by first | assumption | decide | exact xs_ (by decide) | exact xc_ (by decide) | exact x31_ (by decide) | omega)
                      refine y_enter (V := (mu V 13 l 3 (wr ((V 13 l 3) + 1)))) (l := (V 13 l 0)) (z := (V 8 l ((V 7 l 6) - 1))) (v := (-1000)) (by first | assumption | decide | exact xs_ (by decide) | exact xc_ (by decide) | exact x31_ (by decide) | omega) (by first | assumption | decide | exact xs_ (by decide) | exact xc_ (by decide) | exact x31_ (by decide) | omega) (by first | assumption | decide | exact xs_ (by decide) | exact xc_ (by decide) | exact x31_ (by decide) | omega) ht ⟨Sρ26, Kρ26, Fρ26⟩ (by first | assumption | decide | exact xs_ (by decide) | exact xc_ (by decide) | exact x31_ (by decide) | omega) ((hJ.lk hCI (l := (V 13 l 0)) (by first | assumption | decide | exact xs_ (by decide) | exact xc_ (by decide) | exact x31_ (by decide) | omega) (by first | assumption | decide | exact xs_ (by decide) | exact xc_ (by decide) | exact x31_ (by decide) | omega)).to (fun c2 x y h => mu_ne (by first | assumption | decide | exact xs_ (by decide) | exact xc_ (by decide) | exact x31_ (by decide) | omega))) (by rw [eO11, eO7]; exact hCI.2.1 (V 13 l 0) (by first | assumption | decide | exact xs_ (by decide) | exact xc_ (by decide) | exact x31_ (by decide) | omega) (by first | assumption | decide | exact xs_ (by decide) | exact xc_ (by decide) | exact x31_ (by decide) | omega)) (by rw [eO8, eO7]; exact hJ.1 (V 13 l 0) (by first | assumption | decide | exact xs_ (by decide) | exact xc_ (by decide) | exact x31_ (by decide) | omega) (by first | assumption | decide | exact xs_ (by decide) | exact xc_ (by decide) | exact x31_ (by decide) | omega)) (by rw [eO7]; omega) (by rw [eO7, eO7]; intro q; have := hCI.size (i := (V 13 l 0)) (by first | assumption | decide | exact xs_ (by decide) | exact xc_ (by decide) | exact x31_ (by decide) | omega) (by first | assumption | decide | exact xs_ (by decide) | exact xc_ (by decide) | exact x31_ (by decide) | omega) q; omega) (fun ρ31 Rρ31 => ?_)
                      clear Sρ26 Kρ26 Fρ26
                      refine y_vret hK rfl dX6_give_214 ?_
                      have hN : gvN V l = (cm (V 16 0) (V 15 0) (V 7 l 2) (fun j => V 9 l (w12 + j)) (((V 7 l 6) - 1) + 1 - w12).toNat (V 13 l 2)) := by unfold gvN; rw [hs_, show (V 7 l 6 - w12).toNat = (V 7 l 6 - 1 + 1 - w12).toNat from by omega]
                      have hm : gvM V l z = (plM (mu V 13 l 3 (wr ((V 13 l 3) + 1))) (V 13 l 0) (V 8 l ((V 7 l 6) - 1)) (-1000)) := by
                        unfold gvM
                        rw [if_pos ⟨by omega, by omega, by omega, by unfold fuV; omega, by rw [hN]; unfold NO; omega, by unfold ltV; omega⟩, hN]
                        rw [show max (-1000) (min 1000 (cm (V 16 0) (V 15 0) (V 7 l 2) (fun j => V 9 l (w12 + j)) (((V 7 l 6) - 1) + 1 - w12).toNat (V 13 l 2))) = (-1000) from by omega]
                      rw [hm] at k
                      exact k _ ⟨Rρ31.1, Rρ31.2.1, Rρ31.2.2⟩
              · refine y_vret hK rfl dX6_give_126 ?_
                have hm : gvM V l z = V := if_neg (fun q => by have q1 := q.1; have q2 := q.2.1; have q3 := q.2.2.1; have q4 := q.2.2.2.1; have q5 := q.2.2.2.2.1; have q6 := q.2.2.2.2.2; unfold gvN at q5; rw [hs_, show (V 7 l 6 - w12).toNat = (V 7 l 6 - 1 + 1 - w12).toNat from by omega] at q5; unfold NO at q5; unfold fuV at *; unfold ltV at *; omega)
                rw [hm] at k
                exact k _ ⟨Rρ15.1, Rρ15.2.1, Rρ15.2.2⟩
            · refine r_aload_n hC dX6_give_61 rfl ?_
              refine z_getR hM dX6_give_62 fl_RX6_13 rfl rfl (vld_of (n := 1) rfl (by first | assumption | decide | exact xs_ (by decide) | exact xc_ (by decide) | exact x31_ (by decide) | omega) (by first | assumption | decide | exact xs_ (by decide) | exact xc_ (by decide) | exact x31_ (by decide) | omega)) ?_
              refine r_bipush hC dX6_give_65 rfl ?_
              refine r_iload_n hC dX6_give_67 rfl ?_
              refine r_imulE hC ((121 * l)) dX6_give_68 (by first | assumption | decide | exact xs_ (by decide) | exact xc_ (by decide) | exact x31_ (by decide) | omega) (by unfold inR; omega) ?_
              refine r_iload hC dX6_give_69 rfl ?_
              refine r_iaddE hC (((121 * l) + w12)) dX6_give_71 (by first | assumption | decide | exact xs_ (by decide) | exact xc_ (by decide) | exact x31_ (by decide) | omega) (by unfold inR; omega) ?_
              refine z_iald hM dX6_give_72 rfl (by first | assumption | decide | exact xs_ (by decide) | exact xc_ (by decide) | exact x31_ (by decide) | omega) (by first | assumption | decide | exact xs_ (by decide) | exact xc_ (by decide) | exact x31_ (by decide) | omega) (fun v32 h_v32 o_v32 t_v32 => ?_)
              have w_v32 := ((t_v32 (Or.inl trivial)).trans ((show σ 32 0 ((121 * l) + w12) = V 8 l w12 from by rw [show ((121 * l) + w12) = 121 * l + w12 from by omega]; exact hR.1.a8 (y := w12) (by first | assumption | decide | exact xs_ (by decide) | exact xc_ (by decide) | exact x31_ (by decide) | omega) (by first | assumption | decide | exact xs_ (by decide) | exact xc_ (by decide) | exact x31_ (by decide) | omega) (by first | assumption | decide | exact xs_ (by decide) | exact xc_ (by decide) | exact x31_ (by decide) | omega) (by first | assumption | decide | exact xs_ (by decide) | exact xc_ (by decide) | exact x31_ (by decide) | omega)).trans (rfl))).symm
              clear t_v32
              subst w_v32
              refine r_aload_n hC dX6_give_73 rfl ?_
              refine z_getR hM dX6_give_74 fl_RX6_13 rfl rfl (vld_of (n := 1) rfl (by first | assumption | decide | exact xs_ (by decide) | exact xc_ (by decide) | exact x31_ (by decide) | omega) (by first | assumption | decide | exact xs_ (by decide) | exact xc_ (by decide) | exact x31_ (by decide) | omega)) ?_
              refine r_bipush hC dX6_give_77 rfl ?_
              refine r_iload_n hC dX6_give_79 rfl ?_
              refine r_imulE hC ((121 * l)) dX6_give_80 (by first | assumption | decide | exact xs_ (by decide) | exact xc_ (by decide) | exact x31_ (by decide) | omega) (by unfold inR; omega) ?_
              refine r_iload hC dX6_give_81 rfl ?_
              refine r_iaddE hC (((121 * l) + w12)) dX6_give_83 (by first | assumption | decide | exact xs_ (by decide) | exact xc_ (by decide) | exact x31_ (by decide) | omega) (by unfold inR; omega) ?_
              refine r_iconst hC dX6_give_84 rfl ?_
              refine r_isubE hC ((((121 * l) + w12) - 1)) dX6_give_85 (by first | assumption | decide | exact xs_ (by decide) | exact xc_ (by decide) | exact x31_ (by decide) | omega) (by unfold inR; omega) ?_
              refine z_iald hM dX6_give_86 rfl (by first | assumption | decide | exact xs_ (by decide) | exact xc_ (by decide) | exact x31_ (by decide) | omega) (by first | assumption | decide | exact xs_ (by decide) | exact xc_ (by decide) | exact x31_ (by decide) | omega) (fun v33 h_v33 o_v33 t_v33 => ?_)
              have w_v33 := ((t_v33 (Or.inl trivial)).trans ((show σ 32 0 (((121 * l) + w12) - 1) = V 8 l (w12 - 1) from by rw [show (((121 * l) + w12) - 1) = 121 * l + (w12 - 1) from by omega]; exact hR.1.a8 (y := (w12 - 1)) (by first | assumption | decide | exact xs_ (by decide) | exact xc_ (by decide) | exact x31_ (by decide) | omega) (by first | assumption | decide | exact xs_ (by decide) | exact xc_ (by decide) | exact x31_ (by decide) | omega) (by first | assumption | decide | exact xs_ (by decide) | exact xc_ (by decide) | exact x31_ (by decide) | omega) (by first | assumption | decide | exact xs_ (by decide) | exact xc_ (by decide) | exact x31_ (by decide) | omega)).trans (rfl))).symm
              clear t_v33
              subst w_v33
              refine r_isub hC dX6_give_87 ?_
              have f34 := inR_le (inR_wr ((V 8 l w12) - (V 8 l (w12 - 1))))
              refine r_aload_n hC dX6_give_88 rfl ?_
              refine z_getR hM dX6_give_89 fl_RX6_55 rfl rfl (vld_of (n := 1) rfl (by first | assumption | decide | exact xs_ (by decide) | exact xc_ (by decide) | exact x31_ (by decide) | omega) (by first | assumption | decide | exact xs_ (by decide) | exact xc_ (by decide) | exact x31_ (by decide) | omega)) ?_
              refine r_iload_n hC dX6_give_92 rfl ?_
              refine z_iald hM dX6_give_93 rfl (by first | assumption | decide | exact xs_ (by decide) | exact xc_ (by decide) | exact x31_ (by decide) | omega) (by first | assumption | decide | exact xs_ (by decide) | exact xc_ (by decide) | exact x31_ (by decide) | omega) (fun v35 h_v35 o_v35 t_v35 => ?_)
              have w_v35 := ((t_v35 (Or.inl (by first | exact trivial | exact tb7_ (by decide) | simp [Tb]))).trans ((hR.1.k1 (by first | assumption | decide | exact xs_ (by decide) | exact xc_ (by decide) | exact x31_ (by decide) | omega) (by first | assumption | decide | exact xs_ (by decide) | exact xc_ (by decide) | exact x31_ (by decide) | omega)).trans (rfl))).symm
              clear t_v35
              subst w_v35
              refine r_icmp_gt (tgt := 103) hC dX6_give_94 rfl (fun h36 => ?_) (fun h36 => ?_)
              · have hs_ : ses (V 8 l) (V 13 l 1) (V 7 l 6 - 1).toNat = w12 := by rw [← i0_56]; first | exact ses_0 (by first | assumption | decide | exact xs_ (by decide) | exact xc_ (by decide) | exact x31_ (by decide) | omega) | exact ses_yes (by first | assumption | decide | exact xs_ (by decide) | exact xc_ (by decide) | exact x31_ (by decide) | omega) (by first | assumption | decide | exact xs_ (by decide) | exact xc_ (by decide) | exact x31_ (by decide) | omega)
                refine r_aload_n hC dX6_give_103 rfl ?_
                refine r_iload_n hC dX6_give_104 rfl ?_
                refine r_iload hC dX6_give_105 rfl ?_
                refine r_iload_n hC dX6_give_107 rfl ?_
                refine r_aload_n hC dX6_give_108 rfl ?_
                refine z_getR hM dX6_give_109 fl_RX6_58 rfl rfl (vld_of (n := 1) rfl (by first | assumption | decide | exact xs_ (by decide) | exact xc_ (by decide) | exact x31_ (by decide) | omega) (by first | assumption | decide | exact xs_ (by decide) | exact xc_ (by decide) | exact x31_ (by decide) | omega)) ?_
                refine r_iload_n hC dX6_give_112 rfl ?_
                refine z_iald hM dX6_give_113 rfl (by first | assumption | decide | exact xs_ (by decide) | exact xc_ (by decide) | exact x31_ (by decide) | omega) (by first | assumption | decide | exact xs_ (by decide) | exact xc_ (by decide) | exact x31_ (by decide) | omega) (fun v37 h_v37 o_v37 t_v37 => ?_)
                have w_v37 := ((t_v37 (Or.inl (by first | exact trivial | exact tb7_ (by decide) | simp [Tb]))).trans ((hR.1.k2 (by first | assumption | decide | exact xs_ (by decide) | exact xc_ (by decide) | exact x31_ (by decide) | omega) (by first | assumption | decide | exact xs_ (by decide) | exact xc_ (by decide) | exact x31_ (by decide) | omega)).trans (rfl))).symm
                clear t_v37
                subst w_v37
                have q_v37 : 0 ≤ (V 13 l 2) ∧ (V 13 l 2) ≤ 6 := o_v37
                refine z_inv4 hM dX6_give_114 vl_RX6_243 rfl rfl rfl (Nat.le_of_ble_eq_true rfl) (Nat.le_of_ble_eq_true rfl) ?_
                have hw_ := hlk2 (by first | assumption | decide | exact xs_ (by decide) | exact xc_ (by decide) | exact x31_ (by decide) | omega)
                have hwN := numF_rng (V 7 l 2)
                refine y_comesFrom (V := V) (by first | assumption | decide | exact xs_ (by decide) | exact xc_ (by decide) | exact x31_ (by decide) | omega) (by first | assumption | decide | exact xs_ (by decide) | exact xc_ (by decide) | exact x31_ (by decide) | omega) (by first | assumption | decide | exact xs_ (by decide) | exact xc_ (by decide) | exact x31_ (by decide) | omega) (by first | assumption | decide | exact xs_ (by decide) | exact xc_ (by decide) | exact x31_ (by decide) | omega) ht ⟨hR.1, hR.2.1, hR.2.2⟩ (by first | assumption | decide | exact xs_ (by decide) | exact xc_ (by decide) | exact x31_ (by decide) | omega) hLl (by first | assumption | decide | exact xs_ (by decide) | exact xc_ (by decide) | exact x31_ (by decide) | omega) (fun ρ38 Rρ38 => ?_)
                refine r_istore hC dX6_give_117 rfl ?_
                refine r_iload hC dX6_give_119 rfl ?_
                refine r_ldc hC dX6_give_121 co_RX6_160 rfl ?_
                refine r_icmp_ne (tgt := 127) hC dX6_give_123 rfl (fun h39 => ?_) (fun h39 => ?_)
                · refine r_aload_n hC dX6_give_127 rfl ?_
                  refine z_getR hM dX6_give_128 fl_RX6_52 rfl rfl (vld_of (n := 1) rfl (by first | assumption | decide | exact xs_ (by decide) | exact xc_ (by decide) | exact x31_ (by decide) | omega) (by first | assumption | decide | exact xs_ (by decide) | exact xc_ (by decide) | exact x31_ (by decide) | omega)) ?_
                  refine r_iload_n hC dX6_give_131 rfl ?_
                  refine z_iald hM dX6_give_132 rfl (by first | assumption | decide | exact xs_ (by decide) | exact xc_ (by decide) | exact x31_ (by decide) | omega) (by first | assumption | decide | exact xs_ (by decide) | exact xc_ (by decide) | exact x31_ (by decide) | omega) (fun v40 h_v40 o_v40 t_v40 => ?_)
                  have w_v40 := ((t_v40 (Or.inl (by first | exact trivial | exact tb7_ (by decide) | simp [Tb]))).trans ((Rρ38.1.k0 (by first | assumption | decide | exact xs_ (by decide) | exact xc_ (by decide) | exact x31_ (by decide) | omega) (by first | assumption | decide | exact xs_ (by decide) | exact xc_ (by decide) | exact x31_ (by decide) | omega)).trans (rfl))).symm
                  clear t_v40
                  subst w_v40
                  have q_v40 : -1 ≤ (V 13 l 0) ∧ (V 13 l 0) ≤ 3 := o_v40
                  refine r_istore hC dX6_give_133 rfl ?_
                  refine r_aload_n hC dX6_give_135 rfl ?_
                  refine r_iload hC dX6_give_136 rfl ?_
                  refine r_iload hC dX6_give_138 rfl ?_
                  refine z_inv2 hM dX6_give_140 vl_RX6_247 rfl rfl rfl (Nat.le_of_ble_eq_true rfl) (Nat.le_of_ble_eq_true rfl) ?_
                  refine y_isLost (V := V) (by first | assumption | decide | exact xs_ (by decide) | exact xc_ (by decide) | exact x31_ (by decide) | omega) ht ⟨Rρ38.1, Rρ38.2.1, Rρ38.2.2⟩ (by first | assumption | decide | exact xs_ (by decide) | exact xc_ (by decide) | exact x31_ (by decide) | omega) (fun h41 => ?_) (fun h41 => ?_)
                  · refine r_if_eq (tgt := 156) hC dX6_give_143 rfl (fun h42 => by omega) (fun h42 => ?_)
                    refine r_aload_n hC dX6_give_146 rfl ?_
                    refine r_iload hC dX6_give_147 rfl ?_
                    refine r_bipush hC dX6_give_149 rfl ?_
                    refine r_iconst hC dX6_give_151 rfl ?_
                    refine z_inv3 hM dX6_give_152 vl_RX6_188 rfl rfl rfl (Nat.le_of_ble_eq_true rfl) (Nat.le_of_ble_eq_true rfl) ?_
                    refine y_moreG (by first | assumption | decide | exact xs_ (by decide) | exact xc_ (by decide) | exact x31_ (by decide) | omega) ?_
                    refine y_vret hK rfl dX6_give_155 ?_
                    have hm : gvM V l z = V := if_neg (fun q => by have q1 := q.1; have q2 := q.2.1; have q3 := q.2.2.1; have q4 := q.2.2.2.1; have q5 := q.2.2.2.2.1; have q6 := q.2.2.2.2.2; unfold gvN at q5; rw [hs_, show (V 7 l 6 - w12).toNat = (V 7 l 6 - 1 + 1 - w12).toNat from by omega] at q5; unfold NO at q5; unfold fuV at *; unfold ltV at *; omega)
                    rw [hm] at k
                    exact k _ ⟨Rρ38.1, Rρ38.2.1, Rρ38.2.2⟩
                  · refine r_if_eq (tgt := 156) hC dX6_give_143 rfl (fun h43 => ?_) (fun h43 => by omega)
                    refine r_aload_n hC dX6_give_156 rfl ?_
                    refine r_iload hC dX6_give_157 rfl ?_
                    refine z_inv1 hM dX6_give_159 vl_RX6_250 rfl rfl rfl (Nat.le_of_ble_eq_true rfl) (Nat.le_of_ble_eq_true rfl) ?_
                    refine y_isFull (V := V) (by first | assumption | decide | exact xs_ (by decide) | exact xc_ (by decide) | exact x31_ (by decide) | omega) ht ⟨Rρ38.1, Rρ38.2.1, Rρ38.2.2⟩ (by first | assumption | decide | exact xs_ (by decide) | exact xc_ (by decide) | exact x31_ (by decide) | omega) (fun h44 => ?_) (fun h44 => ?_)
                    · refine r_if_eq (tgt := 166) hC dX6_give_162 rfl (fun h45 => by omega) (fun h45 => ?_)
                      refine y_vret hK rfl dX6_give_165 ?_
                      have hm : gvM V l z = V := if_neg (fun q => by have q1 := q.1; have q2 := q.2.1; have q3 := q.2.2.1; have q4 := q.2.2.2.1; have q5 := q.2.2.2.2.1; have q6 := q.2.2.2.2.2; unfold gvN at q5; rw [hs_, show (V 7 l 6 - w12).toNat = (V 7 l 6 - 1 + 1 - w12).toNat from by omega] at q5; unfold NO at q5; unfold fuV at *; unfold ltV at *; omega)
                      rw [hm] at k
                      exact k _ ⟨Rρ38.1, Rρ38.2.1, Rρ38.2.2⟩
                    · refine r_if_eq (tgt := 166) hC dX6_give_162 rfl (fun h46 => ?_) (fun h46 => by omega)
                      refine r_aload_n hC dX6_give_166 rfl ?_
                      refine z_getR hM dX6_give_167 fl_RX6_61 rfl rfl (vld_of (n := 1) rfl (by first | assumption | decide | exact xs_ (by decide) | exact xc_ (by decide) | exact x31_ (by decide) | omega) (by first | assumption | decide | exact xs_ (by decide) | exact xc_ (by decide) | exact x31_ (by decide) | omega)) ?_
                      refine r_iload_n hC dX6_give_170 rfl ?_
                      refine r_dup2 hC dX6_give_171 rfl rfl ?_
                      refine z_iald hM dX6_give_172 rfl (by first | assumption | decide | exact xs_ (by decide) | exact xc_ (by decide) | exact x31_ (by decide) | omega) (by first | assumption | decide | exact xs_ (by decide) | exact xc_ (by decide) | exact x31_ (by decide) | omega) (fun v47 h_v47 o_v47 t_v47 => ?_)
                      have w_v47 := ((t_v47 (Or.inl (by first | exact trivial | exact tb7_ (by decide) | simp [Tb]))).trans ((Rρ38.1.k3 (by first | assumption | decide | exact xs_ (by decide) | exact xc_ (by decide) | exact x31_ (by decide) | omega) (by first | assumption | decide | exact xs_ (by decide) | exact xc_ (by decide) | exact x31_ (by decide) | omega)).trans (rfl))).symm
                      clear t_v47
                      subst w_v47
                      refine r_iconst hC dX6_give_173 rfl ?_
                      refine r_iadd hC dX6_give_174 ?_
                      have f48 := inR_le (inR_wr ((V 13 l 3) + 1))
                      refine z_iastT hM dX6_give_175 rfl (by first | assumption | decide | exact xs_ (by decide) | exact xc_ (by decide) | exact x31_ (by decide) | omega) (by first | assumption | decide | exact xs_ (by decide) | exact xc_ (by decide) | exact x31_ (by decide) | omega) ⟨Or.inr (by first | exact id | exact dl7_ (by decide) | simp [DL]), Or.inr (by first | exact id | exact df14_ (by decide) | simp [DF])⟩ (by first | trivial | (simp only [Okv]; omega) | (simp [Okv]; try omega)) ?_
                      obtain ⟨ρ49, e_ρ49⟩ : ∃ zz_, zz_ = mu ρ38 48 0 l (wr ((V 13 l 3) + 1)) := ⟨_, rfl⟩
                      rw [← e_ρ49]
                      have Sρ49 : SB t σ0 (mu V 13 l 3 (wr ((V 13 l 3) + 1))) ρ49 := by rw [e_ρ49]; exact Rρ38.1.pk3 (by first | assumption | decide | exact xs_ (by decide) | exact xc_ (by decide) | exact x31_ (by decide) | omega) (by first | assumption | decide | exact xs_ (by decide) | exact xc_ (by decide) | exact x31_ (by decide) | omega)
                      have Kρ49 : KF t (mu V 13 l 3 (wr ((V 13 l 3) + 1))) ρ49 := by rw [e_ρ49]; exact (Rρ38.2.1).e (fun l a b => ⟨mu_ne (by first | assumption | decide | exact xs_ (by decide) | exact xc_ (by decide) | exact x31_ (by decide) | omega), mu_ne (by first | assumption | decide | exact xs_ (by decide) | exact xc_ (by decide) | exact x31_ (by decide) | omega)⟩) |>.v (fun l => mu_ne (by first | assumption | decide | exact xs_ (by decide) | exact xc_ (by decide) | exact x31_ (by decide) | omega))
                      have Fρ49 : FB (mu V 13 l 3 (wr ((V 13 l 3) + 1))) ρ49 := by rw [e_ρ49]; exact (Rρ38.2.2).e (fun l a b => mu_ne (by first | assumption | decide | exact xs_ (by decide) | exact xc_ (by decide) | exact x31_ (by decide) | omega)) |>.v (fun l y a b c => mu_ne (by first | assumption | decide | exact xs_ (by decide) | exact xc_ (by decide) | exact x31_ (by decide) | omega))
                      clear e_ρ49
                      refine r_aload_n hC dX6_give_176 rfl ?_
                      refine r_iload hC dX6_give_177 rfl ?_
                      refine r_iload hC dX6_give_179 rfl ?_
                      refine r_iload hC dX6_give_181 rfl ?_
                      refine r_sipush hC dX6_give_183 rfl ?_
                      refine r_icmp_ge (tgt := 195) hC dX6_give_186 rfl (fun h50 => ?_) (fun h50 => ?_)
                      · refine r_iload hC dX6_give_195 rfl ?_
                        refine r_sipush hC dX6_give_197 rfl ?_
                        refine r_icmp_le (tgt := 209) hC dX6_give_200 rfl (fun h51 => ?_) (fun h51 => ?_)
                        · refine r_iload hC dX6_give_209 rfl ?_
                          refine z_inv3 hM dX6_give_211 vl_RX6_253 rfl rfl rfl (Nat.le_of_ble_eq_true rfl) (Nat.le_of_ble_eq_true rfl) ?_
                          have hO6 := hCI.h7 (l := (V 13 l 0)) (by first | assumption | decide | exact xs_ (by decide) | exact xc_ (by decide) | exact x31_ (by decide) | omega) (by first | assumption | decide | exact xs_ (by decide) | exact xc_ (by decide) | exact x31_ (by decide) | omega)
                          have eO7 : ∀ y : Int, (mu V 13 l 3 (wr ((V 13 l 3) + 1))) 7 (V 13 l 0) y = V 7 (V 13 l 0) y := fun y => mu_ne (by first | assumption | decide | exact xs_ (by decide) | exact xc_ (by decide) | exact x31_ (by decide) | omega)
                          have eO11 : (mu V 13 l 3 (wr ((V 13 l 3) + 1))) 11 (V 13 l 0) = V 11 (V 13 l 0) := funext fun y => mu_ne (by first | assumption | decide | exact xs_ (by decide) | exact xc_ (by decide) | exact x31_ (by decide) | omega)
                          have eO8 : (mu V 13 l 3 (wr ((V 13 l 3) + 1))) 8 (V 13 l 0) = V 8 (V 13 l 0) := funext fun y => mu_ne (by first | assumption | decide | exact xs_ (by decide) | exact xc_ (by decide) | exact x31_ (by decide) | omega)
                          refine y_enter (V := (mu V 13 l 3 (wr ((V 13 l 3) + 1)))) (l := (V 13 l 0)) (z := (V 8 l ((V 7 l 6) - 1))) (v := (cm (V 16 0) (V 15 0) (V 7 l 2) (fun j => V 9 l (w12 + j)) (((V 7 l 6) - 1) + 1 - w12).toNat (V 13 l 2))) (by first | assumption | decide | exact xs_ (by decide) | exact xc_ (by decide) | exact x31_ (by decide) | omega) (by first | assumption | decide | exact xs_ (by decide) | exact xc_ (by decide) | exact x31_ (by decide) | omega) (by first | assumption | decide | exact xs_ (by decide) | exact xc_ (by decide) | exact x31_ (by decide) | omega) ht ⟨Sρ49, Kρ49, Fρ49⟩ (by first | assumption | decide | exact xs_ (by decide) | exact xc_ (by decide) | exact x31_ (by decide) | omega) ((hJ.lk hCI (l := (V 13 l 0)) (by first | assumption | decide | exact xs_ (by decide) | exact xc_ (by decide) | exact x31_ (by decide) | omega) (by first | assumption | decide | exact xs_ (by decide) | exact xc_ (by decide) | exact x31_ (by decide) | omega)).to (fun c2 x y h => mu_ne (by first | assumption | decide | exact xs_ (by decide) | exact xc_ (by decide) | exact x31_ (by decide) | omega))) (by rw [eO11, eO7]; exact hCI.2.1 (V 13 l 0) (by first | assumption | decide | exact xs_ (by decide) | exact xc_ (by decide) | exact x31_ (by decide) | omega) (by first | assumption | decide | exact xs_ (by decide) | exact xc_ (by decide) | exact x31_ (by decide) | omega)) (by rw [eO8, eO7]; exact hJ.1 (V 13 l 0) (by first | assumption | decide | exact xs_ (by decide) | exact xc_ (by decide) | exact x31_ (by decide) | omega) (by first | assumption | decide | exact xs_ (by decide) | exact xc_ (by decide) | exact x31_ (by decide) | omega)) (by rw [eO7]; omega) (by rw [eO7, eO7]; intro q; have := hCI.size (i := (V 13 l 0)) (by first | assumption | decide | exact xs_ (by decide) | exact xc_ (by decide) | exact x31_ (by decide) | omega) (by first | assumption | decide | exact xs_ (by decide) | exact xc_ (by decide) | exact x31_ (by decide) | omega) q; omega) (fun ρ52 Rρ52 => ?_)
                          refine y_vret hK rfl dX6_give_214 ?_
                          have hN : gvN V l = (cm (V 16 0) (V 15 0) (V 7 l 2) (fun j => V 9 l (w12 + j)) (((V 7 l 6) - 1) + 1 - w12).toNat (V 13 l 2)) := by unfold gvN; rw [hs_, show (V 7 l 6 - w12).toNat = (V 7 l 6 - 1 + 1 - w12).toNat from by omega]
                          have hm : gvM V l z = (plM (mu V 13 l 3 (wr ((V 13 l 3) + 1))) (V 13 l 0) (V 8 l ((V 7 l 6) - 1)) (cm (V 16 0) (V 15 0) (V 7 l 2) (fun j => V 9 l (w12 + j)) (((V 7 l 6) - 1) + 1 - w12).toNat (V 13 l 2))) := by
                            unfold gvM
                            rw [if_pos ⟨by omega, by omega, by omega, by unfold fuV; omega, by rw [hN]; unfold NO; omega, by unfold ltV; omega⟩, hN]
                            rw [show max (-1000) (min 1000 (cm (V 16 0) (V 15 0) (V 7 l 2) (fun j => V 9 l (w12 + j)) (((V 7 l 6) - 1) + 1 - w12).toNat (V 13 l 2))) = (cm (V 16 0) (V 15 0) (V 7 l 2) (fun j => V 9 l (w12 + j)) (((V 7 l 6) - 1) + 1 - w12).toNat (V 13 l 2)) from by omega]
                          rw [hm] at k
                          exact k _ ⟨Rρ52.1, Rρ52.2.1, Rρ52.2.2⟩
                        · refine r_sipush hC dX6_give_203 rfl ?_
                          refine r_goto (tgt := 211) hC dX6_give_206 rfl ?_
                          refine z_inv3 hM dX6_give_211 vl_RX6_253 rfl rfl rfl (Nat.le_of_ble_eq_true rfl) (Nat.le_of_ble_eq_true rfl) ?_
                          have hO6 := hCI.h7 (l := (V 13 l 0)) (by first | assumption | decide | exact xs_ (by decide) | exact xc_ (by decide) | exact x31_ (by decide) | omega) (by first | assumption | decide | exact xs_ (by decide) | exact xc_ (by decide) | exact x31_ (by decide) | omega)
                          have eO7 : ∀ y : Int, (mu V 13 l 3 (wr ((V 13 l 3) + 1))) 7 (V 13 l 0) y = V 7 (V 13 l 0) y := fun y => mu_ne (by first | assumption | decide | exact xs_ (by decide) | exact xc_ (by decide) | exact x31_ (by decide) | omega)
                          have eO11 : (mu V 13 l 3 (wr ((V 13 l 3) + 1))) 11 (V 13 l 0) = V 11 (V 13 l 0) := funext fun y => mu_ne (by first | assumption | decide | exact xs_ (by decide) | exact xc_ (by decide) | exact x31_ (by decide) | omega)
                          have eO8 : (mu V 13 l 3 (wr ((V 13 l 3) + 1))) 8 (V 13 l 0) = V 8 (V 13 l 0) := funext fun y => mu_ne (by first | assumption | decide | exact xs_ (by decide) | exact xc_ (by decide) | exact x31_ (by decide) | omega)
                          refine y_enter (V := (mu V 13 l 3 (wr ((V 13 l 3) + 1)))) (l := (V 13 l 0)) (z := (V 8 l ((V 7 l 6) - 1))) (v := 1000) (by first | assumption | decide | exact xs_ (by decide) | exact xc_ (by decide) | exact x31_ (by decide) | omega) (by first | assumption | decide | exact xs_ (by decide) | exact xc_ (by decide) | exact x31_ (by decide) | omega) (by first | assumption | decide | exact xs_ (by decide) | exact xc_ (by decide) | exact x31_ (by decide) | omega) ht ⟨Sρ49, Kρ49, Fρ49⟩ (by first | assumption | decide | exact xs_ (by decide) | exact xc_ (by decide) | exact x31_ (by decide) | omega) ((hJ.lk hCI (l := (V 13 l 0)) (by first | assumption | decide | exact xs_ (by decide) | exact xc_ (by decide) | exact x31_ (by decide) | omega) (by first | assumption | decide | exact xs_ (by decide) | exact xc_ (by decide) | exact x31_ (by decide) | omega)).to (fun c2 x y h => mu_ne (by first | assumption | decide | exact xs_ (by decide) | exact xc_ (by decide) | exact x31_ (by decide) | omega))) (by rw [eO11, eO7]; exact hCI.2.1 (V 13 l 0) (by first | assumption | decide | exact xs_ (by decide) | exact xc_ (by decide) | exact x31_ (by decide) | omega) (by first | assumption | decide | exact xs_ (by decide) | exact xc_ (by decide) | exact x31_ (by decide) | omega)) (by rw [eO8, eO7]; exact hJ.1 (V 13 l 0) (by first | assumption | decide | exact xs_ (by decide) | exact xc_ (by decide) | exact x31_ (by decide) | omega) (by first | assumption | decide | exact xs_ (by decide) | exact xc_ (by decide) | exact x31_ (by decide) | omega)) (by rw [eO7]; omega) (by rw [eO7, eO7]; intro q; have := hCI.size (i := (V 13 l 0)) (by first | assumption | decide | exact xs_ (by decide) | exact xc_ (by decide) | exact x31_ (by decide) | omega) (by first | assumption | decide | exact xs_ (by decide) | exact xc_ (by decide) | exact x31_ (by decide) | omega) q; omega) (fun ρ53 Rρ53 => ?_)
                          refine y_vret hK rfl dX6_give_214 ?_
                          have hN : gvN V l = (cm (V 16 0) (V 15 0) (V 7 l 2) (fun j => V 9 l (w12 + j)) (((V 7 l 6) - 1) + 1 - w12).toNat (V 13 l 2)) := by unfold gvN; rw [hs_, show (V 7 l 6 - w12).toNat = (V 7 l 6 - 1 + 1 - w12).toNat from by omega]
                          have hm : gvM V l z = (plM (mu V 13 l 3 (wr ((V 13 l 3) + 1))) (V 13 l 0) (V 8 l ((V 7 l 6) - 1)) 1000) := by
                            unfold gvM
                            rw [if_pos ⟨by omega, by omega, by omega, by unfold fuV; omega, by rw [hN]; unfold NO; omega, by unfold ltV; omega⟩, hN]
                            rw [show max (-1000) (min 1000 (cm (V 16 0) (V 15 0) (V 7 l 2) (fun j => V 9 l (w12 + j)) (((V 7 l 6) - 1) + 1 - w12).toNat (V 13 l 2))) = 1000 from by omega]
                          rw [hm] at k
                          exact k _ ⟨Rρ53.1, Rρ53.2.1, Rρ53.2.2⟩
                      · refine r_sipush hC dX6_give_189 rfl ?_
                        refine r_goto (tgt := 211) hC dX6_give_192 rfl ?_
                        refine z_inv3 hM dX6_give_211 vl_RX6_253 rfl rfl rfl (Nat.le_of_ble_eq_true rfl) (Nat.le_of_ble_eq_true rfl) ?_
                        have hO6 := hCI.h7 (l := (V 13 l 0)) (by first | assumption | decide | exact xs_ (by decide) | exact xc_ (by decide) | exact x31_ (by decide) | omega) (by first | assumption | decide | exact xs_ (by decide) | exact xc_ (by decide) | exact x31_ (by decide) | omega)
                        have eO7 : ∀ y : Int, (mu V 13 l 3 (wr ((V 13 l 3) + 1))) 7 (V 13 l 0) y = V 7 (V 13 l 0) y := fun y => mu_ne (by first | assumption | decide | exact xs_ (by decide) | exact xc_ (by decide) | exact x31_ (by decide) | omega)
                        have eO11 : (mu V 13 l 3 (wr ((V 13 l 3) + 1))) 11 (V 13 l 0) = V 11 (V 13 l 0) := funext fun y => mu_ne (by first | assumption | decide | exact xs_ (by decide) | exact xc_ (by decide) | exact x31_ (by decide) | omega)
                        have eO8 : (mu V 13 l 3 (wr ((V 13 l 3) + 1))) 8 (V 13 l 0) = V 8 (V 13 l 0) := funext fun y => mu_ne (by first | assumption | decide | exact xs_ (by decide) | exact xc_ (by decide) | exact x31_ (by decide) | omega)
                        refine y_enter (V := (mu V 13 l 3 (wr ((V 13 l 3) + 1)))) (l := (V 13 l 0)) (z := (V 8 l ((V 7 l 6) - 1))) (v := (-1000)) (by first | assumption | decide | exact xs_ (by decide) | exact xc_ (by decide) | exact x31_ (by decide) | omega) (by first | assumption | decide | exact xs_ (by decide) | exact xc_ (by decide) | exact x31_ (by decide) | omega) (by first | assumption | decide | exact xs_ (by decide) | exact xc_ (by decide) | exact x31_ (by decide) | omega) ht ⟨Sρ49, Kρ49, Fρ49⟩ (by first | assumption | decide | exact xs_ (by decide) | exact xc_ (by decide) | exact x31_ (by decide) | omega) ((hJ.lk hCI (l := (V 13 l 0)) (by first | assumption | decide | exact xs_ (by decide) | exact xc_ (by decide) | exact x31_ (by decide) | omega) (by first | assumption | decide | exact xs_ (by decide) | exact xc_ (by decide) | exact x31_ (by decide) | omega)).to (fun c2 x y h => mu_ne (by first | assumption | decide | exact xs_ (by decide) | exact xc_ (by decide) | exact x31_ (by decide) | omega))) (by rw [eO11, eO7]; exact hCI.2.1 (V 13 l 0) (by first | assumption | decide | exact xs_ (by decide) | exact xc_ (by decide) | exact x31_ (by decide) | omega) (by first | assumption | decide | exact xs_ (by decide) | exact xc_ (by decide) | exact x31_ (by decide) | omega)) (by rw [eO8, eO7]; exact hJ.1 (V 13 l 0) (by first | assumption | decide | exact xs_ (by decide) | exact xc_ (by decide) | exact x31_ (by decide) | omega) (by first | assumption | decide | exact xs_ (by decide) | exact xc_ (by decide) | exact x31_ (by decide) | omega)) (by rw [eO7]; omega) (by rw [eO7, eO7]; intro q; have := hCI.size (i := (V 13 l 0)) (by first | assumption | decide | exact xs_ (by decide) | exact xc_ (by decide) | exact x31_ (by decide) | omega) (by first | assumption | decide | exact xs_ (by decide) | exact xc_ (by decide) | exact x31_ (by decide) | omega) q; omega) (fun ρ54 Rρ54 => ?_)
                        clear Sρ49 Kρ49 Fρ49
                        refine y_vret hK rfl dX6_give_214 ?_
                        have hN : gvN V l = (cm (V 16 0) (V 15 0) (V 7 l 2) (fun j => V 9 l (w12 + j)) (((V 7 l 6) - 1) + 1 - w12).toNat (V 13 l 2)) := by unfold gvN; rw [hs_, show (V 7 l 6 - w12).toNat = (V 7 l 6 - 1 + 1 - w12).toNat from by omega]
                        have hm : gvM V l z = (plM (mu V 13 l 3 (wr ((V 13 l 3) + 1))) (V 13 l 0) (V 8 l ((V 7 l 6) - 1)) (-1000)) := by
                          unfold gvM
                          rw [if_pos ⟨by omega, by omega, by omega, by unfold fuV; omega, by rw [hN]; unfold NO; omega, by unfold ltV; omega⟩, hN]
                          rw [show max (-1000) (min 1000 (cm (V 16 0) (V 15 0) (V 7 l 2) (fun j => V 9 l (w12 + j)) (((V 7 l 6) - 1) + 1 - w12).toNat (V 13 l 2))) = (-1000) from by omega]
                        rw [hm] at k
                        exact k _ ⟨Rρ54.1, Rρ54.2.1, Rρ54.2.2⟩
                · refine y_vret hK rfl dX6_give_126 ?_
                  have hm : gvM V l z = V := if_neg (fun q => by have q1 := q.1; have q2 := q.2.1; have q3 := q.2.2.1; have q4 := q.2.2.2.1; have q5 := q.2.2.2.2.1; have q6 := q.2.2.2.2.2; unfold gvN at q5; rw [hs_, show (V 7 l 6 - w12).toNat = (V 7 l 6 - 1 + 1 - w12).toNat from by omega] at q5; unfold NO at q5; unfold fuV at *; unfold ltV at *; omega)
                  rw [hm] at k
                  exact k _ ⟨Rρ38.1, Rρ38.2.1, Rρ38.2.2⟩
              · refine r_iincE hC ((w12 - 1)) dX6_give_97 rfl rfl (by first | assumption | decide | exact xs_ (by decide) | exact xc_ (by decide) | exact x31_ (by decide) | omega) (by unfold inR; omega) ?_
                refine r_goto (tgt := 56) hC dX6_give_100 rfl ?_
                exact ih56 ((w12 - 1))  (by first | assumption | decide | exact xs_ (by decide) | exact xc_ (by decide) | exact x31_ (by decide) | omega) (by first | rfl | (rw [← ses_no (by first | assumption | decide | exact xs_ (by decide) | exact xc_ (by decide) | exact x31_ (by decide) | omega) (by first | assumption | decide | exact xs_ (by decide) | exact xc_ (by decide) | exact x31_ (by decide) | omega)]; exact i0_56)) (by first | assumption | decide | exact xs_ (by decide) | exact xc_ (by decide) | exact x31_ (by decide) | omega)  
        exact L56 122 (((V 7 l 6) - 1))  (by first | assumption | decide | exact xs_ (by decide) | exact xc_ (by decide) | exact x31_ (by decide) | omega) (by first | rfl | (rw [← ses_no (by first | assumption | decide | exact xs_ (by decide) | exact xc_ (by decide) | exact x31_ (by decide) | omega) (by first | assumption | decide | exact xs_ (by decide) | exact xc_ (by decide) | exact x31_ (by decide) | omega)]; exact i0_56)) (by first | assumption | decide | exact xs_ (by decide) | exact xc_ (by decide) | exact x31_ (by decide) | omega)  
      · refine y_vret hK rfl dX6_give_52 ?_
        have hm : gvM V l z = V := if_neg (fun q => by have q1 := q.1; have q2 := q.2.1; have q3 := q.2.2.1; have q4 := q.2.2.2.1; have q5 := q.2.2.2.2.1; have q6 := q.2.2.2.2.2; unfold fuV at *; unfold ltV at *; omega)
        rw [hm] at k
        exact k _ ⟨hR.1, hR.2.1, hR.2.2⟩
    · refine y_vret hK rfl dX6_give_17 ?_
      have hm : gvM V l z = V := if_neg (fun q => by have q1 := q.1; have q2 := q.2.1; have q3 := q.2.2.1; have q4 := q.2.2.2.1; have q5 := q.2.2.2.2.1; have q6 := q.2.2.2.2.2; unfold fuV at *; unfold ltV at *; omega)
      rw [hm] at k
      exact k _ ⟨hR.1, hR.2.1, hR.2.2⟩
theorem y_seeMost {eb : Bool} {t : Int} {V : Mm} {d : Nat} {P : Option Vl → Mm → Prop} {σ : Mm} {l : Int} (b_l : 0 ≤ l ∧ l ≤ 7) {σ0 : Mm} (ht : 6 ≤ t ∧ t ≤ 7) (hR : RS t σ0 V σ) (hl : l ≤ t)  (k : ∀ ρ : Mm, RS t σ0 (mu V 7 l 15 (max (V 7 l 15) (V 7 l 6))) ρ → P none ρ) : WT (true, eb, true) (d + 3) 195 [vR 30 0, vI l] σ P := by
  refine WT_in fun K hK => ?_
  have hK : StpY (true, eb, true) cX6_seeMost RX6 (none) (WT (true, eb, true) (d + 2)) P K := hK
  have hM := hK.1
  have hC := hK.1.1
  show K 0 [some (vR 30 0), some (vI l)] [] σ
  refine r_aload_n hC dX6_seeMost_0 rfl ?_
  refine r_iload_n hC dX6_seeMost_1 rfl ?_
  refine z_inv1 hM dX6_seeMost_2 vl_RX6_116 rfl rfl rfl (Nat.le_of_ble_eq_true rfl) (Nat.le_of_ble_eq_true rfl) ?_
  refine y_heldOf (by first | assumption | decide | exact xs_ (by decide) | exact xc_ (by decide) | exact x31_ (by decide) | omega) (fun o1 => ?_)
  have e2 : σ 31 0 (22 * l + 5) = (V 7 l 6) := (hR.1.a7 (s := 6) (f := 5) (by first | assumption | decide | exact xs_ (by decide) | exact xc_ (by decide) | exact x31_ (by decide) | omega) (by first | assumption | decide | exact xs_ (by decide) | exact xc_ (by decide) | exact x31_ (by decide) | omega) (by first | assumption | decide | exact xs_ (by decide) | exact xc_ (by decide) | exact x31_ (by decide) | omega)).trans (rfl)
  rw [e2] at o1 ⊢
  have qo1 : 0 ≤ (V 7 l 6) ∧ (V 7 l 6) ≤ 121 := o1.1 (by first | assumption | decide | exact xs_ (by decide) | exact xc_ (by decide) | exact x31_ (by decide) | omega)
  refine r_aload_n hC dX6_seeMost_5 rfl ?_
  refine r_iload_n hC dX6_seeMost_6 rfl ?_
  refine r_bipush hC dX6_seeMost_7 rfl ?_
  refine z_inv2 hM dX6_seeMost_9 vl_RX6_80 rfl rfl rfl (Nat.le_of_ble_eq_true rfl) (Nat.le_of_ble_eq_true rfl) ?_
  refine y_of (by first | assumption | decide | exact xs_ (by decide) | exact xc_ (by decide) | exact x31_ (by decide) | omega) (by first | assumption | decide | exact xs_ (by decide) | exact xc_ (by decide) | exact x31_ (by decide) | omega) (by first | assumption | decide | exact xs_ (by decide) | exact xc_ (by decide) | exact x31_ (by decide) | omega) (fun o3 => ?_)
  have e4 : σ 31 0 (22 * l + 11) = (V 7 l 15) := (hR.1.a7 (s := 15) (f := 11) (by first | assumption | decide | exact xs_ (by decide) | exact xc_ (by decide) | exact x31_ (by decide) | omega) (by first | assumption | decide | exact xs_ (by decide) | exact xc_ (by decide) | exact x31_ (by decide) | omega) (by first | assumption | decide | exact xs_ (by decide) | exact xc_ (by decide) | exact x31_ (by decide) | omega)).trans (rfl)
  rw [e4] at o3 ⊢
  refine r_icmp_le (tgt := 27) hC dX6_seeMost_12 rfl (fun h5 => ?_) (fun h5 => ?_)
  · refine y_vret hK rfl dX6_seeMost_27 ?_
    have e : (mu V 7 l 15 (max (V 7 l 15) (V 7 l 6))) = V := mu_same (by first | assumption | decide | exact xs_ (by decide) | exact xc_ (by decide) | exact x31_ (by decide) | omega)
    rw [e] at k
    exact k _ ⟨hR.1, hR.2.1, hR.2.2⟩
  · refine r_aload_n hC dX6_seeMost_15 rfl ?_
    refine r_iload_n hC dX6_seeMost_16 rfl ?_
    refine r_bipush hC dX6_seeMost_17 rfl ?_
    refine r_aload_n hC dX6_seeMost_19 rfl ?_
    refine r_iload_n hC dX6_seeMost_20 rfl ?_
    refine z_inv1 hM dX6_seeMost_21 vl_RX6_116 rfl rfl rfl (Nat.le_of_ble_eq_true rfl) (Nat.le_of_ble_eq_true rfl) ?_
    refine y_heldOf (by first | assumption | decide | exact xs_ (by decide) | exact xc_ (by decide) | exact x31_ (by decide) | omega) (fun o6 => ?_)
    have e7 : σ 31 0 (22 * l + 5) = (V 7 l 6) := (hR.1.a7 (s := 6) (f := 5) (by first | assumption | decide | exact xs_ (by decide) | exact xc_ (by decide) | exact x31_ (by decide) | omega) (by first | assumption | decide | exact xs_ (by decide) | exact xc_ (by decide) | exact x31_ (by decide) | omega) (by first | assumption | decide | exact xs_ (by decide) | exact xc_ (by decide) | exact x31_ (by decide) | omega)).trans (rfl)
    rw [e7] at o6 ⊢
    have qo6 : 0 ≤ (V 7 l 6) ∧ (V 7 l 6) ≤ 121 := o6.1 (by first | assumption | decide | exact xs_ (by decide) | exact xc_ (by decide) | exact x31_ (by decide) | omega)
    refine z_inv3 hM dX6_seeMost_24 vl_RX6_173 rfl rfl rfl (Nat.le_of_ble_eq_true rfl) (Nat.le_of_ble_eq_true rfl) ?_
    refine y_set (by first | assumption | decide | exact xs_ (by decide) | exact xc_ (by decide) | exact x31_ (by decide) | omega) (by first | assumption | decide | exact xs_ (by decide) | exact xc_ (by decide) | exact x31_ (by decide) | omega) ⟨fun h => by omega, fun h => by omega⟩ ?_
    obtain ⟨ρ8, e_ρ8⟩ : ∃ zz_, zz_ = mu σ 31 0 ((22 * l) + 11) (V 7 l 6) := ⟨_, rfl⟩
    rw [← e_ρ8]
    have Sρ8 : SB t σ0 (mu V 7 l 15 (V 7 l 6)) ρ8 := by rw [e_ρ8, show ((22 * l) + 11) = 22 * l + 11 from by omega]; exact hR.1.p7 (by first | assumption | decide | exact xs_ (by decide) | exact xc_ (by decide) | exact x31_ (by decide) | omega) (by first | assumption | decide | exact xs_ (by decide) | exact xc_ (by decide) | exact x31_ (by decide) | omega) (by first | assumption | decide | exact xs_ (by decide) | exact xc_ (by decide) | exact x31_ (by decide) | omega)
    have Kρ8 : KF t (mu V 7 l 15 (V 7 l 6)) ρ8 := by rw [e_ρ8]; exact (hR.2.1).e (fun l a b => ⟨mu_ne (by first | assumption | decide | exact xs_ (by decide) | exact xc_ (by decide) | exact x31_ (by decide) | omega), mu_ne (by first | assumption | decide | exact xs_ (by decide) | exact xc_ (by decide) | exact x31_ (by decide) | omega)⟩) |>.v (fun l => mu_ne (by first | assumption | decide | exact xs_ (by decide) | exact xc_ (by decide) | exact x31_ (by decide) | omega))
    have Fρ8 : FB (mu V 7 l 15 (V 7 l 6)) ρ8 := by rw [e_ρ8]; exact (hR.2.2).e (fun l a b => mu_ne (by first | assumption | decide | exact xs_ (by decide) | exact xc_ (by decide) | exact x31_ (by decide) | omega)) |>.v (fun l y a b c => mu_ne (by first | assumption | decide | exact xs_ (by decide) | exact xc_ (by decide) | exact x31_ (by decide) | omega))
    clear e_ρ8
    refine y_vret hK rfl dX6_seeMost_27 ?_
    have e : (mu V 7 l 15 (max (V 7 l 15) (V 7 l 6))) = (mu V 7 l 15 (V 7 l 6)) := mu_eq (by first | assumption | decide | exact xs_ (by decide) | exact xc_ (by decide) | exact x31_ (by decide) | omega)
    rw [e] at k
    exact k _ ⟨Sρ8, Kρ8, Fρ8⟩
theorem y_behindCall {eb : Bool} {t : Int} {V : Mm} {d : Nat} {P : Option Vl → Mm → Prop} {σ : Mm} {l : Int} (b_l : 0 ≤ l ∧ l ≤ 3) {σ0 : Mm} (ht : 6 ≤ t ∧ t ≤ 7) (hR : RS t σ0 V σ) (hk : -1 ≤ V 13 l 0 ∧ V 13 l 0 ≤ 3) (hkl : V 13 l 0 ≠ l) (hm : ∀ x : Int, 0 ≤ x → x ≤ 3 → x ≠ l → x ≠ V 13 l 0 → V 7 x 6 ≤ V 7 x 15)  (k : ∀ ρ : Mm, RS t σ0 (ntM V) ρ → P (some (vI (V 7 l 6))) ρ) : WT (true, eb, true) (d + 4) 196 [vR 30 0, vI l] σ P := by
  refine WT_in fun K hK => ?_
  have hK : StpY (true, eb, true) cX6_behindCall RX6 (some .int) (WT (true, eb, true) (d + 3)) P K := hK
  have hM := hK.1
  have hC := hK.1.1
  show K 0 [some (vR 30 0), some (vI l)] [] σ
  refine r_aload_n hC dX6_behindCall_0 rfl ?_
  refine r_iload_n hC dX6_behindCall_1 rfl ?_
  refine z_inv1 hM dX6_behindCall_2 vl_RX6_236 rfl rfl rfl (Nat.le_of_ble_eq_true rfl) (Nat.le_of_ble_eq_true rfl) ?_
  refine y_seeMost (V := V) (l := l) (by first | assumption | decide | exact xs_ (by decide) | exact xc_ (by decide) | exact x31_ (by decide) | omega) ht ⟨hR.1, hR.2.1, hR.2.2⟩ (by first | assumption | decide | exact xs_ (by decide) | exact xc_ (by decide) | exact x31_ (by decide) | omega) (fun ρ1 Rρ1 => ?_)
  refine r_aload_n hC dX6_behindCall_5 rfl ?_
  refine z_getR hM dX6_behindCall_6 fl_RX6_52 rfl rfl (vld_of (n := 1) rfl (by first | assumption | decide | exact xs_ (by decide) | exact xc_ (by decide) | exact x31_ (by decide) | omega) (by first | assumption | decide | exact xs_ (by decide) | exact xc_ (by decide) | exact x31_ (by decide) | omega)) ?_
  refine r_iload_n hC dX6_behindCall_9 rfl ?_
  refine z_iald hM dX6_behindCall_10 rfl (by first | assumption | decide | exact xs_ (by decide) | exact xc_ (by decide) | exact x31_ (by decide) | omega) (by first | assumption | decide | exact xs_ (by decide) | exact xc_ (by decide) | exact x31_ (by decide) | omega) (fun v2 h_v2 o_v2 t_v2 => ?_)
  have w_v2 := ((t_v2 (Or.inl (by first | exact trivial | exact tb7_ (by decide) | simp [Tb]))).trans ((Rρ1.1.k0 (by first | assumption | decide | exact xs_ (by decide) | exact xc_ (by decide) | exact x31_ (by decide) | omega) (by first | assumption | decide | exact xs_ (by decide) | exact xc_ (by decide) | exact x31_ (by decide) | omega)).trans ((mu_ne (by first | assumption | decide | exact xs_ (by decide) | exact xc_ (by decide) | exact x31_ (by decide) | omega)).trans (rfl)))).symm
  clear t_v2
  subst w_v2
  have q_v2 : -1 ≤ (V 13 l 0) ∧ (V 13 l 0) ≤ 3 := o_v2
  refine r_if_lt (tgt := 24) hC dX6_behindCall_11 rfl (fun h3 => ?_) (fun h3 => ?_)
  · refine r_aload_n hC dX6_behindCall_24 rfl ?_
    refine r_iload_n hC dX6_behindCall_25 rfl ?_
    refine z_inv1 hM dX6_behindCall_26 vl_RX6_116 rfl rfl rfl (Nat.le_of_ble_eq_true rfl) (Nat.le_of_ble_eq_true rfl) ?_
    refine y_heldOf (by first | assumption | decide | exact xs_ (by decide) | exact xc_ (by decide) | exact x31_ (by decide) | omega) (fun o4 => ?_)
    have e5 : ρ1 31 0 (22 * l + 5) = (V 7 l 6) := (Rρ1.1.a7 (s := 6) (f := 5) (by first | assumption | decide | exact xs_ (by decide) | exact xc_ (by decide) | exact x31_ (by decide) | omega) (by first | assumption | decide | exact xs_ (by decide) | exact xc_ (by decide) | exact x31_ (by decide) | omega) (by first | assumption | decide | exact xs_ (by decide) | exact xc_ (by decide) | exact x31_ (by decide) | omega)).trans ((mu_ne (by first | assumption | decide | exact xs_ (by decide) | exact xc_ (by decide) | exact x31_ (by decide) | omega)).trans (rfl))
    rw [e5] at o4 ⊢
    have qo4 : 0 ≤ (V 7 l 6) ∧ (V 7 l 6) ≤ 121 := o4.1 (by first | assumption | decide | exact xs_ (by decide) | exact xc_ (by decide) | exact x31_ (by decide) | omega)
    refine y_iret hK rfl dX6_behindCall_29 ?_
    have e : ntM V = (mu V 7 l 15 (max (V 7 l 15) (V 7 l 6))) := by
      funext c x y
      unfold ntM
      by_cases q : c = 7 ∧ (0 ≤ x ∧ x ≤ 3) ∧ y = 15
      · obtain ⟨rfl, q1, rfl⟩ := q
        rw [if_pos ⟨rfl, q1, rfl⟩]
        by_cases ex : x = l
        · subst ex
          rw [mu_self]
        · rw [mu_ne (by first | assumption | decide | exact xs_ (by decide) | exact xc_ (by decide) | exact x31_ (by decide) | omega)]; have := hm x q1.1 q1.2 ex (by first | assumption | decide | exact xs_ (by decide) | exact xc_ (by decide) | exact x31_ (by decide) | omega); omega
      · rw [if_neg q, mu_ne (by first | assumption | decide | exact xs_ (by decide) | exact xc_ (by decide) | exact x31_ (by decide) | omega)]
    rw [e] at k
    rw [show V 7 l 6 = (V 7 l 6) from by omega] at k
    exact k _ ⟨Rρ1.1, Rρ1.2.1, Rρ1.2.2⟩
  · refine r_aload_n hC dX6_behindCall_14 rfl ?_
    refine r_aload_n hC dX6_behindCall_15 rfl ?_
    refine z_getR hM dX6_behindCall_16 fl_RX6_52 rfl rfl (vld_of (n := 1) rfl (by first | assumption | decide | exact xs_ (by decide) | exact xc_ (by decide) | exact x31_ (by decide) | omega) (by first | assumption | decide | exact xs_ (by decide) | exact xc_ (by decide) | exact x31_ (by decide) | omega)) ?_
    refine r_iload_n hC dX6_behindCall_19 rfl ?_
    refine z_iald hM dX6_behindCall_20 rfl (by first | assumption | decide | exact xs_ (by decide) | exact xc_ (by decide) | exact x31_ (by decide) | omega) (by first | assumption | decide | exact xs_ (by decide) | exact xc_ (by decide) | exact x31_ (by decide) | omega) (fun v6 h_v6 o_v6 t_v6 => ?_)
    have w_v6 := ((t_v6 (Or.inl (by first | exact trivial | exact tb7_ (by decide) | simp [Tb]))).trans ((Rρ1.1.k0 (by first | assumption | decide | exact xs_ (by decide) | exact xc_ (by decide) | exact x31_ (by decide) | omega) (by first | assumption | decide | exact xs_ (by decide) | exact xc_ (by decide) | exact x31_ (by decide) | omega)).trans ((mu_ne (by first | assumption | decide | exact xs_ (by decide) | exact xc_ (by decide) | exact x31_ (by decide) | omega)).trans (rfl)))).symm
    clear t_v6
    subst w_v6
    have q_v6 : -1 ≤ (V 13 l 0) ∧ (V 13 l 0) ≤ 3 := o_v6
    refine z_inv1 hM dX6_behindCall_21 vl_RX6_236 rfl rfl rfl (Nat.le_of_ble_eq_true rfl) (Nat.le_of_ble_eq_true rfl) ?_
    refine y_seeMost (V := (mu V 7 l 15 (max (V 7 l 15) (V 7 l 6)))) (l := (V 13 l 0)) (by first | assumption | decide | exact xs_ (by decide) | exact xc_ (by decide) | exact x31_ (by decide) | omega) ht ⟨Rρ1.1, Rρ1.2.1, Rρ1.2.2⟩ (by first | assumption | decide | exact xs_ (by decide) | exact xc_ (by decide) | exact x31_ (by decide) | omega) (fun ρ7 Rρ7 => ?_)
    clear Rρ1
    refine r_aload_n hC dX6_behindCall_24 rfl ?_
    refine r_iload_n hC dX6_behindCall_25 rfl ?_
    refine z_inv1 hM dX6_behindCall_26 vl_RX6_116 rfl rfl rfl (Nat.le_of_ble_eq_true rfl) (Nat.le_of_ble_eq_true rfl) ?_
    refine y_heldOf (by first | assumption | decide | exact xs_ (by decide) | exact xc_ (by decide) | exact x31_ (by decide) | omega) (fun o8 => ?_)
    have e9 : ρ7 31 0 (22 * l + 5) = (V 7 l 6) := (Rρ7.1.a7 (s := 6) (f := 5) (by first | assumption | decide | exact xs_ (by decide) | exact xc_ (by decide) | exact x31_ (by decide) | omega) (by first | assumption | decide | exact xs_ (by decide) | exact xc_ (by decide) | exact x31_ (by decide) | omega) (by first | assumption | decide | exact xs_ (by decide) | exact xc_ (by decide) | exact x31_ (by decide) | omega)).trans ((mu_ne (by first | assumption | decide | exact xs_ (by decide) | exact xc_ (by decide) | exact x31_ (by decide) | omega)).trans ((mu_ne (by first | assumption | decide | exact xs_ (by decide) | exact xc_ (by decide) | exact x31_ (by decide) | omega)).trans (rfl)))
    rw [e9] at o8 ⊢
    have qo8 : 0 ≤ (V 7 l 6) ∧ (V 7 l 6) ≤ 121 := o8.1 (by first | assumption | decide | exact xs_ (by decide) | exact xc_ (by decide) | exact x31_ (by decide) | omega)
    refine y_iret hK rfl dX6_behindCall_29 ?_
    have e : ntM V = (mu (mu V 7 l 15 (max (V 7 l 15) (V 7 l 6))) 7 (V 13 l 0) 15 (max ((mu V 7 l 15 (max (V 7 l 15) (V 7 l 6))) 7 (V 13 l 0) 15) ((mu V 7 l 15 (max (V 7 l 15) (V 7 l 6))) 7 (V 13 l 0) 6))) := by
      funext c x y
      unfold ntM
      by_cases q : c = 7 ∧ (0 ≤ x ∧ x ≤ 3) ∧ y = 15
      · obtain ⟨rfl, q1, rfl⟩ := q
        rw [if_pos ⟨rfl, q1, rfl⟩]
        by_cases ex : x = l
        · subst ex
          rw [mu_ne (by first | assumption | decide | exact xs_ (by decide) | exact xc_ (by decide) | exact x31_ (by decide) | omega), mu_self]
        · by_cases eo : x = V 13 l 0
          · subst eo
            rw [mu_self, mu_ne (by first | assumption | decide | exact xs_ (by decide) | exact xc_ (by decide) | exact x31_ (by decide) | omega), mu_ne (by first | assumption | decide | exact xs_ (by decide) | exact xc_ (by decide) | exact x31_ (by decide) | omega)]
          · rw [mu_ne (by first | assumption | decide | exact xs_ (by decide) | exact xc_ (by decide) | exact x31_ (by decide) | omega), mu_ne (by first | assumption | decide | exact xs_ (by decide) | exact xc_ (by decide) | exact x31_ (by decide) | omega)]; have := hm x q1.1 q1.2 ex eo; omega
      · rw [if_neg q, mu_ne (by first | assumption | decide | exact xs_ (by decide) | exact xc_ (by decide) | exact x31_ (by decide) | omega), mu_ne (by first | assumption | decide | exact xs_ (by decide) | exact xc_ (by decide) | exact x31_ (by decide) | omega)]
    rw [e] at k
    rw [show V 7 l 6 = (V 7 l 6) from by omega] at k
    exact k _ ⟨Rρ7.1, Rρ7.2.1, Rρ7.2.2⟩
-- B: the reference: the calls that move
theorem y_isLane {eb : Bool} {t : Int} {V : Mm} {d : Nat} {P : Option Vl → Mm → Prop} {σ : Mm} {l : Int}  {σ0 : Mm} (ht : 6 ≤ t ∧ t ≤ 7) (hR : RS t σ0 V σ)  (k1 : opV V l → P (some (vI 1)) σ) (k0 : ¬ opV V l → P (some (vI 0)) σ) : WT (true, eb, true) (d + 2) 137 [vR 30 0, vI l] σ P := by
  refine WT_in fun K hK => ?_
  have hK : StpY (true, eb, true) cX6_isLane RX6 (some .boolean) (WT (true, eb, true) (d + 1)) P K := hK
  have hM := hK.1
  have hC := hK.1.1
  show K 0 [some (vR 30 0), some (vI l)] [] σ
  refine r_rngz hC (fun g0 => ?_)
  have r_l : -2147483648 ≤ l ∧ l ≤ 2147483647 := inR_le (g0 (vI l) (by simp))
  refine r_iload_n hC dX6_isLane_0 rfl ?_
  refine r_iconst hC dX6_isLane_1 rfl ?_
  refine r_iconst hC dX6_isLane_2 rfl ?_
  refine z_ins3 hM dX6_isLane_3 tl_RX6_76 rfl (Nat.le_of_ble_eq_true rfl) (Nat.le_of_ble_eq_true rfl) ?_
  refine m_isIn (fun h2 => ?_) (fun h2 => ?_)
  · refine r_if_eq (tgt := 28) hC dX6_isLane_6 rfl (fun h3 => by omega) (fun h3 => ?_)
    refine r_aload_n hC dX6_isLane_9 rfl ?_
    refine z_getR hM dX6_isLane_10 fl_RX6_7 rfl rfl (vld_of (n := 1) rfl (by first | assumption | decide | exact xs_ (by decide) | exact xc_ (by decide) | exact x31_ (by decide) | omega) (by first | assumption | decide | exact xs_ (by decide) | exact xc_ (by decide) | exact x31_ (by decide) | omega)) ?_
    refine r_bipush hC dX6_isLane_13 rfl ?_
    refine r_iload_n hC dX6_isLane_15 rfl ?_
    refine r_imulE hC ((22 * l)) dX6_isLane_16 (by first | assumption | decide | exact xs_ (by decide) | exact xc_ (by decide) | exact x31_ (by decide) | omega) (by unfold inR; omega) ?_
    refine r_iconst hC dX6_isLane_17 rfl ?_
    refine r_iaddE hC ((22 * l)) dX6_isLane_18 (by first | assumption | decide | exact xs_ (by decide) | exact xc_ (by decide) | exact x31_ (by decide) | omega) (by unfold inR; omega) ?_
    refine z_iald hM dX6_isLane_19 rfl (by first | assumption | decide | exact xs_ (by decide) | exact xc_ (by decide) | exact x31_ (by decide) | omega) (by first | assumption | decide | exact xs_ (by decide) | exact xc_ (by decide) | exact x31_ (by decide) | omega) (fun v4 h_v4 o_v4 t_v4 => ?_)
    have w_v4 := ((t_v4 (Or.inl (by simp only [Tb]; omega))).trans ((show σ 31 0 (22 * l) = V 7 l 1 from by rw [show (22 * l) = 22 * l + 0 from by omega]; exact hR.1.a7 (s := 1) (f := 0) (by first | assumption | decide | exact xs_ (by decide) | exact xc_ (by decide) | exact x31_ (by decide) | omega) (by first | assumption | decide | exact xs_ (by decide) | exact xc_ (by decide) | exact x31_ (by decide) | omega) (by first | assumption | decide | exact xs_ (by decide) | exact xc_ (by decide) | exact x31_ (by decide) | omega)).trans (rfl))).symm
    subst w_v4
    have q_v4 : 0 ≤ (V 7 l 1) ∧ (V 7 l 1) ≤ 1 := by have := o_v4.2 (by first | assumption | decide | exact xs_ (by decide) | exact xc_ (by decide) | exact x31_ (by decide) | omega); omega
    refine r_iconst hC dX6_isLane_20 rfl ?_
    refine r_icmp_ne (tgt := 28) hC dX6_isLane_21 rfl (fun h5 => ?_) (fun h5 => ?_)
    · refine r_iconst hC dX6_isLane_28 rfl ?_
      refine y_zret hK rfl dX6_isLane_29 (by first | assumption | decide | exact xs_ (by decide) | exact xc_ (by decide) | exact x31_ (by decide) | omega) ?_
      exact k0 (by unfold opV; omega)
    · refine r_iconst hC dX6_isLane_24 rfl ?_
      refine r_goto (tgt := 29) hC dX6_isLane_25 rfl ?_
      refine y_zret hK rfl dX6_isLane_29 (by first | assumption | decide | exact xs_ (by decide) | exact xc_ (by decide) | exact x31_ (by decide) | omega) ?_
      exact k1 (by unfold opV; omega)
  · refine r_if_eq (tgt := 28) hC dX6_isLane_6 rfl (fun h6 => ?_) (fun h6 => by omega)
    refine r_iconst hC dX6_isLane_28 rfl ?_
    refine y_zret hK rfl dX6_isLane_29 (by first | assumption | decide | exact xs_ (by decide) | exact xc_ (by decide) | exact x31_ (by decide) | omega) ?_
    exact k0 (by unfold opV; omega)
theorem y_come {eb : Bool} {t : Int} {V : Mm} {d : Nat} {P : Option Vl → Mm → Prop} {σ : Mm} {l z v : Int}  {σ0 : Mm} (ht : 6 ≤ t ∧ t ≤ 7) (hR : RS t σ0 V σ) (hG : GI V)  (k : ∀ ρ : Mm, RS t σ0 (coM V l z v) ρ → P (some (vI (coR V l z v))) ρ) : WT (true, eb, true) (d + 11) 205 [vR 30 0, vI l, vI z, vI v] σ P := by
  refine WT_in fun K hK => ?_
  have hK : StpY (true, eb, true) cX6_come RX6 (some .int) (WT (true, eb, true) (d + 10)) P K := hK
  have hM := hK.1
  have hC := hK.1.1
  show K 0 [some (vR 30 0), some (vI l), some (vI z), some (vI v)] [] σ
  refine r_rngz hC (fun g0 => ?_)
  have r_l : -2147483648 ≤ l ∧ l ≤ 2147483647 := inR_le (g0 (vI l) (by simp))
  have r_z : -2147483648 ≤ z ∧ z ≤ 2147483647 := inR_le (g0 (vI z) (by simp))
  have r_v : -2147483648 ≤ v ∧ v ≤ 2147483647 := inR_le (g0 (vI v) (by simp))
  refine r_aload_n hC dX6_come_0 rfl ?_
  refine r_iload_n hC dX6_come_1 rfl ?_
  refine z_inv1 hM dX6_come_2 vl_RX6_124 rfl rfl rfl (Nat.le_of_ble_eq_true rfl) (Nat.le_of_ble_eq_true rfl) ?_
  refine y_isLane (V := V) ht ⟨hR.1, hR.2.1, hR.2.2⟩ (fun h1 => ?_) (fun h1 => ?_)
  · unfold opV at h1
    refine r_if_eq (tgt := 31) hC dX6_come_5 rfl (fun h2 => by omega) (fun h2 => ?_)
    have h6 := hG.1.h7 (l := l) (by first | assumption | decide | exact xs_ (by decide) | exact xc_ (by decide) | exact x31_ (by decide) | omega) (by first | assumption | decide | exact xs_ (by decide) | exact xc_ (by decide) | exact x31_ (by decide) | omega)
    have h10 := hG.2.1.2.1 l (by first | assumption | decide | exact xs_ (by decide) | exact xc_ (by decide) | exact x31_ (by decide) | omega) (by first | assumption | decide | exact xs_ (by decide) | exact xc_ (by decide) | exact x31_ (by decide) | omega)
    have hlk := hG.2.1.2.2.2.2.2.1 l (by first | assumption | decide | exact xs_ (by decide) | exact xc_ (by decide) | exact x31_ (by decide) | omega) (by first | assumption | decide | exact xs_ (by decide) | exact xc_ (by decide) | exact x31_ (by decide) | omega)
    unfold opV at hlk
    have hk13 : -1 ≤ V 13 l 0 ∧ V 13 l 0 ≤ 3 := by omega
    have hkn := hG.1.2.2.2 l (by first | assumption | decide | exact xs_ (by decide) | exact xc_ (by decide) | exact x31_ (by decide) | omega) (by first | assumption | decide | exact xs_ (by decide) | exact xc_ (by decide) | exact x31_ (by decide) | omega)
    refine r_iload_n hC dX6_come_8 rfl ?_
    refine r_iconst hC dX6_come_9 rfl ?_
    refine r_ldc hC dX6_come_10 co_RX6_239 rfl ?_
    refine z_ins3 hM dX6_come_12 tl_RX6_76 rfl (Nat.le_of_ble_eq_true rfl) (Nat.le_of_ble_eq_true rfl) ?_
    refine m_isIn (fun h4 => ?_) (fun h4 => ?_)
    · refine r_if_eq (tgt := 31) hC dX6_come_15 rfl (fun h5 => by omega) (fun h5 => ?_)
      refine r_iload_n hC dX6_come_18 rfl ?_
      refine r_sipush hC dX6_come_19 rfl ?_
      refine r_sipush hC dX6_come_22 rfl ?_
      refine z_ins3 hM dX6_come_25 tl_RX6_76 rfl (Nat.le_of_ble_eq_true rfl) (Nat.le_of_ble_eq_true rfl) ?_
      refine m_isIn (fun h7 => ?_) (fun h7 => ?_)
      · refine r_if_ne (tgt := 33) hC dX6_come_28 rfl (fun h8 => ?_) (fun h8 => by omega)
        have hnl : V 7 l 10 = -1 → ¬ z < wr (V 7 l 10 - V 7 l 5) := fun q => lt_neg q (by first | assumption | decide | exact xs_ (by decide) | exact xc_ (by decide) | exact x31_ (by decide) | omega) (by first | assumption | decide | exact xs_ (by decide) | exact xc_ (by decide) | exact x31_ (by decide) | omega)
        refine r_aload_n hC dX6_come_33 rfl ?_
        refine r_iload_n hC dX6_come_34 rfl ?_
        refine r_iload_n hC dX6_come_35 rfl ?_
        refine z_inv2 hM dX6_come_36 vl_RX6_247 rfl rfl rfl (Nat.le_of_ble_eq_true rfl) (Nat.le_of_ble_eq_true rfl) ?_
        refine y_isLost (V := V) (by first | assumption | decide | exact xs_ (by decide) | exact xc_ (by decide) | exact x31_ (by decide) | omega) ht ⟨hR.1, hR.2.1, hR.2.2⟩ (by first | assumption | decide | exact xs_ (by decide) | exact xc_ (by decide) | exact x31_ (by decide) | omega) (fun h9 => ?_) (fun h9 => ?_)
        · refine r_if_eq (tgt := 53) hC dX6_come_39 rfl (fun h10 => by omega) (fun h10 => ?_)
          refine r_aload_n hC dX6_come_42 rfl ?_
          refine r_iload_n hC dX6_come_43 rfl ?_
          refine r_bipush hC dX6_come_44 rfl ?_
          refine r_iconst hC dX6_come_46 rfl ?_
          refine z_inv3 hM dX6_come_47 vl_RX6_188 rfl rfl rfl (Nat.le_of_ble_eq_true rfl) (Nat.le_of_ble_eq_true rfl) ?_
          refine y_moreG (by first | assumption | decide | exact xs_ (by decide) | exact xc_ (by decide) | exact x31_ (by decide) | omega) ?_
          refine r_bipush hC dX6_come_50 rfl ?_
          refine y_iret hK rfl dX6_come_52 ?_
          have hM : coM V l z v = V := by
            unfold coM
            first | exact if_pos (by first | assumption | decide | exact xs_ (by decide) | exact xc_ (by decide) | exact x31_ (by decide) | omega) | exact if_neg (by first | assumption | decide | exact xs_ (by decide) | exact xc_ (by decide) | exact x31_ (by decide) | omega)
          have hRr : coR V l z v = (-2) := by
            unfold coR
            first | (rw [if_pos (by first | assumption | decide | exact xs_ (by decide) | exact xc_ (by decide) | exact x31_ (by decide) | omega)]; done) | (rw [if_neg (by first | assumption | decide | exact xs_ (by decide) | exact xc_ (by decide) | exact x31_ (by decide) | omega), if_pos (by first | assumption | decide | exact xs_ (by decide) | exact xc_ (by decide) | exact x31_ (by decide) | omega)]; done) | (rw [if_neg (by first | assumption | decide | exact xs_ (by decide) | exact xc_ (by decide) | exact x31_ (by decide) | omega), if_neg (by first | assumption | decide | exact xs_ (by decide) | exact xc_ (by decide) | exact x31_ (by decide) | omega), if_pos (by first | assumption | decide | exact xs_ (by decide) | exact xc_ (by decide) | exact x31_ (by decide) | omega)]; done) | (rw [if_neg (by first | assumption | decide | exact xs_ (by decide) | exact xc_ (by decide) | exact x31_ (by decide) | omega), if_neg (by first | assumption | decide | exact xs_ (by decide) | exact xc_ (by decide) | exact x31_ (by decide) | omega), if_neg (by first | assumption | decide | exact xs_ (by decide) | exact xc_ (by decide) | exact x31_ (by decide) | omega), hM]; exact ntM_ne (by first | assumption | decide | exact xs_ (by decide) | exact xc_ (by decide) | exact x31_ (by decide) | omega))
          rw [hM] at k
          rw [hRr] at k
          exact k _ ⟨hR.1, hR.2.1, hR.2.2⟩
        · refine r_if_eq (tgt := 53) hC dX6_come_39 rfl (fun h11 => ?_) (fun h11 => by omega)
          refine r_aload_n hC dX6_come_53 rfl ?_
          refine r_iload_n hC dX6_come_54 rfl ?_
          refine z_inv1 hM dX6_come_55 vl_RX6_250 rfl rfl rfl (Nat.le_of_ble_eq_true rfl) (Nat.le_of_ble_eq_true rfl) ?_
          refine y_isFull (V := V) (by first | assumption | decide | exact xs_ (by decide) | exact xc_ (by decide) | exact x31_ (by decide) | omega) ht ⟨hR.1, hR.2.1, hR.2.2⟩ (by first | assumption | decide | exact xs_ (by decide) | exact xc_ (by decide) | exact x31_ (by decide) | omega) (fun h12 => ?_) (fun h12 => ?_)
          · refine r_if_eq (tgt := 63) hC dX6_come_58 rfl (fun h13 => by omega) (fun h13 => ?_)
            refine r_iconst hC dX6_come_61 rfl ?_
            refine y_iret hK rfl dX6_come_62 ?_
            have hM : coM V l z v = V := by
              unfold coM
              first | exact if_pos (by first | assumption | decide | exact xs_ (by decide) | exact xc_ (by decide) | exact x31_ (by decide) | omega) | exact if_neg (by first | assumption | decide | exact xs_ (by decide) | exact xc_ (by decide) | exact x31_ (by decide) | omega)
            have hRr : coR V l z v = (-1) := by
              unfold coR
              first | (rw [if_pos (by first | assumption | decide | exact xs_ (by decide) | exact xc_ (by decide) | exact x31_ (by decide) | omega)]; done) | (rw [if_neg (by first | assumption | decide | exact xs_ (by decide) | exact xc_ (by decide) | exact x31_ (by decide) | omega), if_pos (by first | assumption | decide | exact xs_ (by decide) | exact xc_ (by decide) | exact x31_ (by decide) | omega)]; done) | (rw [if_neg (by first | assumption | decide | exact xs_ (by decide) | exact xc_ (by decide) | exact x31_ (by decide) | omega), if_neg (by first | assumption | decide | exact xs_ (by decide) | exact xc_ (by decide) | exact x31_ (by decide) | omega), if_pos (by first | assumption | decide | exact xs_ (by decide) | exact xc_ (by decide) | exact x31_ (by decide) | omega)]; done) | (rw [if_neg (by first | assumption | decide | exact xs_ (by decide) | exact xc_ (by decide) | exact x31_ (by decide) | omega), if_neg (by first | assumption | decide | exact xs_ (by decide) | exact xc_ (by decide) | exact x31_ (by decide) | omega), if_neg (by first | assumption | decide | exact xs_ (by decide) | exact xc_ (by decide) | exact x31_ (by decide) | omega), hM]; exact ntM_ne (by first | assumption | decide | exact xs_ (by decide) | exact xc_ (by decide) | exact x31_ (by decide) | omega))
            rw [hM] at k
            rw [hRr] at k
            exact k _ ⟨hR.1, hR.2.1, hR.2.2⟩
          · refine r_if_eq (tgt := 63) hC dX6_come_58 rfl (fun h14 => ?_) (fun h14 => by omega)
            refine r_aload_n hC dX6_come_63 rfl ?_
            refine r_iload_n hC dX6_come_64 rfl ?_
            refine r_iload_n hC dX6_come_65 rfl ?_
            refine z_inv2 hM dX6_come_66 vl_RX6_256 rfl rfl rfl (Nat.le_of_ble_eq_true rfl) (Nat.le_of_ble_eq_true rfl) ?_
            refine y_give (V := V) (by first | assumption | decide | exact xs_ (by decide) | exact xc_ (by decide) | exact x31_ (by decide) | omega) (by first | assumption | decide | exact xs_ (by decide) | exact xc_ (by decide) | exact x31_ (by decide) | omega) ht ⟨hR.1, hR.2.1, hR.2.2⟩ hG.1 hG.2.1 (fun ρ15 Rρ15 => ?_)
            refine r_aload_n hC dX6_come_69 rfl ?_
            refine r_iload_n hC dX6_come_70 rfl ?_
            refine r_iload_n hC dX6_come_71 rfl ?_
            refine r_iload_n hC dX6_come_72 rfl ?_
            refine z_inv3 hM dX6_come_73 vl_RX6_253 rfl rfl rfl (Nat.le_of_ble_eq_true rfl) (Nat.le_of_ble_eq_true rfl) ?_
            have u3_73 : (gvM V l z) 7 l 3 = (V 7 l 3) := ((gv_7 hG.1 (by first | assumption | decide | exact xs_ (by decide) | exact xc_ (by decide) | exact x31_ (by decide) | omega) (by first | assumption | decide | exact xs_ (by decide) | exact xc_ (by decide) | exact x31_ (by decide) | omega)).trans (rfl))
            have u6_73 : (gvM V l z) 7 l 6 = (V 7 l 6) := ((gv_7 hG.1 (by first | assumption | decide | exact xs_ (by decide) | exact xc_ (by decide) | exact x31_ (by decide) | omega) (by first | assumption | decide | exact xs_ (by decide) | exact xc_ (by decide) | exact x31_ (by decide) | omega)).trans (rfl))
            have nf_73 : ¬ fuV (gvM V l z) l := by unfold fuV; omega
            have c_73 : CI (gvM V l z) := (CI.gv hG.1)
            have j_73 : GJ (gvM V l z) := (GJ.gv hG.2.1 hG.1 (by first | assumption | decide | exact xs_ (by decide) | exact xc_ (by decide) | exact x31_ (by decide) | omega) (by first | assumption | decide | exact xs_ (by decide) | exact xc_ (by decide) | exact x31_ (by decide) | omega))
            refine y_enter (V := (gvM V l z)) (l := l) (z := z) (v := v) (by first | assumption | decide | exact xs_ (by decide) | exact xc_ (by decide) | exact x31_ (by decide) | omega) (by first | assumption | decide | exact xs_ (by decide) | exact xc_ (by decide) | exact x31_ (by decide) | omega) (by first | assumption | decide | exact xs_ (by decide) | exact xc_ (by decide) | exact x31_ (by decide) | omega) ht ⟨Rρ15.1, Rρ15.2.1, Rρ15.2.2⟩ (by first | assumption | decide | exact xs_ (by decide) | exact xc_ (by decide) | exact x31_ (by decide) | omega) (j_73.lk c_73 (by first | assumption | decide | exact xs_ (by decide) | exact xc_ (by decide) | exact x31_ (by decide) | omega) (by first | assumption | decide | exact xs_ (by decide) | exact xc_ (by decide) | exact x31_ (by decide) | omega)) (c_73.2.1 l (by first | assumption | decide | exact xs_ (by decide) | exact xc_ (by decide) | exact x31_ (by decide) | omega) (by first | assumption | decide | exact xs_ (by decide) | exact xc_ (by decide) | exact x31_ (by decide) | omega)) (j_73.1 l (by first | assumption | decide | exact xs_ (by decide) | exact xc_ (by decide) | exact x31_ (by decide) | omega) (by first | assumption | decide | exact xs_ (by decide) | exact xc_ (by decide) | exact x31_ (by decide) | omega)) (c_73.h7 (by first | assumption | decide | exact xs_ (by decide) | exact xc_ (by decide) | exact x31_ (by decide) | omega) (by first | assumption | decide | exact xs_ (by decide) | exact xc_ (by decide) | exact x31_ (by decide) | omega)).2 (fun q => by have := c_73.size (i := l) (by first | assumption | decide | exact xs_ (by decide) | exact xc_ (by decide) | exact x31_ (by decide) | omega) (by first | assumption | decide | exact xs_ (by decide) | exact xc_ (by decide) | exact x31_ (by decide) | omega) q; omega) (fun ρ16 Rρ16 => ?_)
            refine r_aload_n hC dX6_come_76 rfl ?_
            refine r_iload_n hC dX6_come_77 rfl ?_
            refine z_inv1 hM dX6_come_78 vl_RX6_259 rfl rfl rfl (Nat.le_of_ble_eq_true rfl) (Nat.le_of_ble_eq_true rfl) ?_
            have e13 : (plM (gvM V l z) l z v) 13 l 0 = V 13 l 0 := (plM_nx (by unfold PS; omega)).trans (gvM_nx (by unfold PS; omega) (by first | assumption | decide | exact xs_ (by decide) | exact xc_ (by decide) | exact x31_ (by decide) | omega))
            have hms : ∀ x : Int, 0 ≤ x → x ≤ 3 → x ≠ l → x ≠ V 13 l 0 → (plM (gvM V l z) l z v) 7 x 6 ≤ (plM (gvM V l z) l z v) 7 x 15 := fun x a b c d => by
              rw [plM_nx (by unfold PS; omega), plM_nx (by unfold PS; omega), gvM_nx (by unfold PS; omega) (by first | assumption | decide | exact xs_ (by decide) | exact xc_ (by decide) | exact x31_ (by decide) | omega), gvM_nx (by unfold PS; omega) (by first | assumption | decide | exact xs_ (by decide) | exact xc_ (by decide) | exact x31_ (by decide) | omega)]
              exact hG.2.2 x a (by first | assumption | decide | exact xs_ (by decide) | exact xc_ (by decide) | exact x31_ (by decide) | omega)
            refine y_behindCall (V := (plM (gvM V l z) l z v)) (by first | assumption | decide | exact xs_ (by decide) | exact xc_ (by decide) | exact x31_ (by decide) | omega) ht ⟨Rρ16.1, Rρ16.2.1, Rρ16.2.2⟩ (by rw [e13]; omega) (by rw [e13]; omega) (fun x a b c d => hms x a b c (by rw [e13] at d; exact d)) (fun ρ17 Rρ17 => ?_)
            refine y_iret hK rfl dX6_come_81 ?_
            have hM : coM V l z v = (ntM (plM (gvM V l z) l z v)) := by
              unfold coM
              first | exact if_pos (by first | assumption | decide | exact xs_ (by decide) | exact xc_ (by decide) | exact x31_ (by decide) | omega) | exact if_neg (by first | assumption | decide | exact xs_ (by decide) | exact xc_ (by decide) | exact x31_ (by decide) | omega)
            have hRr : coR V l z v = ((plM (gvM V l z) l z v) 7 l 6) := by
              unfold coR
              first | (rw [if_pos (by first | assumption | decide | exact xs_ (by decide) | exact xc_ (by decide) | exact x31_ (by decide) | omega)]; done) | (rw [if_neg (by first | assumption | decide | exact xs_ (by decide) | exact xc_ (by decide) | exact x31_ (by decide) | omega), if_pos (by first | assumption | decide | exact xs_ (by decide) | exact xc_ (by decide) | exact x31_ (by decide) | omega)]; done) | (rw [if_neg (by first | assumption | decide | exact xs_ (by decide) | exact xc_ (by decide) | exact x31_ (by decide) | omega), if_neg (by first | assumption | decide | exact xs_ (by decide) | exact xc_ (by decide) | exact x31_ (by decide) | omega), if_pos (by first | assumption | decide | exact xs_ (by decide) | exact xc_ (by decide) | exact x31_ (by decide) | omega)]; done) | (rw [if_neg (by first | assumption | decide | exact xs_ (by decide) | exact xc_ (by decide) | exact x31_ (by decide) | omega), if_neg (by first | assumption | decide | exact xs_ (by decide) | exact xc_ (by decide) | exact x31_ (by decide) | omega), if_neg (by first | assumption | decide | exact xs_ (by decide) | exact xc_ (by decide) | exact x31_ (by decide) | omega), hM]; exact ntM_ne (by first | assumption | decide | exact xs_ (by decide) | exact xc_ (by decide) | exact x31_ (by decide) | omega))
            rw [hM] at k
            rw [hRr] at k
            exact k _ ⟨Rρ17.1, Rρ17.2.1, Rρ17.2.2⟩
      · refine r_if_ne (tgt := 33) hC dX6_come_28 rfl (fun h18 => by omega) (fun h18 => ?_)
        refine r_iconst hC dX6_come_31 rfl ?_
        refine y_iret hK rfl dX6_come_32 ?_
        have hM : coM V l z v = V := by
          unfold coM
          first | exact if_pos (by first | assumption | decide | exact xs_ (by decide) | exact xc_ (by decide) | exact x31_ (by decide) | omega) | exact if_neg (by first | assumption | decide | exact xs_ (by decide) | exact xc_ (by decide) | exact x31_ (by decide) | omega)
        have hRr : coR V l z v = (-1) := by
          unfold coR
          first | (rw [if_pos (by first | assumption | decide | exact xs_ (by decide) | exact xc_ (by decide) | exact x31_ (by decide) | omega)]; done) | (rw [if_neg (by first | assumption | decide | exact xs_ (by decide) | exact xc_ (by decide) | exact x31_ (by decide) | omega), if_pos (by first | assumption | decide | exact xs_ (by decide) | exact xc_ (by decide) | exact x31_ (by decide) | omega)]; done) | (rw [if_neg (by first | assumption | decide | exact xs_ (by decide) | exact xc_ (by decide) | exact x31_ (by decide) | omega), if_neg (by first | assumption | decide | exact xs_ (by decide) | exact xc_ (by decide) | exact x31_ (by decide) | omega), if_pos (by first | assumption | decide | exact xs_ (by decide) | exact xc_ (by decide) | exact x31_ (by decide) | omega)]; done) | (rw [if_neg (by first | assumption | decide | exact xs_ (by decide) | exact xc_ (by decide) | exact x31_ (by decide) | omega), if_neg (by first | assumption | decide | exact xs_ (by decide) | exact xc_ (by decide) | exact x31_ (by decide) | omega), if_neg (by first | assumption | decide | exact xs_ (by decide) | exact xc_ (by decide) | exact x31_ (by decide) | omega), hM]; exact ntM_ne (by first | assumption | decide | exact xs_ (by decide) | exact xc_ (by decide) | exact x31_ (by decide) | omega))
        rw [hM] at k
        rw [hRr] at k
        exact k _ ⟨hR.1, hR.2.1, hR.2.2⟩
    · refine r_if_eq (tgt := 31) hC dX6_come_15 rfl (fun h19 => ?_) (fun h19 => by omega)
      refine r_iconst hC dX6_come_31 rfl ?_
      refine y_iret hK rfl dX6_come_32 ?_
      have hM : coM V l z v = V := by
        unfold coM
        first | exact if_pos (by first | assumption | decide | exact xs_ (by decide) | exact xc_ (by decide) | exact x31_ (by decide) | omega) | exact if_neg (by first | assumption | decide | exact xs_ (by decide) | exact xc_ (by decide) | exact x31_ (by decide) | omega)
      have hRr : coR V l z v = (-1) := by
        unfold coR
        first | (rw [if_pos (by first | assumption | decide | exact xs_ (by decide) | exact xc_ (by decide) | exact x31_ (by decide) | omega)]; done) | (rw [if_neg (by first | assumption | decide | exact xs_ (by decide) | exact xc_ (by decide) | exact x31_ (by decide) | omega), if_pos (by first | assumption | decide | exact xs_ (by decide) | exact xc_ (by decide) | exact x31_ (by decide) | omega)]; done) | (rw [if_neg (by first | assumption | decide | exact xs_ (by decide) | exact xc_ (by decide) | exact x31_ (by decide) | omega), if_neg (by first | assumption | decide | exact xs_ (by decide) | exact xc_ (by decide) | exact x31_ (by decide) | omega), if_pos (by first | assumption | decide | exact xs_ (by decide) | exact xc_ (by decide) | exact x31_ (by decide) | omega)]; done) | (rw [if_neg (by first | assumption | decide | exact xs_ (by decide) | exact xc_ (by decide) | exact x31_ (by decide) | omega), if_neg (by first | assumption | decide | exact xs_ (by decide) | exact xc_ (by decide) | exact x31_ (by decide) | omega), if_neg (by first | assumption | decide | exact xs_ (by decide) | exact xc_ (by decide) | exact x31_ (by decide) | omega), hM]; exact ntM_ne (by first | assumption | decide | exact xs_ (by decide) | exact xc_ (by decide) | exact x31_ (by decide) | omega))
      rw [hM] at k
      rw [hRr] at k
      exact k _ ⟨hR.1, hR.2.1, hR.2.2⟩
  · unfold opV at h1
    refine r_if_eq (tgt := 31) hC dX6_come_5 rfl (fun h20 => ?_) (fun h20 => by omega)
    refine r_iconst hC dX6_come_31 rfl ?_
    refine y_iret hK rfl dX6_come_32 ?_
    have hM : coM V l z v = V := by
      unfold coM
      first | exact if_pos (by first | assumption | decide | exact xs_ (by decide) | exact xc_ (by decide) | exact x31_ (by decide) | omega) | exact if_neg (by first | assumption | decide | exact xs_ (by decide) | exact xc_ (by decide) | exact x31_ (by decide) | omega)
    have hRr : coR V l z v = (-1) := by
      unfold coR
      first | (rw [if_pos (by first | assumption | decide | exact xs_ (by decide) | exact xc_ (by decide) | exact x31_ (by decide) | omega)]; done) | (rw [if_neg (by first | assumption | decide | exact xs_ (by decide) | exact xc_ (by decide) | exact x31_ (by decide) | omega), if_pos (by first | assumption | decide | exact xs_ (by decide) | exact xc_ (by decide) | exact x31_ (by decide) | omega)]; done) | (rw [if_neg (by first | assumption | decide | exact xs_ (by decide) | exact xc_ (by decide) | exact x31_ (by decide) | omega), if_neg (by first | assumption | decide | exact xs_ (by decide) | exact xc_ (by decide) | exact x31_ (by decide) | omega), if_pos (by first | assumption | decide | exact xs_ (by decide) | exact xc_ (by decide) | exact x31_ (by decide) | omega)]; done) | (rw [if_neg (by first | assumption | decide | exact xs_ (by decide) | exact xc_ (by decide) | exact x31_ (by decide) | omega), if_neg (by first | assumption | decide | exact xs_ (by decide) | exact xc_ (by decide) | exact x31_ (by decide) | omega), if_neg (by first | assumption | decide | exact xs_ (by decide) | exact xc_ (by decide) | exact x31_ (by decide) | omega), hM]; exact ntM_ne (by first | assumption | decide | exact xs_ (by decide) | exact xc_ (by decide) | exact x31_ (by decide) | omega))
    rw [hM] at k
    rw [hRr] at k
    exact k _ ⟨hR.1, hR.2.1, hR.2.2⟩
-- B: the reference: burst, leave, until, take, alter
theorem y_burst {eb : Bool} {t : Int} {V : Mm} {d : Nat} {P : Option Vl → Mm → Prop} {σ : Mm} {l m v z : Int}  {σ0 : Mm} (ht : 6 ≤ t ∧ t ≤ 7) (hR : RS t σ0 V σ) (hG : GI V)  (k : ∀ ρ : Mm, RS t σ0 (buM V l m v z) ρ → P (some (vI (buR V l m v z))) ρ) : WT (true, eb, true) (d + 11) 206 [vR 30 0, vI l, vI m, vI v, vI z] σ P := by
  refine WT_in fun K hK => ?_
  have hK : StpY (true, eb, true) cX6_burst RX6 (some .int) (WT (true, eb, true) (d + 10)) P K := hK
  have hM := hK.1
  have hC := hK.1.1
  show K 0 [some (vR 30 0), some (vI l), some (vI m), some (vI v), some (vI z), none, none] [] σ
  refine r_rngz hC (fun g0 => ?_)
  have r_l : -2147483648 ≤ l ∧ l ≤ 2147483647 := inR_le (g0 (vI l) (by simp))
  have r_m : -2147483648 ≤ m ∧ m ≤ 2147483647 := inR_le (g0 (vI m) (by simp))
  have r_v : -2147483648 ≤ v ∧ v ≤ 2147483647 := inR_le (g0 (vI v) (by simp))
  have r_z : -2147483648 ≤ z ∧ z ≤ 2147483647 := inR_le (g0 (vI z) (by simp))
  refine r_aload_n hC dX6_burst_0 rfl ?_
  refine r_iload_n hC dX6_burst_1 rfl ?_
  refine z_inv1 hM dX6_burst_2 vl_RX6_124 rfl rfl rfl (Nat.le_of_ble_eq_true rfl) (Nat.le_of_ble_eq_true rfl) ?_
  refine y_isLane (V := V) ht ⟨hR.1, hR.2.1, hR.2.2⟩ (fun h1 => ?_) (fun h1 => ?_)
  · unfold opV at h1
    refine r_if_eq (tgt := 32) hC dX6_burst_5 rfl (fun h2 => by omega) (fun h2 => ?_)
    have h6 := hG.1.h7 (l := l) (by first | assumption | decide | exact xs_ (by decide) | exact xc_ (by decide) | exact x31_ (by decide) | omega) (by first | assumption | decide | exact xs_ (by decide) | exact xc_ (by decide) | exact x31_ (by decide) | omega)
    have h10 := hG.2.1.2.1 l (by first | assumption | decide | exact xs_ (by decide) | exact xc_ (by decide) | exact x31_ (by decide) | omega) (by first | assumption | decide | exact xs_ (by decide) | exact xc_ (by decide) | exact x31_ (by decide) | omega)
    have hlk := hG.2.1.2.2.2.2.2.1 l (by first | assumption | decide | exact xs_ (by decide) | exact xc_ (by decide) | exact x31_ (by decide) | omega) (by first | assumption | decide | exact xs_ (by decide) | exact xc_ (by decide) | exact x31_ (by decide) | omega)
    unfold opV at hlk
    have hk13 : -1 ≤ V 13 l 0 ∧ V 13 l 0 ≤ 3 := by omega
    have hkn := hG.1.2.2.2 l (by first | assumption | decide | exact xs_ (by decide) | exact xc_ (by decide) | exact x31_ (by decide) | omega) (by first | assumption | decide | exact xs_ (by decide) | exact xc_ (by decide) | exact x31_ (by decide) | omega)
    have ew : -40 ≤ m → m ≤ 41 → wr (V 7 l 10 + m) = V 7 l 10 + m := fun a b => wr_id ⟨by omega, by omega⟩
    have ecm1 := Int.mul_comm z (m - 1)
    refine r_iload_n hC dX6_burst_8 rfl ?_
    refine r_iconst hC dX6_burst_9 rfl ?_
    refine r_bipush hC dX6_burst_10 rfl ?_
    refine z_ins3 hM dX6_burst_12 tl_RX6_76 rfl (Nat.le_of_ble_eq_true rfl) (Nat.le_of_ble_eq_true rfl) ?_
    refine m_isIn (fun h4 => ?_) (fun h4 => ?_)
    · refine r_if_eq (tgt := 32) hC dX6_burst_15 rfl (fun h5 => by omega) (fun h5 => ?_)
      refine r_iload hC dX6_burst_18 rfl ?_
      refine r_sipush hC dX6_burst_20 rfl ?_
      refine r_sipush hC dX6_burst_23 rfl ?_
      refine z_ins3 hM dX6_burst_26 tl_RX6_76 rfl (Nat.le_of_ble_eq_true rfl) (Nat.le_of_ble_eq_true rfl) ?_
      refine m_isIn (fun h7 => ?_) (fun h7 => ?_)
      · refine r_if_ne (tgt := 34) hC dX6_burst_29 rfl (fun h8 => ?_) (fun h8 => by omega)
        refine r_iload_n hC dX6_burst_34 rfl ?_
        refine r_sipush hC dX6_burst_35 rfl ?_
        refine r_sipush hC dX6_burst_38 rfl ?_
        refine z_ins3 hM dX6_burst_41 tl_RX6_76 rfl (Nat.le_of_ble_eq_true rfl) (Nat.le_of_ble_eq_true rfl) ?_
        refine m_isIn (fun h10 => ?_) (fun h10 => ?_)
        · refine r_if_eq (tgt := 81) hC dX6_burst_44 rfl (fun h11 => by omega) (fun h11 => ?_)
          refine r_iload_n hC dX6_burst_47 rfl ?_
          refine r_iload hC dX6_burst_48 rfl ?_
          refine r_iload_n hC dX6_burst_50 rfl ?_
          refine r_iconst hC dX6_burst_51 rfl ?_
          refine r_isubE hC ((m - 1)) dX6_burst_52 (by first | assumption | decide | exact xs_ (by decide) | exact xc_ (by decide) | exact x31_ (by decide) | omega) (by unfold inR; omega) ?_
          have m12 := mul_bd2 (a := (m - 1)) (b := z) (A := 39) (B := 1000) (by first | assumption | decide | exact xs_ (by decide) | exact xc_ (by decide) | exact x31_ (by decide) | omega) (by first | assumption | decide | exact xs_ (by decide) | exact xc_ (by decide) | exact x31_ (by decide) | omega) (by first | assumption | decide | exact xs_ (by decide) | exact xc_ (by decide) | exact x31_ (by decide) | omega) (by first | assumption | decide | exact xs_ (by decide) | exact xc_ (by decide) | exact x31_ (by decide) | omega)
          refine r_imulE hC ((z * (m - 1))) dX6_burst_53 (by first | assumption | decide | exact xs_ (by decide) | exact xc_ (by decide) | exact x31_ (by decide) | omega) (by unfold inR; omega) ?_
          refine r_iaddE hC ((v + (z * (m - 1)))) dX6_burst_54 (by first | assumption | decide | exact xs_ (by decide) | exact xc_ (by decide) | exact x31_ (by decide) | omega) (by unfold inR; omega) ?_
          refine r_sipush hC dX6_burst_55 rfl ?_
          refine r_sipush hC dX6_burst_58 rfl ?_
          refine z_ins3 hM dX6_burst_61 tl_RX6_76 rfl (Nat.le_of_ble_eq_true rfl) (Nat.le_of_ble_eq_true rfl) ?_
          refine m_isIn (fun h14 => ?_) (fun h14 => ?_)
          · refine r_if_eq (tgt := 81) hC dX6_burst_64 rfl (fun h15 => by omega) (fun h15 => ?_)
            refine r_aload_n hC dX6_burst_67 rfl ?_
            refine r_iload_n hC dX6_burst_68 rfl ?_
            refine r_bipush hC dX6_burst_69 rfl ?_
            refine z_inv2 hM dX6_burst_71 vl_RX6_80 rfl rfl rfl (Nat.le_of_ble_eq_true rfl) (Nat.le_of_ble_eq_true rfl) ?_
            refine y_of (by first | assumption | decide | exact xs_ (by decide) | exact xc_ (by decide) | exact x31_ (by decide) | omega) (by first | assumption | decide | exact xs_ (by decide) | exact xc_ (by decide) | exact x31_ (by decide) | omega) (by first | assumption | decide | exact xs_ (by decide) | exact xc_ (by decide) | exact x31_ (by decide) | omega) (fun o16 => ?_)
            have e17 : σ 31 0 (22 * l + 6) = (V 7 l 10) := (hR.1.a7 (s := 10) (f := 6) (by first | assumption | decide | exact xs_ (by decide) | exact xc_ (by decide) | exact x31_ (by decide) | omega) (by first | assumption | decide | exact xs_ (by decide) | exact xc_ (by decide) | exact x31_ (by decide) | omega) (by first | assumption | decide | exact xs_ (by decide) | exact xc_ (by decide) | exact x31_ (by decide) | omega)).trans (rfl)
            rw [e17] at o16 ⊢
            refine r_iload_n hC dX6_burst_74 rfl ?_
            refine r_iaddE hC (((V 7 l 10) + m)) dX6_burst_75 (by first | assumption | decide | exact xs_ (by decide) | exact xc_ (by decide) | exact x31_ (by decide) | omega) (by unfold inR; omega) ?_
            refine r_ldc hC dX6_burst_76 co_RX6_239 rfl ?_
            refine r_icmp_le (tgt := 83) hC dX6_burst_78 rfl (fun h18 => ?_) (fun h18 => ?_)
            · refine r_aload_n hC dX6_burst_83 rfl ?_
              refine r_iload_n hC dX6_burst_84 rfl ?_
              refine r_iconst hC dX6_burst_85 rfl ?_
              refine z_inv2 hM dX6_burst_86 vl_RX6_80 rfl rfl rfl (Nat.le_of_ble_eq_true rfl) (Nat.le_of_ble_eq_true rfl) ?_
              refine y_of (by first | assumption | decide | exact xs_ (by decide) | exact xc_ (by decide) | exact x31_ (by decide) | omega) (by first | assumption | decide | exact xs_ (by decide) | exact xc_ (by decide) | exact x31_ (by decide) | omega) (by first | assumption | decide | exact xs_ (by decide) | exact xc_ (by decide) | exact x31_ (by decide) | omega) (fun o19 => ?_)
              have e20 : σ 31 0 (22 * l + 2) = (V 7 l 3) := (hR.1.a7 (s := 3) (f := 2) (by first | assumption | decide | exact xs_ (by decide) | exact xc_ (by decide) | exact x31_ (by decide) | omega) (by first | assumption | decide | exact xs_ (by decide) | exact xc_ (by decide) | exact x31_ (by decide) | omega) (by first | assumption | decide | exact xs_ (by decide) | exact xc_ (by decide) | exact x31_ (by decide) | omega)).trans (rfl)
              rw [e20] at o19 ⊢
              refine r_iconst hC dX6_burst_89 rfl ?_
              refine r_icmp_eq (tgt := 107) hC dX6_burst_90 rfl (fun h21 => ?_) (fun h21 => ?_)
              · refine r_aload_n hC dX6_burst_107 rfl ?_
                refine r_iload_n hC dX6_burst_108 rfl ?_
                refine r_bipush hC dX6_burst_109 rfl ?_
                refine z_inv2 hM dX6_burst_111 vl_RX6_80 rfl rfl rfl (Nat.le_of_ble_eq_true rfl) (Nat.le_of_ble_eq_true rfl) ?_
                refine y_of (by first | assumption | decide | exact xs_ (by decide) | exact xc_ (by decide) | exact x31_ (by decide) | omega) (by first | assumption | decide | exact xs_ (by decide) | exact xc_ (by decide) | exact x31_ (by decide) | omega) (by first | assumption | decide | exact xs_ (by decide) | exact xc_ (by decide) | exact x31_ (by decide) | omega) (fun o22 => ?_)
                have e23 : σ 31 0 (22 * l + 6) = (V 7 l 10) := (hR.1.a7 (s := 10) (f := 6) (by first | assumption | decide | exact xs_ (by decide) | exact xc_ (by decide) | exact x31_ (by decide) | omega) (by first | assumption | decide | exact xs_ (by decide) | exact xc_ (by decide) | exact x31_ (by decide) | omega) (by first | assumption | decide | exact xs_ (by decide) | exact xc_ (by decide) | exact x31_ (by decide) | omega)).trans (rfl)
                rw [e23] at o22 ⊢
                refine r_iconst hC dX6_burst_114 rfl ?_
                refine r_iaddE hC (((V 7 l 10) + 1)) dX6_burst_115 (by first | assumption | decide | exact xs_ (by decide) | exact xc_ (by decide) | exact x31_ (by decide) | omega) (by unfold inR; omega) ?_
                refine r_istore hC dX6_burst_116 rfl ?_
                refine r_iconst hC dX6_burst_118 rfl ?_
                refine r_istore hC dX6_burst_119 rfl ?_
                have L121 : ∀ (n121 : Nat) (w24 : Int) (ρ25 W25 : Mm), 0 ≤ w24 ∧ w24 ≤ 40 → ((w24) ≤ m) → 40 - w24 < (n121 : Int) → (RS t σ0 W25 ρ25) → (CI W25) → (GJ W25) → (bst l z (m - (w24)).toNat (v + (w24) * z) W25 = bst l z m.toNat v V) → (W25 7 l 10 = V 7 l 10 + (w24)) → (W25 7 l 3 = V 7 l 3) → (V 7 l 3 ≠ 1 → W25 7 l 6 + m - (w24) ≤ 120) → (W25 13 l 0 = V 13 l 0) → (∀ x : Int, 0 ≤ x → x ≤ 3 → x ≠ l → x ≠ V 13 l 0 → W25 7 x 6 = V 7 x 6 ∧ W25 7 x 15 = V 7 x 15) → K 121 [some (vR 30 0), some (vI l), some (vI m), some (vI v), some (vI z), some (vI ((V 7 l 10) + 1)), some (vI w24)] [] ρ25 := by
                  intro n121
                  induction n121 with
                  | zero => intro w24 ρ25 W25 f_w24 i0_121 hm  m0_121 m1_121 m2_121 m3_121 m4_121 m5_121 m6_121 m7_121 m8_121; omega
                  | succ n121 ih121 =>
                    intro w24 ρ25 W25 f_w24 i0_121 hm121  m0_121 m1_121 m2_121 m3_121 m4_121 m5_121 m6_121 m7_121 m8_121
                    refine r_iload hC dX6_burst_121 rfl ?_
                    refine r_iload_n hC dX6_burst_123 rfl ?_
                    refine r_icmp_ge (tgt := 160) hC dX6_burst_124 rfl (fun h26 => ?_) (fun h26 => ?_)
                    · refine r_aload_n hC dX6_burst_160 rfl ?_
                      refine r_iload_n hC dX6_burst_161 rfl ?_
                      refine z_inv1 hM dX6_burst_162 vl_RX6_259 rfl rfl rfl (Nat.le_of_ble_eq_true rfl) (Nat.le_of_ble_eq_true rfl) ?_
                      have e13 := m7_121
                      have hms : ∀ x : Int, 0 ≤ x → x ≤ 3 → x ≠ l → x ≠ V 13 l 0 → W25 7 x 6 ≤ W25 7 x 15 := fun x a b c d => by
                        rw [(m8_121 x a b c d).1, (m8_121 x a b c d).2]
                        exact hG.2.2 x a (by first | assumption | decide | exact xs_ (by decide) | exact xc_ (by decide) | exact x31_ (by decide) | omega)
                      refine y_behindCall (V := W25) (by first | assumption | decide | exact xs_ (by decide) | exact xc_ (by decide) | exact x31_ (by decide) | omega) ht ⟨m0_121.1, m0_121.2.1, m0_121.2.2⟩ (by rw [e13]; omega) (by rw [e13]; omega) (fun x a b c d => hms x a b c (by rw [e13] at d; exact d)) (fun ρ27 Rρ27 => ?_)
                      refine y_iret hK rfl dX6_burst_165 ?_
                      have hM : buM V l m v z = (ntM W25) := by
                        have e0 : bst l z m.toNat v V = W25 := by
                          rw [← m3_121, show (m - w24).toNat = 0 from by omega]
                          rfl
                        unfold buM
                        rw [if_pos ⟨by omega, by omega, by omega, by omega, by omega, by rw [ew (by first | assumption | decide | exact xs_ (by decide) | exact xc_ (by decide) | exact x31_ (by decide) | omega) (by first | assumption | decide | exact xs_ (by decide) | exact xc_ (by decide) | exact x31_ (by decide) | omega)]; omega, by omega⟩, e0]
                      have hRr : buR V l m v z = (W25 7 l 6) := by
                        unfold buR
                        rw [if_pos ⟨by omega, by omega, by omega, by omega, by omega, by rw [ew (by first | assumption | decide | exact xs_ (by decide) | exact xc_ (by decide) | exact x31_ (by decide) | omega) (by first | assumption | decide | exact xs_ (by decide) | exact xc_ (by decide) | exact x31_ (by decide) | omega)]; omega, by omega⟩, hM]
                        exact ntM_ne (by first | assumption | decide | exact xs_ (by decide) | exact xc_ (by decide) | exact x31_ (by decide) | omega)
                      rw [hM] at k
                      rw [hRr] at k
                      exact k _ ⟨Rρ27.1, Rρ27.2.1, Rρ27.2.2⟩
                    · have hW10 := m4_121
                      have hW3 := m5_121
                      have hW6 := m1_121.h7 (l := l) (by first | assumption | decide | exact xs_ (by decide) | exact xc_ (by decide) | exact x31_ (by decide) | omega) (by first | assumption | decide | exact xs_ (by decide) | exact xc_ (by decide) | exact x31_ (by decide) | omega)
                      have ecm := Int.mul_comm z w24
                      have lb := lin_btw (v := v) (s := z) (i := w24) (m := (m - 1)) (by first | assumption | decide | exact xs_ (by decide) | exact xc_ (by decide) | exact x31_ (by decide) | omega) (by first | assumption | decide | exact xs_ (by decide) | exact xc_ (by decide) | exact x31_ (by decide) | omega) (by first | assumption | decide | exact xs_ (by decide) | exact xc_ (by decide) | exact x31_ (by decide) | omega) (by have := Int.mul_comm z (m - 1); omega)
                      have et_ : wr (W25 7 l 10 + 1) = (((V 7 l 10) + 1) + w24) := by rw [m4_121, wr_id ⟨by omega, by omega⟩]; omega
                      refine r_aload_n hC dX6_burst_127 rfl ?_
                      refine r_iload_n hC dX6_burst_128 rfl ?_
                      refine r_iload hC dX6_burst_129 rfl ?_
                      refine r_iload hC dX6_burst_131 rfl ?_
                      refine r_iaddE hC ((((V 7 l 10) + 1) + w24)) dX6_burst_133 (by first | assumption | decide | exact xs_ (by decide) | exact xc_ (by decide) | exact x31_ (by decide) | omega) (by unfold inR; omega) ?_
                      refine z_inv2 hM dX6_burst_134 vl_RX6_256 rfl rfl rfl (Nat.le_of_ble_eq_true rfl) (Nat.le_of_ble_eq_true rfl) ?_
                      refine y_give (V := W25) (by first | assumption | decide | exact xs_ (by decide) | exact xc_ (by decide) | exact x31_ (by decide) | omega) (by first | assumption | decide | exact xs_ (by decide) | exact xc_ (by decide) | exact x31_ (by decide) | omega) ht ⟨m0_121.1, m0_121.2.1, m0_121.2.2⟩ m1_121 m2_121 (fun ρ28 Rρ28 => ?_)
                      refine r_aload_n hC dX6_burst_137 rfl ?_
                      refine r_iload_n hC dX6_burst_138 rfl ?_
                      refine r_iload hC dX6_burst_139 rfl ?_
                      refine r_iload hC dX6_burst_141 rfl ?_
                      refine r_iaddE hC ((((V 7 l 10) + 1) + w24)) dX6_burst_143 (by first | assumption | decide | exact xs_ (by decide) | exact xc_ (by decide) | exact x31_ (by decide) | omega) (by unfold inR; omega) ?_
                      refine r_iload_n hC dX6_burst_144 rfl ?_
                      refine r_iload hC dX6_burst_145 rfl ?_
                      refine r_iload hC dX6_burst_147 rfl ?_
                      have m29 := mul_bd2 (a := w24) (b := z) (A := 39) (B := 1000) (by first | assumption | decide | exact xs_ (by decide) | exact xc_ (by decide) | exact x31_ (by decide) | omega) (by first | assumption | decide | exact xs_ (by decide) | exact xc_ (by decide) | exact x31_ (by decide) | omega) (by first | assumption | decide | exact xs_ (by decide) | exact xc_ (by decide) | exact x31_ (by decide) | omega) (by first | assumption | decide | exact xs_ (by decide) | exact xc_ (by decide) | exact x31_ (by decide) | omega)
                      refine r_imulE hC ((z * w24)) dX6_burst_149 (by first | assumption | decide | exact xs_ (by decide) | exact xc_ (by decide) | exact x31_ (by decide) | omega) (by unfold inR; omega) ?_
                      refine r_iaddE hC ((v + (z * w24))) dX6_burst_150 (by first | assumption | decide | exact xs_ (by decide) | exact xc_ (by decide) | exact x31_ (by decide) | omega) (by unfold inR; omega) ?_
                      refine z_inv3 hM dX6_burst_151 vl_RX6_253 rfl rfl rfl (Nat.le_of_ble_eq_true rfl) (Nat.le_of_ble_eq_true rfl) ?_
                      -- a value between
                      have u3_151 : (gvM W25 l (((V 7 l 10) + 1) + w24)) 7 l 3 = (W25 7 l 3) := ((gv_7 m1_121 (by first | assumption | decide | exact xs_ (by decide) | exact xc_ (by decide) | exact x31_ (by decide) | omega) (by first | assumption | decide | exact xs_ (by decide) | exact xc_ (by decide) | exact x31_ (by decide) | omega)).trans (rfl))
                      have u6_151 : (gvM W25 l (((V 7 l 10) + 1) + w24)) 7 l 6 = (W25 7 l 6) := ((gv_7 m1_121 (by first | assumption | decide | exact xs_ (by decide) | exact xc_ (by decide) | exact x31_ (by decide) | omega) (by first | assumption | decide | exact xs_ (by decide) | exact xc_ (by decide) | exact x31_ (by decide) | omega)).trans (rfl))
                      have nf_151 : ¬ fuV (gvM W25 l (((V 7 l 10) + 1) + w24)) l := by unfold fuV; omega
                      have c_151 : CI (gvM W25 l (((V 7 l 10) + 1) + w24)) := (CI.gv m1_121)
                      have j_151 : GJ (gvM W25 l (((V 7 l 10) + 1) + w24)) := (GJ.gv m2_121 m1_121 (by first | assumption | decide | exact xs_ (by decide) | exact xc_ (by decide) | exact x31_ (by decide) | omega) (by first | assumption | decide | exact xs_ (by decide) | exact xc_ (by decide) | exact x31_ (by decide) | omega))
                      refine y_enter (V := (gvM W25 l (((V 7 l 10) + 1) + w24))) (l := l) (z := (((V 7 l 10) + 1) + w24)) (v := (v + (z * w24))) (by first | assumption | decide | exact xs_ (by decide) | exact xc_ (by decide) | exact x31_ (by decide) | omega) (by first | assumption | decide | exact xs_ (by decide) | exact xc_ (by decide) | exact x31_ (by decide) | omega) (by first | assumption | decide | exact xs_ (by decide) | exact xc_ (by decide) | exact x31_ (by decide) | omega) ht ⟨Rρ28.1, Rρ28.2.1, Rρ28.2.2⟩ (by first | assumption | decide | exact xs_ (by decide) | exact xc_ (by decide) | exact x31_ (by decide) | omega) (j_151.lk c_151 (by first | assumption | decide | exact xs_ (by decide) | exact xc_ (by decide) | exact x31_ (by decide) | omega) (by first | assumption | decide | exact xs_ (by decide) | exact xc_ (by decide) | exact x31_ (by decide) | omega)) (c_151.2.1 l (by first | assumption | decide | exact xs_ (by decide) | exact xc_ (by decide) | exact x31_ (by decide) | omega) (by first | assumption | decide | exact xs_ (by decide) | exact xc_ (by decide) | exact x31_ (by decide) | omega)) (j_151.1 l (by first | assumption | decide | exact xs_ (by decide) | exact xc_ (by decide) | exact x31_ (by decide) | omega) (by first | assumption | decide | exact xs_ (by decide) | exact xc_ (by decide) | exact x31_ (by decide) | omega)) (c_151.h7 (by first | assumption | decide | exact xs_ (by decide) | exact xc_ (by decide) | exact x31_ (by decide) | omega) (by first | assumption | decide | exact xs_ (by decide) | exact xc_ (by decide) | exact x31_ (by decide) | omega)).2 (fun q => by have := c_151.size (i := l) (by first | assumption | decide | exact xs_ (by decide) | exact xc_ (by decide) | exact x31_ (by decide) | omega) (by first | assumption | decide | exact xs_ (by decide) | exact xc_ (by decide) | exact x31_ (by decide) | omega) q; omega) (fun ρ30 Rρ30 => ?_)
                      refine r_iincE hC ((w24 + 1)) dX6_burst_154 rfl rfl (by first | assumption | decide | exact xs_ (by decide) | exact xc_ (by decide) | exact x31_ (by decide) | omega) (by unfold inR; omega) ?_
                      refine r_goto (tgt := 121) hC dX6_burst_157 rfl ?_
                      exact ih121 ((w24 + 1)) ρ30 (plM (gvM W25 l (((V 7 l 10) + 1) + w24)) l (((V 7 l 10) + 1) + w24) (v + (z * w24))) (by first | assumption | decide | exact xs_ (by decide) | exact xc_ (by decide) | exact x31_ (by decide) | omega) (by first | assumption | decide | exact xs_ (by decide) | exact xc_ (by decide) | exact x31_ (by decide) | omega) (by first | assumption | decide | exact xs_ (by decide) | exact xc_ (by decide) | exact x31_ (by decide) | omega)  (⟨Rρ30.1, Rρ30.2.1, Rρ30.2.2⟩) ((CI.pl c_151 (by first | assumption | decide | exact xs_ (by decide) | exact xc_ (by decide) | exact x31_ (by decide) | omega) (by first | assumption | decide | exact xs_ (by decide) | exact xc_ (by decide) | exact x31_ (by decide) | omega) nf_151)) ((GJ.pl j_151 (by first | assumption | decide | exact xs_ (by decide) | exact xc_ (by decide) | exact x31_ (by decide) | omega) (by first | assumption | decide | exact xs_ (by decide) | exact xc_ (by decide) | exact x31_ (by decide) | omega) (c_151.h7 (by first | assumption | decide | exact xs_ (by decide) | exact xc_ (by decide) | exact x31_ (by decide) | omega) (by first | assumption | decide | exact xs_ (by decide) | exact xc_ (by decide) | exact x31_ (by decide) | omega)) (by first | assumption | decide | exact xs_ (by decide) | exact xc_ (by decide) | exact x31_ (by decide) | omega) (by first | assumption | decide | exact xs_ (by decide) | exact xc_ (by decide) | exact x31_ (by decide) | omega))) (by have q := m3_121; rw [show (m - w24).toNat = (m - (w24 + 1)).toNat + 1 from by omega, bst_s, et_] at q; rw [show v + (w24 + 1) * z = v + w24 * z + z from by rw [Int.add_mul]; omega, show v + z * w24 = v + w24 * z from by rw [Int.mul_comm]]; exact q) (by rw [pl_10, gv_7 m1_121 (by first | assumption | decide | exact xs_ (by decide) | exact xc_ (by decide) | exact x31_ (by decide) | omega) (by first | assumption | decide | exact xs_ (by decide) | exact xc_ (by decide) | exact x31_ (by decide) | omega)]; omega) ((plM_nx (by unfold PS; omega)).trans ((gv_7 m1_121 (by first | assumption | decide | exact xs_ (by decide) | exact xc_ (by decide) | exact x31_ (by decide) | omega) (by first | assumption | decide | exact xs_ (by decide) | exact xc_ (by decide) | exact x31_ (by decide) | omega)).trans m5_121)) (fun q => by have hp := pl_6 (CI.gv m1_121 (i := l) (t := (((V 7 l 10) + 1) + w24))) (i := l) (t := (((V 7 l 10) + 1) + w24)) (v := (v + (z * w24))) (by first | assumption | decide | exact xs_ (by decide) | exact xc_ (by decide) | exact x31_ (by decide) | omega) (by first | assumption | decide | exact xs_ (by decide) | exact xc_ (by decide) | exact x31_ (by decide) | omega); rw [gv_7 m1_121 (by first | assumption | decide | exact xs_ (by decide) | exact xc_ (by decide) | exact x31_ (by decide) | omega) (by first | assumption | decide | exact xs_ (by decide) | exact xc_ (by decide) | exact x31_ (by decide) | omega)] at hp; have := m6_121 q; omega) ((plM_nx (by unfold PS; omega)).trans ((gvM_nx (by unfold PS; omega) (by first | assumption | decide | exact xs_ (by decide) | exact xc_ (by decide) | exact x31_ (by decide) | omega)).trans m7_121)) (fun x a b c d => by rw [plM_nx (by unfold PS; omega), plM_nx (by unfold PS; omega), gvM_nx (by rw [m7_121]; unfold PS; omega) (by first | assumption | decide | exact xs_ (by decide) | exact xc_ (by decide) | exact x31_ (by decide) | omega), gvM_nx (by rw [m7_121]; unfold PS; omega) (by first | assumption | decide | exact xs_ (by decide) | exact xc_ (by decide) | exact x31_ (by decide) | omega)]; exact m8_121 x a b c d)
                exact L121 42 (0) σ V (by first | assumption | decide | exact xs_ (by decide) | exact xc_ (by decide) | exact x31_ (by decide) | omega) (by first | assumption | decide | exact xs_ (by decide) | exact xc_ (by decide) | exact x31_ (by decide) | omega) (by first | assumption | decide | exact xs_ (by decide) | exact xc_ (by decide) | exact x31_ (by decide) | omega)  (⟨hR.1, hR.2.1, hR.2.2⟩) (hG.1) (hG.2.1) (by rw [show (m - 0).toNat = m.toNat from by omega, show v + 0 * z = v from by omega]) (by first | assumption | decide | exact xs_ (by decide) | exact xc_ (by decide) | exact x31_ (by decide) | omega) (rfl) (fun _ => by omega) (rfl) (fun x a b c d => ⟨rfl, rfl⟩)
              · refine r_aload_n hC dX6_burst_93 rfl ?_
                refine r_iload_n hC dX6_burst_94 rfl ?_
                refine z_inv1 hM dX6_burst_95 vl_RX6_116 rfl rfl rfl (Nat.le_of_ble_eq_true rfl) (Nat.le_of_ble_eq_true rfl) ?_
                refine y_heldOf (by first | assumption | decide | exact xs_ (by decide) | exact xc_ (by decide) | exact x31_ (by decide) | omega) (fun o31 => ?_)
                have e32 : σ 31 0 (22 * l + 5) = (V 7 l 6) := (hR.1.a7 (s := 6) (f := 5) (by first | assumption | decide | exact xs_ (by decide) | exact xc_ (by decide) | exact x31_ (by decide) | omega) (by first | assumption | decide | exact xs_ (by decide) | exact xc_ (by decide) | exact x31_ (by decide) | omega) (by first | assumption | decide | exact xs_ (by decide) | exact xc_ (by decide) | exact x31_ (by decide) | omega)).trans (rfl)
                rw [e32] at o31 ⊢
                have qo31 : 0 ≤ (V 7 l 6) ∧ (V 7 l 6) ≤ 121 := o31.1 (by first | assumption | decide | exact xs_ (by decide) | exact xc_ (by decide) | exact x31_ (by decide) | omega)
                refine r_iload_n hC dX6_burst_98 rfl ?_
                refine r_iaddE hC (((V 7 l 6) + m)) dX6_burst_99 (by first | assumption | decide | exact xs_ (by decide) | exact xc_ (by decide) | exact x31_ (by decide) | omega) (by unfold inR; omega) ?_
                refine r_bipush hC dX6_burst_100 rfl ?_
                refine r_icmp_le (tgt := 107) hC dX6_burst_102 rfl (fun h33 => ?_) (fun h33 => ?_)
                · refine r_aload_n hC dX6_burst_107 rfl ?_
                  refine r_iload_n hC dX6_burst_108 rfl ?_
                  refine r_bipush hC dX6_burst_109 rfl ?_
                  refine z_inv2 hM dX6_burst_111 vl_RX6_80 rfl rfl rfl (Nat.le_of_ble_eq_true rfl) (Nat.le_of_ble_eq_true rfl) ?_
                  refine y_of (by first | assumption | decide | exact xs_ (by decide) | exact xc_ (by decide) | exact x31_ (by decide) | omega) (by first | assumption | decide | exact xs_ (by decide) | exact xc_ (by decide) | exact x31_ (by decide) | omega) (by first | assumption | decide | exact xs_ (by decide) | exact xc_ (by decide) | exact x31_ (by decide) | omega) (fun o34 => ?_)
                  have e35 : σ 31 0 (22 * l + 6) = (V 7 l 10) := (hR.1.a7 (s := 10) (f := 6) (by first | assumption | decide | exact xs_ (by decide) | exact xc_ (by decide) | exact x31_ (by decide) | omega) (by first | assumption | decide | exact xs_ (by decide) | exact xc_ (by decide) | exact x31_ (by decide) | omega) (by first | assumption | decide | exact xs_ (by decide) | exact xc_ (by decide) | exact x31_ (by decide) | omega)).trans (rfl)
                  rw [e35] at o34 ⊢
                  refine r_iconst hC dX6_burst_114 rfl ?_
                  refine r_iaddE hC (((V 7 l 10) + 1)) dX6_burst_115 (by first | assumption | decide | exact xs_ (by decide) | exact xc_ (by decide) | exact x31_ (by decide) | omega) (by unfold inR; omega) ?_
                  refine r_istore hC dX6_burst_116 rfl ?_
                  refine r_iconst hC dX6_burst_118 rfl ?_
                  refine r_istore hC dX6_burst_119 rfl ?_
                  have L121 : ∀ (n121 : Nat) (w36 : Int) (ρ37 W37 : Mm), 0 ≤ w36 ∧ w36 ≤ 40 → ((w36) ≤ m) → 40 - w36 < (n121 : Int) → (RS t σ0 W37 ρ37) → (CI W37) → (GJ W37) → (bst l z (m - (w36)).toNat (v + (w36) * z) W37 = bst l z m.toNat v V) → (W37 7 l 10 = V 7 l 10 + (w36)) → (W37 7 l 3 = V 7 l 3) → (V 7 l 3 ≠ 1 → W37 7 l 6 + m - (w36) ≤ 120) → (W37 13 l 0 = V 13 l 0) → (∀ x : Int, 0 ≤ x → x ≤ 3 → x ≠ l → x ≠ V 13 l 0 → W37 7 x 6 = V 7 x 6 ∧ W37 7 x 15 = V 7 x 15) → K 121 [some (vR 30 0), some (vI l), some (vI m), some (vI v), some (vI z), some (vI ((V 7 l 10) + 1)), some (vI w36)] [] ρ37 := by
                    intro n121
                    induction n121 with
                    | zero => intro w36 ρ37 W37 f_w36 i0_121 hm  m0_121 m1_121 m2_121 m3_121 m4_121 m5_121 m6_121 m7_121 m8_121; omega
                    | succ n121 ih121 =>
                      intro w36 ρ37 W37 f_w36 i0_121 hm121  m0_121 m1_121 m2_121 m3_121 m4_121 m5_121 m6_121 m7_121 m8_121
                      refine r_iload hC dX6_burst_121 rfl ?_
                      refine r_iload_n hC dX6_burst_123 rfl ?_
                      refine r_icmp_ge (tgt := 160) hC dX6_burst_124 rfl (fun h38 => ?_) (fun h38 => ?_)
                      · refine r_aload_n hC dX6_burst_160 rfl ?_
                        refine r_iload_n hC dX6_burst_161 rfl ?_
                        refine z_inv1 hM dX6_burst_162 vl_RX6_259 rfl rfl rfl (Nat.le_of_ble_eq_true rfl) (Nat.le_of_ble_eq_true rfl) ?_
                        have e13 := m7_121
                        have hms : ∀ x : Int, 0 ≤ x → x ≤ 3 → x ≠ l → x ≠ V 13 l 0 → W37 7 x 6 ≤ W37 7 x 15 := fun x a b c d => by
                          rw [(m8_121 x a b c d).1, (m8_121 x a b c d).2]
                          exact hG.2.2 x a (by first | assumption | decide | exact xs_ (by decide) | exact xc_ (by decide) | exact x31_ (by decide) | omega)
                        refine y_behindCall (V := W37) (by first | assumption | decide | exact xs_ (by decide) | exact xc_ (by decide) | exact x31_ (by decide) | omega) ht ⟨m0_121.1, m0_121.2.1, m0_121.2.2⟩ (by rw [e13]; omega) (by rw [e13]; omega) (fun x a b c d => hms x a b c (by rw [e13] at d; exact d)) (fun ρ39 Rρ39 => ?_)
                        refine y_iret hK rfl dX6_burst_165 ?_
                        have hM : buM V l m v z = (ntM W37) := by
                          have e0 : bst l z m.toNat v V = W37 := by
                            rw [← m3_121, show (m - w36).toNat = 0 from by omega]
                            rfl
                          unfold buM
                          rw [if_pos ⟨by omega, by omega, by omega, by omega, by omega, by rw [ew (by first | assumption | decide | exact xs_ (by decide) | exact xc_ (by decide) | exact x31_ (by decide) | omega) (by first | assumption | decide | exact xs_ (by decide) | exact xc_ (by decide) | exact x31_ (by decide) | omega)]; omega, by omega⟩, e0]
                        have hRr : buR V l m v z = (W37 7 l 6) := by
                          unfold buR
                          rw [if_pos ⟨by omega, by omega, by omega, by omega, by omega, by rw [ew (by first | assumption | decide | exact xs_ (by decide) | exact xc_ (by decide) | exact x31_ (by decide) | omega) (by first | assumption | decide | exact xs_ (by decide) | exact xc_ (by decide) | exact x31_ (by decide) | omega)]; omega, by omega⟩, hM]
                          exact ntM_ne (by first | assumption | decide | exact xs_ (by decide) | exact xc_ (by decide) | exact x31_ (by decide) | omega)
                        rw [hM] at k
                        rw [hRr] at k
                        exact k _ ⟨Rρ39.1, Rρ39.2.1, Rρ39.2.2⟩
                      · have hW10 := m4_121
                        have hW3 := m5_121
                        have hW6 := m1_121.h7 (l := l) (by first | assumption | decide | exact xs_ (by decide) | exact xc_ (by decide) | exact x31_ (by decide) | omega) (by first | assumption | decide | exact xs_ (by decide) | exact xc_ (by decide) | exact x31_ (by decide) | omega)
                        have ecm := Int.mul_comm z w36
                        have lb := lin_btw (v := v) (s := z) (i := w36) (m := (m - 1)) (by first | assumption | decide | exact xs_ (by decide) | exact xc_ (by decide) | exact x31_ (by decide) | omega) (by first | assumption | decide | exact xs_ (by decide) | exact xc_ (by decide) | exact x31_ (by decide) | omega) (by first | assumption | decide | exact xs_ (by decide) | exact xc_ (by decide) | exact x31_ (by decide) | omega) (by have := Int.mul_comm z (m - 1); omega)
                        have et_ : wr (W37 7 l 10 + 1) = (((V 7 l 10) + 1) + w36) := by rw [m4_121, wr_id ⟨by omega, by omega⟩]; omega
                        refine r_aload_n hC dX6_burst_127 rfl ?_
                        refine r_iload_n hC dX6_burst_128 rfl ?_
                        refine r_iload hC dX6_burst_129 rfl ?_
                        refine r_iload hC dX6_burst_131 rfl ?_
                        refine r_iaddE hC ((((V 7 l 10) + 1) + w36)) dX6_burst_133 (by first | assumption | decide | exact xs_ (by decide) | exact xc_ (by decide) | exact x31_ (by decide) | omega) (by unfold inR; omega) ?_
                        refine z_inv2 hM dX6_burst_134 vl_RX6_256 rfl rfl rfl (Nat.le_of_ble_eq_true rfl) (Nat.le_of_ble_eq_true rfl) ?_
                        refine y_give (V := W37) (by first | assumption | decide | exact xs_ (by decide) | exact xc_ (by decide) | exact x31_ (by decide) | omega) (by first | assumption | decide | exact xs_ (by decide) | exact xc_ (by decide) | exact x31_ (by decide) | omega) ht ⟨m0_121.1, m0_121.2.1, m0_121.2.2⟩ m1_121 m2_121 (fun ρ40 Rρ40 => ?_)
                        refine r_aload_n hC dX6_burst_137 rfl ?_
                        refine r_iload_n hC dX6_burst_138 rfl ?_
                        refine r_iload hC dX6_burst_139 rfl ?_
                        refine r_iload hC dX6_burst_141 rfl ?_
                        refine r_iaddE hC ((((V 7 l 10) + 1) + w36)) dX6_burst_143 (by first | assumption | decide | exact xs_ (by decide) | exact xc_ (by decide) | exact x31_ (by decide) | omega) (by unfold inR; omega) ?_
                        refine r_iload_n hC dX6_burst_144 rfl ?_
                        refine r_iload hC dX6_burst_145 rfl ?_
                        refine r_iload hC dX6_burst_147 rfl ?_
                        have m41 := mul_bd2 (a := w36) (b := z) (A := 39) (B := 1000) (by first | assumption | decide | exact xs_ (by decide) | exact xc_ (by decide) | exact x31_ (by decide) | omega) (by first | assumption | decide | exact xs_ (by decide) | exact xc_ (by decide) | exact x31_ (by decide) | omega) (by first | assumption | decide | exact xs_ (by decide) | exact xc_ (by decide) | exact x31_ (by decide) | omega) (by first | assumption | decide | exact xs_ (by decide) | exact xc_ (by decide) | exact x31_ (by decide) | omega)
                        refine r_imulE hC ((z * w36)) dX6_burst_149 (by first | assumption | decide | exact xs_ (by decide) | exact xc_ (by decide) | exact x31_ (by decide) | omega) (by unfold inR; omega) ?_
                        refine r_iaddE hC ((v + (z * w36))) dX6_burst_150 (by first | assumption | decide | exact xs_ (by decide) | exact xc_ (by decide) | exact x31_ (by decide) | omega) (by unfold inR; omega) ?_
                        refine z_inv3 hM dX6_burst_151 vl_RX6_253 rfl rfl rfl (Nat.le_of_ble_eq_true rfl) (Nat.le_of_ble_eq_true rfl) ?_
                        -- a value between
                        have u3_151 : (gvM W37 l (((V 7 l 10) + 1) + w36)) 7 l 3 = (W37 7 l 3) := ((gv_7 m1_121 (by first | assumption | decide | exact xs_ (by decide) | exact xc_ (by decide) | exact x31_ (by decide) | omega) (by first | assumption | decide | exact xs_ (by decide) | exact xc_ (by decide) | exact x31_ (by decide) | omega)).trans (rfl))
                        have u6_151 : (gvM W37 l (((V 7 l 10) + 1) + w36)) 7 l 6 = (W37 7 l 6) := ((gv_7 m1_121 (by first | assumption | decide | exact xs_ (by decide) | exact xc_ (by decide) | exact x31_ (by decide) | omega) (by first | assumption | decide | exact xs_ (by decide) | exact xc_ (by decide) | exact x31_ (by decide) | omega)).trans (rfl))
                        have nf_151 : ¬ fuV (gvM W37 l (((V 7 l 10) + 1) + w36)) l := by unfold fuV; omega
                        have c_151 : CI (gvM W37 l (((V 7 l 10) + 1) + w36)) := (CI.gv m1_121)
                        have j_151 : GJ (gvM W37 l (((V 7 l 10) + 1) + w36)) := (GJ.gv m2_121 m1_121 (by first | assumption | decide | exact xs_ (by decide) | exact xc_ (by decide) | exact x31_ (by decide) | omega) (by first | assumption | decide | exact xs_ (by decide) | exact xc_ (by decide) | exact x31_ (by decide) | omega))
                        refine y_enter (V := (gvM W37 l (((V 7 l 10) + 1) + w36))) (l := l) (z := (((V 7 l 10) + 1) + w36)) (v := (v + (z * w36))) (by first | assumption | decide | exact xs_ (by decide) | exact xc_ (by decide) | exact x31_ (by decide) | omega) (by first | assumption | decide | exact xs_ (by decide) | exact xc_ (by decide) | exact x31_ (by decide) | omega) (by first | assumption | decide | exact xs_ (by decide) | exact xc_ (by decide) | exact x31_ (by decide) | omega) ht ⟨Rρ40.1, Rρ40.2.1, Rρ40.2.2⟩ (by first | assumption | decide | exact xs_ (by decide) | exact xc_ (by decide) | exact x31_ (by decide) | omega) (j_151.lk c_151 (by first | assumption | decide | exact xs_ (by decide) | exact xc_ (by decide) | exact x31_ (by decide) | omega) (by first | assumption | decide | exact xs_ (by decide) | exact xc_ (by decide) | exact x31_ (by decide) | omega)) (c_151.2.1 l (by first | assumption | decide | exact xs_ (by decide) | exact xc_ (by decide) | exact x31_ (by decide) | omega) (by first | assumption | decide | exact xs_ (by decide) | exact xc_ (by decide) | exact x31_ (by decide) | omega)) (j_151.1 l (by first | assumption | decide | exact xs_ (by decide) | exact xc_ (by decide) | exact x31_ (by decide) | omega) (by first | assumption | decide | exact xs_ (by decide) | exact xc_ (by decide) | exact x31_ (by decide) | omega)) (c_151.h7 (by first | assumption | decide | exact xs_ (by decide) | exact xc_ (by decide) | exact x31_ (by decide) | omega) (by first | assumption | decide | exact xs_ (by decide) | exact xc_ (by decide) | exact x31_ (by decide) | omega)).2 (fun q => by have := c_151.size (i := l) (by first | assumption | decide | exact xs_ (by decide) | exact xc_ (by decide) | exact x31_ (by decide) | omega) (by first | assumption | decide | exact xs_ (by decide) | exact xc_ (by decide) | exact x31_ (by decide) | omega) q; omega) (fun ρ42 Rρ42 => ?_)
                        refine r_iincE hC ((w36 + 1)) dX6_burst_154 rfl rfl (by first | assumption | decide | exact xs_ (by decide) | exact xc_ (by decide) | exact x31_ (by decide) | omega) (by unfold inR; omega) ?_
                        refine r_goto (tgt := 121) hC dX6_burst_157 rfl ?_
                        exact ih121 ((w36 + 1)) ρ42 (plM (gvM W37 l (((V 7 l 10) + 1) + w36)) l (((V 7 l 10) + 1) + w36) (v + (z * w36))) (by first | assumption | decide | exact xs_ (by decide) | exact xc_ (by decide) | exact x31_ (by decide) | omega) (by first | assumption | decide | exact xs_ (by decide) | exact xc_ (by decide) | exact x31_ (by decide) | omega) (by first | assumption | decide | exact xs_ (by decide) | exact xc_ (by decide) | exact x31_ (by decide) | omega)  (⟨Rρ42.1, Rρ42.2.1, Rρ42.2.2⟩) ((CI.pl c_151 (by first | assumption | decide | exact xs_ (by decide) | exact xc_ (by decide) | exact x31_ (by decide) | omega) (by first | assumption | decide | exact xs_ (by decide) | exact xc_ (by decide) | exact x31_ (by decide) | omega) nf_151)) ((GJ.pl j_151 (by first | assumption | decide | exact xs_ (by decide) | exact xc_ (by decide) | exact x31_ (by decide) | omega) (by first | assumption | decide | exact xs_ (by decide) | exact xc_ (by decide) | exact x31_ (by decide) | omega) (c_151.h7 (by first | assumption | decide | exact xs_ (by decide) | exact xc_ (by decide) | exact x31_ (by decide) | omega) (by first | assumption | decide | exact xs_ (by decide) | exact xc_ (by decide) | exact x31_ (by decide) | omega)) (by first | assumption | decide | exact xs_ (by decide) | exact xc_ (by decide) | exact x31_ (by decide) | omega) (by first | assumption | decide | exact xs_ (by decide) | exact xc_ (by decide) | exact x31_ (by decide) | omega))) (by have q := m3_121; rw [show (m - w36).toNat = (m - (w36 + 1)).toNat + 1 from by omega, bst_s, et_] at q; rw [show v + (w36 + 1) * z = v + w36 * z + z from by rw [Int.add_mul]; omega, show v + z * w36 = v + w36 * z from by rw [Int.mul_comm]]; exact q) (by rw [pl_10, gv_7 m1_121 (by first | assumption | decide | exact xs_ (by decide) | exact xc_ (by decide) | exact x31_ (by decide) | omega) (by first | assumption | decide | exact xs_ (by decide) | exact xc_ (by decide) | exact x31_ (by decide) | omega)]; omega) ((plM_nx (by unfold PS; omega)).trans ((gv_7 m1_121 (by first | assumption | decide | exact xs_ (by decide) | exact xc_ (by decide) | exact x31_ (by decide) | omega) (by first | assumption | decide | exact xs_ (by decide) | exact xc_ (by decide) | exact x31_ (by decide) | omega)).trans m5_121)) (fun q => by have hp := pl_6 (CI.gv m1_121 (i := l) (t := (((V 7 l 10) + 1) + w36))) (i := l) (t := (((V 7 l 10) + 1) + w36)) (v := (v + (z * w36))) (by first | assumption | decide | exact xs_ (by decide) | exact xc_ (by decide) | exact x31_ (by decide) | omega) (by first | assumption | decide | exact xs_ (by decide) | exact xc_ (by decide) | exact x31_ (by decide) | omega); rw [gv_7 m1_121 (by first | assumption | decide | exact xs_ (by decide) | exact xc_ (by decide) | exact x31_ (by decide) | omega) (by first | assumption | decide | exact xs_ (by decide) | exact xc_ (by decide) | exact x31_ (by decide) | omega)] at hp; have := m6_121 q; omega) ((plM_nx (by unfold PS; omega)).trans ((gvM_nx (by unfold PS; omega) (by first | assumption | decide | exact xs_ (by decide) | exact xc_ (by decide) | exact x31_ (by decide) | omega)).trans m7_121)) (fun x a b c d => by rw [plM_nx (by unfold PS; omega), plM_nx (by unfold PS; omega), gvM_nx (by rw [m7_121]; unfold PS; omega) (by first | assumption | decide | exact xs_ (by decide) | exact xc_ (by decide) | exact x31_ (by decide) | omega), gvM_nx (by rw [m7_121]; unfold PS; omega) (by first | assumption | decide | exact xs_ (by decide) | exact xc_ (by decide) | exact x31_ (by decide) | omega)]; exact m8_121 x a b c d)
                  exact L121 42 (0) σ V (by first | assumption | decide | exact xs_ (by decide) | exact xc_ (by decide) | exact x31_ (by decide) | omega) (by first | assumption | decide | exact xs_ (by decide) | exact xc_ (by decide) | exact x31_ (by decide) | omega) (by first | assumption | decide | exact xs_ (by decide) | exact xc_ (by decide) | exact x31_ (by decide) | omega)  (⟨hR.1, hR.2.1, hR.2.2⟩) (hG.1) (hG.2.1) (by rw [show (m - 0).toNat = m.toNat from by omega, show v + 0 * z = v from by omega]) (by first | assumption | decide | exact xs_ (by decide) | exact xc_ (by decide) | exact x31_ (by decide) | omega) (rfl) (fun _ => by omega) (rfl) (fun x a b c d => ⟨rfl, rfl⟩)
                · refine r_iconst hC dX6_burst_105 rfl ?_
                  refine y_iret hK rfl dX6_burst_106 ?_
                  have hM : buM V l m v z = V := by
                    exact if_neg (by intro q; have q2 := q.2.1; have q3 := q.2.2.1; have q4 := q.2.2.2.1; have q5 := q.2.2.2.2.1; have q6 := q.2.2.2.2.2.1; have q7 := q.2.2.2.2.2.2; have q1 := q.1; first | omega | (rw [ew (by first | assumption | decide | exact xs_ (by decide) | exact xc_ (by decide) | exact x31_ (by decide) | omega) (by first | assumption | decide | exact xs_ (by decide) | exact xc_ (by decide) | exact x31_ (by decide) | omega)] at q6; omega))
                  have hRr : buR V l m v z = (-1) := by
                    exact if_neg (by intro q; have q2 := q.2.1; have q3 := q.2.2.1; have q4 := q.2.2.2.1; have q5 := q.2.2.2.2.1; have q6 := q.2.2.2.2.2.1; have q7 := q.2.2.2.2.2.2; have q1 := q.1; first | omega | (rw [ew (by first | assumption | decide | exact xs_ (by decide) | exact xc_ (by decide) | exact x31_ (by decide) | omega) (by first | assumption | decide | exact xs_ (by decide) | exact xc_ (by decide) | exact x31_ (by decide) | omega)] at q6; omega))
                  rw [hM] at k
                  rw [hRr] at k
                  exact k _ ⟨hR.1, hR.2.1, hR.2.2⟩
            · refine r_iconst hC dX6_burst_81 rfl ?_
              refine y_iret hK rfl dX6_burst_82 ?_
              have hM : buM V l m v z = V := by
                exact if_neg (by intro q; have q2 := q.2.1; have q3 := q.2.2.1; have q4 := q.2.2.2.1; have q5 := q.2.2.2.2.1; have q6 := q.2.2.2.2.2.1; have q7 := q.2.2.2.2.2.2; have q1 := q.1; first | omega | (rw [ew (by first | assumption | decide | exact xs_ (by decide) | exact xc_ (by decide) | exact x31_ (by decide) | omega) (by first | assumption | decide | exact xs_ (by decide) | exact xc_ (by decide) | exact x31_ (by decide) | omega)] at q6; omega))
              have hRr : buR V l m v z = (-1) := by
                exact if_neg (by intro q; have q2 := q.2.1; have q3 := q.2.2.1; have q4 := q.2.2.2.1; have q5 := q.2.2.2.2.1; have q6 := q.2.2.2.2.2.1; have q7 := q.2.2.2.2.2.2; have q1 := q.1; first | omega | (rw [ew (by first | assumption | decide | exact xs_ (by decide) | exact xc_ (by decide) | exact x31_ (by decide) | omega) (by first | assumption | decide | exact xs_ (by decide) | exact xc_ (by decide) | exact x31_ (by decide) | omega)] at q6; omega))
              rw [hM] at k
              rw [hRr] at k
              exact k _ ⟨hR.1, hR.2.1, hR.2.2⟩
          · refine r_if_eq (tgt := 81) hC dX6_burst_64 rfl (fun h43 => ?_) (fun h43 => by omega)
            refine r_iconst hC dX6_burst_81 rfl ?_
            refine y_iret hK rfl dX6_burst_82 ?_
            have hM : buM V l m v z = V := by
              exact if_neg (by intro q; have q2 := q.2.1; have q3 := q.2.2.1; have q4 := q.2.2.2.1; have q5 := q.2.2.2.2.1; have q6 := q.2.2.2.2.2.1; have q7 := q.2.2.2.2.2.2; have q1 := q.1; first | omega | (rw [ew (by first | assumption | decide | exact xs_ (by decide) | exact xc_ (by decide) | exact x31_ (by decide) | omega) (by first | assumption | decide | exact xs_ (by decide) | exact xc_ (by decide) | exact x31_ (by decide) | omega)] at q6; omega))
            have hRr : buR V l m v z = (-1) := by
              exact if_neg (by intro q; have q2 := q.2.1; have q3 := q.2.2.1; have q4 := q.2.2.2.1; have q5 := q.2.2.2.2.1; have q6 := q.2.2.2.2.2.1; have q7 := q.2.2.2.2.2.2; have q1 := q.1; first | omega | (rw [ew (by first | assumption | decide | exact xs_ (by decide) | exact xc_ (by decide) | exact x31_ (by decide) | omega) (by first | assumption | decide | exact xs_ (by decide) | exact xc_ (by decide) | exact x31_ (by decide) | omega)] at q6; omega))
            rw [hM] at k
            rw [hRr] at k
            exact k _ ⟨hR.1, hR.2.1, hR.2.2⟩
        · refine r_if_eq (tgt := 81) hC dX6_burst_44 rfl (fun h44 => ?_) (fun h44 => by omega)
          refine r_iconst hC dX6_burst_81 rfl ?_
          refine y_iret hK rfl dX6_burst_82 ?_
          have hM : buM V l m v z = V := by
            exact if_neg (by intro q; have q2 := q.2.1; have q3 := q.2.2.1; have q4 := q.2.2.2.1; have q5 := q.2.2.2.2.1; have q6 := q.2.2.2.2.2.1; have q7 := q.2.2.2.2.2.2; have q1 := q.1; first | omega | (rw [ew (by first | assumption | decide | exact xs_ (by decide) | exact xc_ (by decide) | exact x31_ (by decide) | omega) (by first | assumption | decide | exact xs_ (by decide) | exact xc_ (by decide) | exact x31_ (by decide) | omega)] at q6; omega))
          have hRr : buR V l m v z = (-1) := by
            exact if_neg (by intro q; have q2 := q.2.1; have q3 := q.2.2.1; have q4 := q.2.2.2.1; have q5 := q.2.2.2.2.1; have q6 := q.2.2.2.2.2.1; have q7 := q.2.2.2.2.2.2; have q1 := q.1; first | omega | (rw [ew (by first | assumption | decide | exact xs_ (by decide) | exact xc_ (by decide) | exact x31_ (by decide) | omega) (by first | assumption | decide | exact xs_ (by decide) | exact xc_ (by decide) | exact x31_ (by decide) | omega)] at q6; omega))
          rw [hM] at k
          rw [hRr] at k
          exact k _ ⟨hR.1, hR.2.1, hR.2.2⟩
      · refine r_if_ne (tgt := 34) hC dX6_burst_29 rfl (fun h45 => by omega) (fun h45 => ?_)
        refine r_iconst hC dX6_burst_32 rfl ?_
        refine y_iret hK rfl dX6_burst_33 ?_
        have hM : buM V l m v z = V := by
          exact if_neg (by intro q; have q2 := q.2.1; have q3 := q.2.2.1; have q4 := q.2.2.2.1; have q5 := q.2.2.2.2.1; have q6 := q.2.2.2.2.2.1; have q7 := q.2.2.2.2.2.2; have q1 := q.1; first | omega | (rw [ew (by first | assumption | decide | exact xs_ (by decide) | exact xc_ (by decide) | exact x31_ (by decide) | omega) (by first | assumption | decide | exact xs_ (by decide) | exact xc_ (by decide) | exact x31_ (by decide) | omega)] at q6; omega))
        have hRr : buR V l m v z = (-1) := by
          exact if_neg (by intro q; have q2 := q.2.1; have q3 := q.2.2.1; have q4 := q.2.2.2.1; have q5 := q.2.2.2.2.1; have q6 := q.2.2.2.2.2.1; have q7 := q.2.2.2.2.2.2; have q1 := q.1; first | omega | (rw [ew (by first | assumption | decide | exact xs_ (by decide) | exact xc_ (by decide) | exact x31_ (by decide) | omega) (by first | assumption | decide | exact xs_ (by decide) | exact xc_ (by decide) | exact x31_ (by decide) | omega)] at q6; omega))
        rw [hM] at k
        rw [hRr] at k
        exact k _ ⟨hR.1, hR.2.1, hR.2.2⟩
    · refine r_if_eq (tgt := 32) hC dX6_burst_15 rfl (fun h46 => ?_) (fun h46 => by omega)
      refine r_iconst hC dX6_burst_32 rfl ?_
      refine y_iret hK rfl dX6_burst_33 ?_
      have hM : buM V l m v z = V := by
        exact if_neg (by intro q; have q2 := q.2.1; have q3 := q.2.2.1; have q4 := q.2.2.2.1; have q5 := q.2.2.2.2.1; have q6 := q.2.2.2.2.2.1; have q7 := q.2.2.2.2.2.2; have q1 := q.1; first | omega | (rw [ew (by first | assumption | decide | exact xs_ (by decide) | exact xc_ (by decide) | exact x31_ (by decide) | omega) (by first | assumption | decide | exact xs_ (by decide) | exact xc_ (by decide) | exact x31_ (by decide) | omega)] at q6; omega))
      have hRr : buR V l m v z = (-1) := by
        exact if_neg (by intro q; have q2 := q.2.1; have q3 := q.2.2.1; have q4 := q.2.2.2.1; have q5 := q.2.2.2.2.1; have q6 := q.2.2.2.2.2.1; have q7 := q.2.2.2.2.2.2; have q1 := q.1; first | omega | (rw [ew (by first | assumption | decide | exact xs_ (by decide) | exact xc_ (by decide) | exact x31_ (by decide) | omega) (by first | assumption | decide | exact xs_ (by decide) | exact xc_ (by decide) | exact x31_ (by decide) | omega)] at q6; omega))
      rw [hM] at k
      rw [hRr] at k
      exact k _ ⟨hR.1, hR.2.1, hR.2.2⟩
  · unfold opV at h1
    refine r_if_eq (tgt := 32) hC dX6_burst_5 rfl (fun h47 => ?_) (fun h47 => by omega)
    refine r_iconst hC dX6_burst_32 rfl ?_
    refine y_iret hK rfl dX6_burst_33 ?_
    have hM : buM V l m v z = V := by
      exact if_neg (by intro q; have q2 := q.2.1; have q3 := q.2.2.1; have q4 := q.2.2.2.1; have q5 := q.2.2.2.2.1; have q6 := q.2.2.2.2.2.1; have q7 := q.2.2.2.2.2.2; have q1 := q.1; first | omega | (rw [ew (by first | assumption | decide | exact xs_ (by decide) | exact xc_ (by decide) | exact x31_ (by decide) | omega) (by first | assumption | decide | exact xs_ (by decide) | exact xc_ (by decide) | exact x31_ (by decide) | omega)] at q6; omega))
    have hRr : buR V l m v z = (-1) := by
      exact if_neg (by intro q; have q2 := q.2.1; have q3 := q.2.2.1; have q4 := q.2.2.2.1; have q5 := q.2.2.2.2.1; have q6 := q.2.2.2.2.2.1; have q7 := q.2.2.2.2.2.2; have q1 := q.1; first | omega | (rw [ew (by first | assumption | decide | exact xs_ (by decide) | exact xc_ (by decide) | exact x31_ (by decide) | omega) (by first | assumption | decide | exact xs_ (by decide) | exact xc_ (by decide) | exact x31_ (by decide) | omega)] at q6; omega))
    rw [hM] at k
    rw [hRr] at k
    exact k _ ⟨hR.1, hR.2.1, hR.2.2⟩
theorem y_leave {eb : Bool} {t : Int} {V : Mm} {d : Nat} {P : Option Vl → Mm → Prop} {σ : Mm} {l m : Int}  {σ0 : Mm} (ht : 6 ≤ t ∧ t ≤ 7) (hR : RS t σ0 V σ) (hG : GI V)  (k : ∀ ρ : Mm, RS t σ0 (leM V l m) ρ → P (some (vI (leR V l m))) ρ) : WT (true, eb, true) (d + 9) 207 [vR 30 0, vI l, vI m] σ P := by
  refine WT_in fun K hK => ?_
  have hK : StpY (true, eb, true) cX6_leave RX6 (some .int) (WT (true, eb, true) (d + 8)) P K := hK
  have hM := hK.1
  have hC := hK.1.1
  show K 0 [some (vR 30 0), some (vI l), some (vI m), none] [] σ
  refine r_rngz hC (fun g0 => ?_)
  have r_l : -2147483648 ≤ l ∧ l ≤ 2147483647 := inR_le (g0 (vI l) (by simp))
  have r_m : -2147483648 ≤ m ∧ m ≤ 2147483647 := inR_le (g0 (vI m) (by simp))
  refine r_aload_n hC dX6_leave_0 rfl ?_
  refine r_iload_n hC dX6_leave_1 rfl ?_
  refine z_inv1 hM dX6_leave_2 vl_RX6_124 rfl rfl rfl (Nat.le_of_ble_eq_true rfl) (Nat.le_of_ble_eq_true rfl) ?_
  refine y_isLane (V := V) ht ⟨hR.1, hR.2.1, hR.2.2⟩ (fun h1 => ?_) (fun h1 => ?_)
  · unfold opV at h1
    refine r_if_eq (tgt := 21) hC dX6_leave_5 rfl (fun h2 => by omega) (fun h2 => ?_)
    have h6 := hG.1.h7 (l := l) (by first | assumption | decide | exact xs_ (by decide) | exact xc_ (by decide) | exact x31_ (by decide) | omega) (by first | assumption | decide | exact xs_ (by decide) | exact xc_ (by decide) | exact x31_ (by decide) | omega)
    have h10 := hG.2.1.2.1 l (by first | assumption | decide | exact xs_ (by decide) | exact xc_ (by decide) | exact x31_ (by decide) | omega) (by first | assumption | decide | exact xs_ (by decide) | exact xc_ (by decide) | exact x31_ (by decide) | omega)
    have hlk := hG.2.1.2.2.2.2.2.1 l (by first | assumption | decide | exact xs_ (by decide) | exact xc_ (by decide) | exact x31_ (by decide) | omega) (by first | assumption | decide | exact xs_ (by decide) | exact xc_ (by decide) | exact x31_ (by decide) | omega)
    unfold opV at hlk
    have hk13 : -1 ≤ V 13 l 0 ∧ V 13 l 0 ≤ 3 := by omega
    have hkn := hG.1.2.2.2 l (by first | assumption | decide | exact xs_ (by decide) | exact xc_ (by decide) | exact x31_ (by decide) | omega) (by first | assumption | decide | exact xs_ (by decide) | exact xc_ (by decide) | exact x31_ (by decide) | omega)
    refine r_iload_n hC dX6_leave_8 rfl ?_
    refine r_iconst hC dX6_leave_9 rfl ?_
    refine r_aload_n hC dX6_leave_10 rfl ?_
    refine r_iload_n hC dX6_leave_11 rfl ?_
    refine z_inv1 hM dX6_leave_12 vl_RX6_116 rfl rfl rfl (Nat.le_of_ble_eq_true rfl) (Nat.le_of_ble_eq_true rfl) ?_
    refine y_heldOf (by first | assumption | decide | exact xs_ (by decide) | exact xc_ (by decide) | exact x31_ (by decide) | omega) (fun o3 => ?_)
    have e4 : σ 31 0 (22 * l + 5) = (V 7 l 6) := (hR.1.a7 (s := 6) (f := 5) (by first | assumption | decide | exact xs_ (by decide) | exact xc_ (by decide) | exact x31_ (by decide) | omega) (by first | assumption | decide | exact xs_ (by decide) | exact xc_ (by decide) | exact x31_ (by decide) | omega) (by first | assumption | decide | exact xs_ (by decide) | exact xc_ (by decide) | exact x31_ (by decide) | omega)).trans (rfl)
    rw [e4] at o3 ⊢
    have qo3 : 0 ≤ (V 7 l 6) ∧ (V 7 l 6) ≤ 121 := o3.1 (by first | assumption | decide | exact xs_ (by decide) | exact xc_ (by decide) | exact x31_ (by decide) | omega)
    refine z_ins3 hM dX6_leave_15 tl_RX6_76 rfl (Nat.le_of_ble_eq_true rfl) (Nat.le_of_ble_eq_true rfl) ?_
    refine m_isIn (fun h6 => ?_) (fun h6 => ?_)
    · refine r_if_ne (tgt := 23) hC dX6_leave_18 rfl (fun h7 => ?_) (fun h7 => by omega)
      refine r_iconst hC dX6_leave_23 rfl ?_
      refine r_istore_n hC dX6_leave_24 rfl ?_
      have L25 : ∀ (n25 : Nat) (w8 : Int) (ρ9 W9 : Mm), 0 ≤ w8 ∧ w8 ≤ 121 → ((w8) ≤ m) → 121 - w8 < (n25 : Int) → (RS t σ0 W9 ρ9) → (CI W9) → (GJ W9) → (dpN l (m - (w8)).toNat W9 = dpN l (m).toNat V) → (W9 7 l 6 = V 7 l 6 - (w8)) → K 25 [some (vR 30 0), some (vI l), some (vI m), some (vI w8)] [] ρ9 := by
        intro n25
        induction n25 with
        | zero => intro w8 ρ9 W9 f_w8 i0_25 hm  m0_25 m1_25 m2_25 m3_25 m4_25; omega
        | succ n25 ih25 =>
          intro w8 ρ9 W9 f_w8 i0_25 hm25  m0_25 m1_25 m2_25 m3_25 m4_25
          have hW6 := m4_25
          refine r_iload_n hC dX6_leave_25 rfl ?_
          refine r_iload_n hC dX6_leave_26 rfl ?_
          refine r_icmp_ge (tgt := 41) hC dX6_leave_27 rfl (fun h10 => ?_) (fun h10 => ?_)
          · refine r_aload_n hC dX6_leave_41 rfl ?_
            refine r_iload_n hC dX6_leave_42 rfl ?_
            refine z_inv1 hM dX6_leave_43 vl_RX6_116 rfl rfl rfl (Nat.le_of_ble_eq_true rfl) (Nat.le_of_ble_eq_true rfl) ?_
            refine y_heldOf (by first | assumption | decide | exact xs_ (by decide) | exact xc_ (by decide) | exact x31_ (by decide) | omega) (fun o11 => ?_)
            have e12 : ρ9 31 0 (22 * l + 5) = (W9 7 l 6) := (m0_25.1.a7 (s := 6) (f := 5) (by first | assumption | decide | exact xs_ (by decide) | exact xc_ (by decide) | exact x31_ (by decide) | omega) (by first | assumption | decide | exact xs_ (by decide) | exact xc_ (by decide) | exact x31_ (by decide) | omega) (by first | assumption | decide | exact xs_ (by decide) | exact xc_ (by decide) | exact x31_ (by decide) | omega)).trans (rfl)
            rw [e12] at o11 ⊢
            have qo11 : 0 ≤ (W9 7 l 6) ∧ (W9 7 l 6) ≤ 121 := o11.1 (by first | assumption | decide | exact xs_ (by decide) | exact xc_ (by decide) | exact x31_ (by decide) | omega)
            refine y_iret hK rfl dX6_leave_46 ?_
            have hM : leM V l m = W9 := by
              have e0 : dpN l (m).toNat V = W9 := by
                rw [← m3_25, show (m - w8).toNat = 0 from by omega]
                rfl
              unfold leM
              rw [if_pos (by first | assumption | decide | exact xs_ (by decide) | exact xc_ (by decide) | exact x31_ (by decide) | omega), e0]
            have hRr : leR V l m = (W9 7 l 6) := by
              unfold leR
              rw [if_pos (by first | assumption | decide | exact xs_ (by decide) | exact xc_ (by decide) | exact x31_ (by decide) | omega), hM]
            rw [hM] at k
            rw [hRr] at k
            exact k _ ⟨m0_25.1, m0_25.2.1, m0_25.2.2⟩
          · refine r_aload_n hC dX6_leave_30 rfl ?_
            refine r_iload_n hC dX6_leave_31 rfl ?_
            refine z_inv1 hM dX6_leave_32 vl_RX6_233 rfl rfl rfl (Nat.le_of_ble_eq_true rfl) (Nat.le_of_ble_eq_true rfl) ?_
            have hW1 : 1 ≤ W9 7 l 6 := by omega
            refine y_drop (V := W9) (by first | assumption | decide | exact xs_ (by decide) | exact xc_ (by decide) | exact x31_ (by decide) | omega) ht ⟨m0_25.1, m0_25.2.1, m0_25.2.2⟩ (by first | assumption | decide | exact xs_ (by decide) | exact xc_ (by decide) | exact x31_ (by decide) | omega) (m2_25.lk m1_25 (by first | assumption | decide | exact xs_ (by decide) | exact xc_ (by decide) | exact x31_ (by decide) | omega) (by first | assumption | decide | exact xs_ (by decide) | exact xc_ (by decide) | exact x31_ (by decide) | omega)) (m1_25.2.1 l (by first | assumption | decide | exact xs_ (by decide) | exact xc_ (by decide) | exact x31_ (by decide) | omega) (by first | assumption | decide | exact xs_ (by decide) | exact xc_ (by decide) | exact x31_ (by decide) | omega)) hW1 (fun ρ13 Rρ13 => ?_)
            refine r_iincE hC ((w8 + 1)) dX6_leave_35 rfl rfl (by first | assumption | decide | exact xs_ (by decide) | exact xc_ (by decide) | exact x31_ (by decide) | omega) (by unfold inR; omega) ?_
            refine r_goto (tgt := 25) hC dX6_leave_38 rfl ?_
            exact ih25 ((w8 + 1)) ρ13 (dpM W9 l) (by first | assumption | decide | exact xs_ (by decide) | exact xc_ (by decide) | exact x31_ (by decide) | omega) (by first | assumption | decide | exact xs_ (by decide) | exact xc_ (by decide) | exact x31_ (by decide) | omega) (by first | assumption | decide | exact xs_ (by decide) | exact xc_ (by decide) | exact x31_ (by decide) | omega)  (⟨Rρ13.1, Rρ13.2.1, Rρ13.2.2⟩) ((CI.dp m1_25 (by first | assumption | decide | exact xs_ (by decide) | exact xc_ (by decide) | exact x31_ (by decide) | omega) (by first | assumption | decide | exact xs_ (by decide) | exact xc_ (by decide) | exact x31_ (by decide) | omega) hW1)) ((GJ.dp m2_25 (by first | assumption | decide | exact xs_ (by decide) | exact xc_ (by decide) | exact x31_ (by decide) | omega) (by first | assumption | decide | exact xs_ (by decide) | exact xc_ (by decide) | exact x31_ (by decide) | omega) (by have := m1_25.h7 (l := l) (by first | assumption | decide | exact xs_ (by decide) | exact xc_ (by decide) | exact x31_ (by decide) | omega) (by first | assumption | decide | exact xs_ (by decide) | exact xc_ (by decide) | exact x31_ (by decide) | omega); omega))) (by have q := m3_25; rw [show (m - w8).toNat = (m - (w8 + 1)).toNat + 1 from by omega, dpN_s] at q; exact q) (by rw [dpM_6]; omega)
      exact L25 123 (0) σ V (by first | assumption | decide | exact xs_ (by decide) | exact xc_ (by decide) | exact x31_ (by decide) | omega) (by first | assumption | decide | exact xs_ (by decide) | exact xc_ (by decide) | exact x31_ (by decide) | omega) (by first | assumption | decide | exact xs_ (by decide) | exact xc_ (by decide) | exact x31_ (by decide) | omega)  (⟨hR.1, hR.2.1, hR.2.2⟩) (hG.1) (hG.2.1) (by rw [show (m - 0).toNat = (m).toNat from by omega]) (by first | assumption | decide | exact xs_ (by decide) | exact xc_ (by decide) | exact x31_ (by decide) | omega)
    · refine r_if_ne (tgt := 23) hC dX6_leave_18 rfl (fun h14 => by omega) (fun h14 => ?_)
      refine r_iconst hC dX6_leave_21 rfl ?_
      refine y_iret hK rfl dX6_leave_22 ?_
      have hM : leM V l m = V := by
        exact if_neg (by first | assumption | decide | exact xs_ (by decide) | exact xc_ (by decide) | exact x31_ (by decide) | omega)
      have hRr : leR V l m = (-1) := by
        exact if_neg (by first | assumption | decide | exact xs_ (by decide) | exact xc_ (by decide) | exact x31_ (by decide) | omega)
      rw [hM] at k
      rw [hRr] at k
      exact k _ ⟨hR.1, hR.2.1, hR.2.2⟩
  · unfold opV at h1
    refine r_if_eq (tgt := 21) hC dX6_leave_5 rfl (fun h15 => ?_) (fun h15 => by omega)
    refine r_iconst hC dX6_leave_21 rfl ?_
    refine y_iret hK rfl dX6_leave_22 ?_
    have hM : leM V l m = V := by
      exact if_neg (by first | assumption | decide | exact xs_ (by decide) | exact xc_ (by decide) | exact x31_ (by decide) | omega)
    have hRr : leR V l m = (-1) := by
      exact if_neg (by first | assumption | decide | exact xs_ (by decide) | exact xc_ (by decide) | exact x31_ (by decide) | omega)
    rw [hM] at k
    rw [hRr] at k
    exact k _ ⟨hR.1, hR.2.1, hR.2.2⟩
theorem y_until {eb : Bool} {t : Int} {V : Mm} {d : Nat} {P : Option Vl → Mm → Prop} {σ : Mm} {l z : Int}  {σ0 : Mm} (ht : 6 ≤ t ∧ t ≤ 7) (hR : RS t σ0 V σ) (hG : GI V)  (k : ∀ ρ : Mm, RS t σ0 (unM V l z) ρ → P (some (vI (unR V l z))) ρ) : WT (true, eb, true) (d + 9) 208 [vR 30 0, vI l, vI z] σ P := by
  refine WT_in fun K hK => ?_
  have hK : StpY (true, eb, true) cX6_until RX6 (some .int) (WT (true, eb, true) (d + 8)) P K := hK
  have hM := hK.1
  have hC := hK.1.1
  show K 0 [some (vR 30 0), some (vI l), some (vI z), none, none] [] σ
  refine r_rngz hC (fun g0 => ?_)
  have r_l : -2147483648 ≤ l ∧ l ≤ 2147483647 := inR_le (g0 (vI l) (by simp))
  have r_z : -2147483648 ≤ z ∧ z ≤ 2147483647 := inR_le (g0 (vI z) (by simp))
  refine r_aload_n hC dX6_until_0 rfl ?_
  refine r_iload_n hC dX6_until_1 rfl ?_
  refine z_inv1 hM dX6_until_2 vl_RX6_124 rfl rfl rfl (Nat.le_of_ble_eq_true rfl) (Nat.le_of_ble_eq_true rfl) ?_
  refine y_isLane (V := V) ht ⟨hR.1, hR.2.1, hR.2.2⟩ (fun h1 => ?_) (fun h1 => ?_)
  · unfold opV at h1
    refine r_if_ne (tgt := 10) hC dX6_until_5 rfl (fun h2 => ?_) (fun h2 => by omega)
    have h6 := hG.1.h7 (l := l) (by first | assumption | decide | exact xs_ (by decide) | exact xc_ (by decide) | exact x31_ (by decide) | omega) (by first | assumption | decide | exact xs_ (by decide) | exact xc_ (by decide) | exact x31_ (by decide) | omega)
    have h10 := hG.2.1.2.1 l (by first | assumption | decide | exact xs_ (by decide) | exact xc_ (by decide) | exact x31_ (by decide) | omega) (by first | assumption | decide | exact xs_ (by decide) | exact xc_ (by decide) | exact x31_ (by decide) | omega)
    have hlk := hG.2.1.2.2.2.2.2.1 l (by first | assumption | decide | exact xs_ (by decide) | exact xc_ (by decide) | exact x31_ (by decide) | omega) (by first | assumption | decide | exact xs_ (by decide) | exact xc_ (by decide) | exact x31_ (by decide) | omega)
    unfold opV at hlk
    have hk13 : -1 ≤ V 13 l 0 ∧ V 13 l 0 ≤ 3 := by omega
    have hkn := hG.1.2.2.2 l (by first | assumption | decide | exact xs_ (by decide) | exact xc_ (by decide) | exact x31_ (by decide) | omega) (by first | assumption | decide | exact xs_ (by decide) | exact xc_ (by decide) | exact x31_ (by decide) | omega)
    refine r_aload_n hC dX6_until_10 rfl ?_
    refine r_iload_n hC dX6_until_11 rfl ?_
    refine r_iload_n hC dX6_until_12 rfl ?_
    refine z_inv2 hM dX6_until_13 vl_RX6_224 rfl rfl rfl (Nat.le_of_ble_eq_true rfl) (Nat.le_of_ble_eq_true rfl) ?_
    refine y_placeOf (by first | assumption | decide | exact xs_ (by decide) | exact xc_ (by decide) | exact x31_ (by decide) | omega) ht ⟨hR.1, hR.2.1, hR.2.2⟩ (by first | assumption | decide | exact xs_ (by decide) | exact xc_ (by decide) | exact x31_ (by decide) | omega) (hG.2.1.1 l (by first | assumption | decide | exact xs_ (by decide) | exact xc_ (by decide) | exact x31_ (by decide) | omega) (by first | assumption | decide | exact xs_ (by decide) | exact xc_ (by decide) | exact x31_ (by decide) | omega)) (by first | assumption | decide | exact xs_ (by decide) | exact xc_ (by decide) | exact x31_ (by decide) | omega) (fun h3 => ?_)
    refine r_istore_n hC dX6_until_16 rfl ?_
    refine r_iconst hC dX6_until_17 rfl ?_
    refine r_istore hC dX6_until_18 rfl ?_
    have L20 : ∀ (n20 : Nat) (w4 : Int) (ρ5 W5 : Mm), 0 ≤ w4 ∧ w4 ≤ 121 → ((w4) ≤ hU V l z) → 121 - w4 < (n20 : Int) → (RS t σ0 W5 ρ5) → (CI W5) → (GJ W5) → (dpN l (hU V l z - (w4)).toNat W5 = dpN l (hU V l z).toNat V) → (W5 7 l 6 = V 7 l 6 - (w4)) → K 20 [some (vR 30 0), some (vI l), some (vI z), some (vI (hU V l z)), some (vI w4)] [] ρ5 := by
      intro n20
      induction n20 with
      | zero => intro w4 ρ5 W5 f_w4 i0_20 hm  m0_20 m1_20 m2_20 m3_20 m4_20; omega
      | succ n20 ih20 =>
        intro w4 ρ5 W5 f_w4 i0_20 hm20  m0_20 m1_20 m2_20 m3_20 m4_20
        have hW6 := m4_20
        refine r_iload hC dX6_until_20 rfl ?_
        refine r_iload_n hC dX6_until_22 rfl ?_
        refine r_icmp_ge (tgt := 37) hC dX6_until_23 rfl (fun h6 => ?_) (fun h6 => ?_)
        · refine r_iload_n hC dX6_until_37 rfl ?_
          refine y_iret hK rfl dX6_until_38 ?_
          have hM : unM V l z = W5 := by
            have e0 : dpN l (hU V l z).toNat V = W5 := by
              rw [← m3_20, show (hU V l z - w4).toNat = 0 from by omega]
              rfl
            unfold unM
            rw [if_pos (by first | assumption | decide | exact xs_ (by decide) | exact xc_ (by decide) | exact x31_ (by decide) | omega), e0]
          have hRr : unR V l z = (hU V l z) := by
            unfold unR
            rw [if_pos (by first | assumption | decide | exact xs_ (by decide) | exact xc_ (by decide) | exact x31_ (by decide) | omega)]
          rw [hM] at k
          rw [hRr] at k
          exact k _ ⟨m0_20.1, m0_20.2.1, m0_20.2.2⟩
        · refine r_aload_n hC dX6_until_26 rfl ?_
          refine r_iload_n hC dX6_until_27 rfl ?_
          refine z_inv1 hM dX6_until_28 vl_RX6_233 rfl rfl rfl (Nat.le_of_ble_eq_true rfl) (Nat.le_of_ble_eq_true rfl) ?_
          have hW1 : 1 ≤ W5 7 l 6 := by omega
          refine y_drop (V := W5) (by first | assumption | decide | exact xs_ (by decide) | exact xc_ (by decide) | exact x31_ (by decide) | omega) ht ⟨m0_20.1, m0_20.2.1, m0_20.2.2⟩ (by first | assumption | decide | exact xs_ (by decide) | exact xc_ (by decide) | exact x31_ (by decide) | omega) (m2_20.lk m1_20 (by first | assumption | decide | exact xs_ (by decide) | exact xc_ (by decide) | exact x31_ (by decide) | omega) (by first | assumption | decide | exact xs_ (by decide) | exact xc_ (by decide) | exact x31_ (by decide) | omega)) (m1_20.2.1 l (by first | assumption | decide | exact xs_ (by decide) | exact xc_ (by decide) | exact x31_ (by decide) | omega) (by first | assumption | decide | exact xs_ (by decide) | exact xc_ (by decide) | exact x31_ (by decide) | omega)) hW1 (fun ρ7 Rρ7 => ?_)
          refine r_iincE hC ((w4 + 1)) dX6_until_31 rfl rfl (by first | assumption | decide | exact xs_ (by decide) | exact xc_ (by decide) | exact x31_ (by decide) | omega) (by unfold inR; omega) ?_
          refine r_goto (tgt := 20) hC dX6_until_34 rfl ?_
          exact ih20 ((w4 + 1)) ρ7 (dpM W5 l) (by first | assumption | decide | exact xs_ (by decide) | exact xc_ (by decide) | exact x31_ (by decide) | omega) (by first | assumption | decide | exact xs_ (by decide) | exact xc_ (by decide) | exact x31_ (by decide) | omega) (by first | assumption | decide | exact xs_ (by decide) | exact xc_ (by decide) | exact x31_ (by decide) | omega)  (⟨Rρ7.1, Rρ7.2.1, Rρ7.2.2⟩) ((CI.dp m1_20 (by first | assumption | decide | exact xs_ (by decide) | exact xc_ (by decide) | exact x31_ (by decide) | omega) (by first | assumption | decide | exact xs_ (by decide) | exact xc_ (by decide) | exact x31_ (by decide) | omega) hW1)) ((GJ.dp m2_20 (by first | assumption | decide | exact xs_ (by decide) | exact xc_ (by decide) | exact x31_ (by decide) | omega) (by first | assumption | decide | exact xs_ (by decide) | exact xc_ (by decide) | exact x31_ (by decide) | omega) (by have := m1_20.h7 (l := l) (by first | assumption | decide | exact xs_ (by decide) | exact xc_ (by decide) | exact x31_ (by decide) | omega) (by first | assumption | decide | exact xs_ (by decide) | exact xc_ (by decide) | exact x31_ (by decide) | omega); omega))) (by have q := m3_20; rw [show (hU V l z - w4).toNat = (hU V l z - (w4 + 1)).toNat + 1 from by omega, dpN_s] at q; exact q) (by rw [dpM_6]; omega)
    exact L20 123 (0) σ V (by first | assumption | decide | exact xs_ (by decide) | exact xc_ (by decide) | exact x31_ (by decide) | omega) (by first | assumption | decide | exact xs_ (by decide) | exact xc_ (by decide) | exact x31_ (by decide) | omega) (by first | assumption | decide | exact xs_ (by decide) | exact xc_ (by decide) | exact x31_ (by decide) | omega)  (⟨hR.1, hR.2.1, hR.2.2⟩) (hG.1) (hG.2.1) (by rw [show (hU V l z - 0).toNat = (hU V l z).toNat from by omega]) (by first | assumption | decide | exact xs_ (by decide) | exact xc_ (by decide) | exact x31_ (by decide) | omega)
  · unfold opV at h1
    refine r_if_ne (tgt := 10) hC dX6_until_5 rfl (fun h8 => by omega) (fun h8 => ?_)
    refine r_iconst hC dX6_until_8 rfl ?_
    refine y_iret hK rfl dX6_until_9 ?_
    have hM : unM V l z = V := by
      exact if_neg (by first | assumption | decide | exact xs_ (by decide) | exact xc_ (by decide) | exact x31_ (by decide) | omega)
    have hRr : unR V l z = (-1) := by
      exact if_neg (by first | assumption | decide | exact xs_ (by decide) | exact xc_ (by decide) | exact x31_ (by decide) | omega)
    rw [hM] at k
    rw [hRr] at k
    exact k _ ⟨hR.1, hR.2.1, hR.2.2⟩
theorem y_isEvent {eb : Bool} {t : Int} {V : Mm} {d : Nat} {P : Option Vl → Mm → Prop} {σ : Mm} {l x : Int}  {σ0 : Mm} (ht : 6 ≤ t ∧ t ≤ 7) (hR : RS t σ0 V σ)  (k1 : evC V l x → P (some (vI 1)) σ) (k0 : ¬ evC V l x → P (some (vI 0)) σ) : WT (true, eb, true) (d + 3) 209 [vR 30 0, vI l, vI x] σ P := by
  refine WT_in fun K hK => ?_
  have hK : StpY (true, eb, true) cX6_isEvent RX6 (some .boolean) (WT (true, eb, true) (d + 2)) P K := hK
  have hM := hK.1
  have hC := hK.1.1
  show K 0 [some (vR 30 0), some (vI l), some (vI x)] [] σ
  refine r_rngz hC (fun g0 => ?_)
  have r_l : -2147483648 ≤ l ∧ l ≤ 2147483647 := inR_le (g0 (vI l) (by simp))
  have r_x : -2147483648 ≤ x ∧ x ≤ 2147483647 := inR_le (g0 (vI x) (by simp))
  refine r_aload_n hC dX6_isEvent_0 rfl ?_
  refine r_iload_n hC dX6_isEvent_1 rfl ?_
  refine z_inv1 hM dX6_isEvent_2 vl_RX6_124 rfl rfl rfl (Nat.le_of_ble_eq_true rfl) (Nat.le_of_ble_eq_true rfl) ?_
  refine y_isLane (V := V) ht ⟨hR.1, hR.2.1, hR.2.2⟩ (fun h1 => ?_) (fun h1 => ?_)
  · unfold opV at h1
    refine r_if_eq (tgt := 27) hC dX6_isEvent_5 rfl (fun h2 => by omega) (fun h2 => ?_)
    refine r_iload_n hC dX6_isEvent_8 rfl ?_
    refine r_iconst hC dX6_isEvent_9 rfl ?_
    refine r_aload_n hC dX6_isEvent_10 rfl ?_
    refine r_iload_n hC dX6_isEvent_11 rfl ?_
    refine z_inv1 hM dX6_isEvent_12 vl_RX6_116 rfl rfl rfl (Nat.le_of_ble_eq_true rfl) (Nat.le_of_ble_eq_true rfl) ?_
    refine y_heldOf (by first | assumption | decide | exact xs_ (by decide) | exact xc_ (by decide) | exact x31_ (by decide) | omega) (fun o3 => ?_)
    have e4 : σ 31 0 (22 * l + 5) = (V 7 l 6) := (hR.1.a7 (s := 6) (f := 5) (by first | assumption | decide | exact xs_ (by decide) | exact xc_ (by decide) | exact x31_ (by decide) | omega) (by first | assumption | decide | exact xs_ (by decide) | exact xc_ (by decide) | exact x31_ (by decide) | omega) (by first | assumption | decide | exact xs_ (by decide) | exact xc_ (by decide) | exact x31_ (by decide) | omega)).trans (rfl)
    rw [e4] at o3 ⊢
    have qo3 : 0 ≤ (V 7 l 6) ∧ (V 7 l 6) ≤ 121 := o3.1 (by first | assumption | decide | exact xs_ (by decide) | exact xc_ (by decide) | exact x31_ (by decide) | omega)
    refine r_iconst hC dX6_isEvent_15 rfl ?_
    refine r_isubE hC (((V 7 l 6) - 1)) dX6_isEvent_16 (by first | assumption | decide | exact xs_ (by decide) | exact xc_ (by decide) | exact x31_ (by decide) | omega) (by unfold inR; omega) ?_
    refine z_ins3 hM dX6_isEvent_17 tl_RX6_76 rfl (Nat.le_of_ble_eq_true rfl) (Nat.le_of_ble_eq_true rfl) ?_
    refine m_isIn (fun h6 => ?_) (fun h6 => ?_)
    · refine r_if_eq (tgt := 27) hC dX6_isEvent_20 rfl (fun h7 => by omega) (fun h7 => ?_)
      refine r_iconst hC dX6_isEvent_23 rfl ?_
      refine r_goto (tgt := 28) hC dX6_isEvent_24 rfl ?_
      refine y_zret hK rfl dX6_isEvent_28 (by first | assumption | decide | exact xs_ (by decide) | exact xc_ (by decide) | exact x31_ (by decide) | omega) ?_
      exact k1 (by first | assumption | decide | exact xs_ (by decide) | exact xc_ (by decide) | exact x31_ (by decide) | omega)
    · refine r_if_eq (tgt := 27) hC dX6_isEvent_20 rfl (fun h8 => ?_) (fun h8 => by omega)
      refine r_iconst hC dX6_isEvent_27 rfl ?_
      refine y_zret hK rfl dX6_isEvent_28 (by first | assumption | decide | exact xs_ (by decide) | exact xc_ (by decide) | exact x31_ (by decide) | omega) ?_
      exact k0 (by first | assumption | decide | exact xs_ (by decide) | exact xc_ (by decide) | exact x31_ (by decide) | omega)
  · unfold opV at h1
    refine r_if_eq (tgt := 27) hC dX6_isEvent_5 rfl (fun h9 => ?_) (fun h9 => by omega)
    refine r_iconst hC dX6_isEvent_27 rfl ?_
    refine y_zret hK rfl dX6_isEvent_28 (by first | assumption | decide | exact xs_ (by decide) | exact xc_ (by decide) | exact x31_ (by decide) | omega) ?_
    exact k0 (by first | assumption | decide | exact xs_ (by decide) | exact xc_ (by decide) | exact x31_ (by decide) | omega)
theorem y_take {eb : Bool} {t : Int} {V : Mm} {d : Nat} {P : Option Vl → Mm → Prop} {σ : Mm} {l x : Int}  {σ0 : Mm} (ht : 6 ≤ t ∧ t ≤ 7) (hR : RS t σ0 V σ) (hG : GI V)  (k : ∀ ρ : Mm, RS t σ0 (taM V l x) ρ → P (some (vI (taR V l x))) ρ) : WT (true, eb, true) (d + 8) 210 [vR 30 0, vI l, vI x] σ P := by
  refine WT_in fun K hK => ?_
  have hK : StpY (true, eb, true) cX6_take RX6 (some .int) (WT (true, eb, true) (d + 7)) P K := hK
  have hM := hK.1
  have hC := hK.1.1
  show K 0 [some (vR 30 0), some (vI l), some (vI x), none] [] σ
  refine r_rngz hC (fun g0 => ?_)
  have r_l : -2147483648 ≤ l ∧ l ≤ 2147483647 := inR_le (g0 (vI l) (by simp))
  have r_x : -2147483648 ≤ x ∧ x ≤ 2147483647 := inR_le (g0 (vI x) (by simp))
  refine r_aload_n hC dX6_take_0 rfl ?_
  refine r_iload_n hC dX6_take_1 rfl ?_
  refine r_iload_n hC dX6_take_2 rfl ?_
  refine z_inv2 hM dX6_take_3 vl_RX6_262 rfl rfl rfl (Nat.le_of_ble_eq_true rfl) (Nat.le_of_ble_eq_true rfl) ?_
  refine y_isEvent (V := V) ht ⟨hR.1, hR.2.1, hR.2.2⟩ (fun h1 => ?_) (fun h1 => ?_)
  · have h6 := hG.1.h7 (l := l) (by first | assumption | decide | exact xs_ (by decide) | exact xc_ (by decide) | exact x31_ (by decide) | omega) (by first | assumption | decide | exact xs_ (by decide) | exact xc_ (by decide) | exact x31_ (by decide) | omega)
    refine r_if_ne (tgt := 12) hC dX6_take_6 rfl (fun h2 => ?_) (fun h2 => by omega)
    refine r_aload_n hC dX6_take_12 rfl ?_
    refine z_getR hM dX6_take_13 fl_RX6_16 rfl rfl (vld_of (n := 1) rfl (by first | assumption | decide | exact xs_ (by decide) | exact xc_ (by decide) | exact x31_ (by decide) | omega) (by first | assumption | decide | exact xs_ (by decide) | exact xc_ (by decide) | exact x31_ (by decide) | omega)) ?_
    refine r_bipush hC dX6_take_16 rfl ?_
    refine r_iload_n hC dX6_take_18 rfl ?_
    refine r_imulE hC ((121 * l)) dX6_take_19 (by first | assumption | decide | exact xs_ (by decide) | exact xc_ (by decide) | exact x31_ (by decide) | omega) (by unfold inR; omega) ?_
    refine r_iload_n hC dX6_take_20 rfl ?_
    refine r_iaddE hC (((121 * l) + x)) dX6_take_21 (by first | assumption | decide | exact xs_ (by decide) | exact xc_ (by decide) | exact x31_ (by decide) | omega) (by unfold inR; omega) ?_
    refine z_iald hM dX6_take_22 rfl (by first | assumption | decide | exact xs_ (by decide) | exact xc_ (by decide) | exact x31_ (by decide) | omega) (by first | assumption | decide | exact xs_ (by decide) | exact xc_ (by decide) | exact x31_ (by decide) | omega) (fun v3 h_v3 o_v3 t_v3 => ?_)
    have w_v3 := ((t_v3 (Or.inl trivial)).trans ((show σ 33 0 ((121 * l) + x) = V 9 l x from by rw [show ((121 * l) + x) = 121 * l + x from by omega]; exact hR.1.a9 (y := x) (by first | assumption | decide | exact xs_ (by decide) | exact xc_ (by decide) | exact x31_ (by decide) | omega) (by first | assumption | decide | exact xs_ (by decide) | exact xc_ (by decide) | exact x31_ (by decide) | omega) (by first | assumption | decide | exact xs_ (by decide) | exact xc_ (by decide) | exact x31_ (by decide) | omega) (by first | assumption | decide | exact xs_ (by decide) | exact xc_ (by decide) | exact x31_ (by decide) | omega)).trans (rfl))).symm
    subst w_v3
    refine r_istore_n hC dX6_take_23 rfl ?_
    refine r_aload_n hC dX6_take_24 rfl ?_
    refine r_iload_n hC dX6_take_25 rfl ?_
    refine r_iload_n hC dX6_take_26 rfl ?_
    refine r_iconst hC dX6_take_27 rfl ?_
    refine z_inv3 hM dX6_take_28 vl_RX6_217 rfl rfl rfl (Nat.le_of_ble_eq_true rfl) (Nat.le_of_ble_eq_true rfl) ?_
    have z6_28 : V 7 l 6 = (V 7 l 6) := (rfl)
    refine y_shiftDn (V := V) (by first | assumption | decide | exact xs_ (by decide) | exact xc_ (by decide) | exact x31_ (by decide) | omega) (by first | assumption | decide | exact xs_ (by decide) | exact xc_ (by decide) | exact x31_ (by decide) | omega) ht ⟨hR.1, hR.2.1, hR.2.2⟩ (by first | assumption | decide | exact xs_ (by decide) | exact xc_ (by decide) | exact x31_ (by decide) | omega) (by first | assumption | decide | exact xs_ (by decide) | exact xc_ (by decide) | exact x31_ (by decide) | omega) (by first | assumption | decide | exact xs_ (by decide) | exact xc_ (by decide) | exact x31_ (by decide) | omega) (fun ρ4 Rρ4 => ?_)
    refine r_aload_n hC dX6_take_31 rfl ?_
    refine r_iload_n hC dX6_take_32 rfl ?_
    refine r_iconst hC dX6_take_33 rfl ?_
    refine r_iconst hC dX6_take_34 rfl ?_
    refine z_inv3 hM dX6_take_35 vl_RX6_188 rfl rfl rfl (Nat.le_of_ble_eq_true rfl) (Nat.le_of_ble_eq_true rfl) ?_
    refine y_moreE (a := (V 7 l 6)) (by first | assumption | decide | exact xs_ (by decide) | exact xc_ (by decide) | exact x31_ (by decide) | omega) (by first | assumption | decide | exact xs_ (by decide) | exact xc_ (by decide) | exact x31_ (by decide) | omega) (by first | assumption | decide | exact xs_ (by decide) | exact xc_ (by decide) | exact x31_ (by decide) | omega) ⟨fun h => by omega, by omega⟩ ((Rρ4.1.a7 (s := 6) (f := 5) (by first | assumption | decide | exact xs_ (by decide) | exact xc_ (by decide) | exact x31_ (by decide) | omega) (by first | assumption | decide | exact xs_ (by decide) | exact xc_ (by decide) | exact x31_ (by decide) | omega) (by first | assumption | decide | exact xs_ (by decide) | exact xc_ (by decide) | exact x31_ (by decide) | omega)).trans ((sdM_ne (by first | assumption | decide | exact xs_ (by decide) | exact xc_ (by decide) | exact x31_ (by decide) | omega)).trans (rfl))) (by first | assumption | decide | exact xs_ (by decide) | exact xc_ (by decide) | exact x31_ (by decide) | omega) ?_
    rw [show (V 7 l 6) + (-1) = ((V 7 l 6) - 1) from by omega]
    obtain ⟨ρ5, e_ρ5⟩ : ∃ zz_, zz_ = mu ρ4 31 0 ((22 * l) + 5) ((V 7 l 6) - 1) := ⟨_, rfl⟩
    rw [← e_ρ5]
    have Sρ5 : SB t σ0 (mu (sdM V l x (V 7 l 6 - 1)) 7 l 6 ((V 7 l 6) - 1)) ρ5 := by rw [e_ρ5, show ((22 * l) + 5) = 22 * l + 5 from by omega]; exact Rρ4.1.p7 (by first | assumption | decide | exact xs_ (by decide) | exact xc_ (by decide) | exact x31_ (by decide) | omega) (by first | assumption | decide | exact xs_ (by decide) | exact xc_ (by decide) | exact x31_ (by decide) | omega) (by first | assumption | decide | exact xs_ (by decide) | exact xc_ (by decide) | exact x31_ (by decide) | omega)
    have Kρ5 : KF t (mu (sdM V l x (V 7 l 6 - 1)) 7 l 6 ((V 7 l 6) - 1)) ρ5 := by rw [e_ρ5]; exact (Rρ4.2.1).e (fun l a b => ⟨mu_ne (by first | assumption | decide | exact xs_ (by decide) | exact xc_ (by decide) | exact x31_ (by decide) | omega), mu_ne (by first | assumption | decide | exact xs_ (by decide) | exact xc_ (by decide) | exact x31_ (by decide) | omega)⟩) |>.v (fun l => mu_ne (by first | assumption | decide | exact xs_ (by decide) | exact xc_ (by decide) | exact x31_ (by decide) | omega))
    have Fρ5 : FB (mu (sdM V l x (V 7 l 6 - 1)) 7 l 6 ((V 7 l 6) - 1)) ρ5 := by rw [e_ρ5]; exact (Rρ4.2.2).e (fun l a b => mu_ne (by first | assumption | decide | exact xs_ (by decide) | exact xc_ (by decide) | exact x31_ (by decide) | omega)) |>.v (fun l y a b c => mu_ne (by first | assumption | decide | exact xs_ (by decide) | exact xc_ (by decide) | exact x31_ (by decide) | omega))
    refine r_aload_n hC dX6_take_38 rfl ?_
    refine r_iload_n hC dX6_take_39 rfl ?_
    refine z_inv1 hM dX6_take_40 vl_RX6_227 rfl rfl rfl (Nat.le_of_ble_eq_true rfl) (Nat.le_of_ble_eq_true rfl) ?_
    have hRm : (mu (sdM V l x (V 7 l 6 - 1)) 7 l 6 ((V 7 l 6) - 1)) = remM V l x := rem_sd.symm
    have tS := Sρ5
    have tK := Kρ5
    have tF := Fρ5
    rw [hRm] at tS tK tF
    refine y_layAnew (V := remM V l x) (by first | assumption | decide | exact xs_ (by decide) | exact xc_ (by decide) | exact x31_ (by decide) | omega) ht ⟨tS, tK, tF⟩ (by first | assumption | decide | exact xs_ (by decide) | exact xc_ (by decide) | exact x31_ (by decide) | omega) (LK_rem (hG.2.1.lk hG.1 (by first | assumption | decide | exact xs_ (by decide) | exact xc_ (by decide) | exact x31_ (by decide) | omega) (by first | assumption | decide | exact xs_ (by decide) | exact xc_ (by decide) | exact x31_ (by decide) | omega)) (by first | assumption | decide | exact xs_ (by decide) | exact xc_ (by decide) | exact x31_ (by decide) | omega)) (fun ρ6 Rρ6 => ?_)
    rw [remM_6] at Rρ6
    refine r_iload_n hC dX6_take_43 rfl ?_
    refine y_iret hK rfl dX6_take_44 ?_
    have hM : taM V l x = (rgM (lyM (remM V l x) l (V 7 l 6 - 1)) l) := by
      exact if_pos (by first | assumption | decide | exact xs_ (by decide) | exact xc_ (by decide) | exact x31_ (by decide) | omega)
    have hRr : taR V l x = (V 9 l x) := by
      exact if_pos (by first | assumption | decide | exact xs_ (by decide) | exact xc_ (by decide) | exact x31_ (by decide) | omega)
    rw [hM] at k
    rw [hRr] at k
    exact k _ ⟨Rρ6.1, Rρ6.2.1, Rρ6.2.2⟩
  · refine r_if_ne (tgt := 12) hC dX6_take_6 rfl (fun h7 => by omega) (fun h7 => ?_)
    refine r_ldc hC dX6_take_9 co_RX6_160 rfl ?_
    refine y_iret hK rfl dX6_take_11 ?_
    have hM : taM V l x = V := by
      exact if_neg (by first | assumption | decide | exact xs_ (by decide) | exact xc_ (by decide) | exact x31_ (by decide) | omega)
    have hRr : taR V l x = (-2147483648) := by
      exact if_neg (by first | assumption | decide | exact xs_ (by decide) | exact xc_ (by decide) | exact x31_ (by decide) | omega)
    rw [hM] at k
    rw [hRr] at k
    exact k _ ⟨hR.1, hR.2.1, hR.2.2⟩
theorem y_alter {eb : Bool} {t : Int} {V : Mm} {d : Nat} {P : Option Vl → Mm → Prop} {σ : Mm} {l x v : Int}  {σ0 : Mm} (ht : 6 ≤ t ∧ t ≤ 7) (hR : RS t σ0 V σ) (hG : GI V)  (k : ∀ ρ : Mm, RS t σ0 (alM V l x v) ρ → P (some (vI (alR V l x v))) ρ) : WT (true, eb, true) (d + 8) 211 [vR 30 0, vI l, vI x, vI v] σ P := by
  refine WT_in fun K hK => ?_
  have hK : StpY (true, eb, true) cX6_alter RX6 (some .boolean) (WT (true, eb, true) (d + 7)) P K := hK
  have hM := hK.1
  have hC := hK.1.1
  show K 0 [some (vR 30 0), some (vI l), some (vI x), some (vI v)] [] σ
  refine r_rngz hC (fun g0 => ?_)
  have r_l : -2147483648 ≤ l ∧ l ≤ 2147483647 := inR_le (g0 (vI l) (by simp))
  have r_x : -2147483648 ≤ x ∧ x ≤ 2147483647 := inR_le (g0 (vI x) (by simp))
  have r_v : -2147483648 ≤ v ∧ v ≤ 2147483647 := inR_le (g0 (vI v) (by simp))
  refine r_aload_n hC dX6_alter_0 rfl ?_
  refine r_iload_n hC dX6_alter_1 rfl ?_
  refine r_iload_n hC dX6_alter_2 rfl ?_
  refine z_inv2 hM dX6_alter_3 vl_RX6_262 rfl rfl rfl (Nat.le_of_ble_eq_true rfl) (Nat.le_of_ble_eq_true rfl) ?_
  refine y_isEvent (V := V) ht ⟨hR.1, hR.2.1, hR.2.2⟩ (fun h1 => ?_) (fun h1 => ?_)
  · have h6 := hG.1.h7 (l := l) (by first | assumption | decide | exact xs_ (by decide) | exact xc_ (by decide) | exact x31_ (by decide) | omega) (by first | assumption | decide | exact xs_ (by decide) | exact xc_ (by decide) | exact x31_ (by decide) | omega)
    refine r_if_eq (tgt := 22) hC dX6_alter_6 rfl (fun h2 => by omega) (fun h2 => ?_)
    refine r_iload_n hC dX6_alter_9 rfl ?_
    refine r_sipush hC dX6_alter_10 rfl ?_
    refine r_sipush hC dX6_alter_13 rfl ?_
    refine z_ins3 hM dX6_alter_16 tl_RX6_76 rfl (Nat.le_of_ble_eq_true rfl) (Nat.le_of_ble_eq_true rfl) ?_
    refine m_isIn (fun h4 => ?_) (fun h4 => ?_)
    · refine r_if_ne (tgt := 24) hC dX6_alter_19 rfl (fun h5 => ?_) (fun h5 => by omega)
      refine r_aload_n hC dX6_alter_24 rfl ?_
      refine z_getR hM dX6_alter_25 fl_RX6_16 rfl rfl (vld_of (n := 1) rfl (by first | assumption | decide | exact xs_ (by decide) | exact xc_ (by decide) | exact x31_ (by decide) | omega) (by first | assumption | decide | exact xs_ (by decide) | exact xc_ (by decide) | exact x31_ (by decide) | omega)) ?_
      refine r_bipush hC dX6_alter_28 rfl ?_
      refine r_iload_n hC dX6_alter_30 rfl ?_
      refine r_imulE hC ((121 * l)) dX6_alter_31 (by first | assumption | decide | exact xs_ (by decide) | exact xc_ (by decide) | exact x31_ (by decide) | omega) (by unfold inR; omega) ?_
      refine r_iload_n hC dX6_alter_32 rfl ?_
      refine r_iaddE hC (((121 * l) + x)) dX6_alter_33 (by first | assumption | decide | exact xs_ (by decide) | exact xc_ (by decide) | exact x31_ (by decide) | omega) (by unfold inR; omega) ?_
      refine r_iload_n hC dX6_alter_34 rfl ?_
      refine z_iastT hM dX6_alter_35 rfl (by first | assumption | decide | exact xs_ (by decide) | exact xc_ (by decide) | exact x31_ (by decide) | omega) (by first | assumption | decide | exact xs_ (by decide) | exact xc_ (by decide) | exact x31_ (by decide) | omega) ⟨Or.inr (by simp [DL]), Or.inr (by simp [DF])⟩ (by first | trivial | (simp only [Okv]; omega) | (simp [Okv]; try omega)) ?_
      obtain ⟨ρ6, e_ρ6⟩ : ∃ zz_, zz_ = mu σ 33 0 ((121 * l) + x) v := ⟨_, rfl⟩
      rw [← e_ρ6]
      have Sρ6 : SB t σ0 (mu V 9 l x v) ρ6 := by rw [e_ρ6, show ((121 * l) + x) = 121 * l + x from by omega]; exact hR.1.p9 (by first | assumption | decide | exact xs_ (by decide) | exact xc_ (by decide) | exact x31_ (by decide) | omega) (by first | assumption | decide | exact xs_ (by decide) | exact xc_ (by decide) | exact x31_ (by decide) | omega) (by first | assumption | decide | exact xs_ (by decide) | exact xc_ (by decide) | exact x31_ (by decide) | omega) (by first | assumption | decide | exact xs_ (by decide) | exact xc_ (by decide) | exact x31_ (by decide) | omega)
      have Kρ6 : KF t (mu V 9 l x v) ρ6 := by rw [e_ρ6]; exact (hR.2.1).e (fun l a b => ⟨mu_ne (by first | assumption | decide | exact xs_ (by decide) | exact xc_ (by decide) | exact x31_ (by decide) | omega), mu_ne (by first | assumption | decide | exact xs_ (by decide) | exact xc_ (by decide) | exact x31_ (by decide) | omega)⟩) |>.v (fun l => mu_ne (by first | assumption | decide | exact xs_ (by decide) | exact xc_ (by decide) | exact x31_ (by decide) | omega))
      have Fρ6 : FB (mu V 9 l x v) ρ6 := by rw [e_ρ6]; exact (hR.2.2).e (fun l a b => mu_ne (by first | assumption | decide | exact xs_ (by decide) | exact xc_ (by decide) | exact x31_ (by decide) | omega)) |>.v (fun l y a b c => mu_ne (by first | assumption | decide | exact xs_ (by decide) | exact xc_ (by decide) | exact x31_ (by decide) | omega))
      refine r_aload_n hC dX6_alter_36 rfl ?_
      refine r_iload_n hC dX6_alter_37 rfl ?_
      refine z_inv1 hM dX6_alter_38 vl_RX6_227 rfl rfl rfl (Nat.le_of_ble_eq_true rfl) (Nat.le_of_ble_eq_true rfl) ?_
      have h6m : (mu V 9 l x v) 7 l 6 = V 7 l 6 := mu_ne (by first | assumption | decide | exact xs_ (by decide) | exact xc_ (by decide) | exact x31_ (by decide) | omega)
      refine y_layAnew (V := (mu V 9 l x v)) (by first | assumption | decide | exact xs_ (by decide) | exact xc_ (by decide) | exact x31_ (by decide) | omega) ht ⟨Sρ6, Kρ6, Fρ6⟩ (by first | assumption | decide | exact xs_ (by decide) | exact xc_ (by decide) | exact x31_ (by decide) | omega) (LK_6 (hG.2.1.lk hG.1 (by first | assumption | decide | exact xs_ (by decide) | exact xc_ (by decide) | exact x31_ (by decide) | omega) (by first | assumption | decide | exact xs_ (by decide) | exact xc_ (by decide) | exact x31_ (by decide) | omega)) (by first | assumption | decide | exact xs_ (by decide) | exact xc_ (by decide) | exact x31_ (by decide) | omega) (fun j a b => by
        by_cases e : j = x
        · subst e; rw [mu_self]; omega
        · rw [mu_ne (by first | assumption | decide | exact xs_ (by decide) | exact xc_ (by decide) | exact x31_ (by decide) | omega)]; exact (hG.2.1.2.2.1 l j (by first | assumption | decide | exact xs_ (by decide) | exact xc_ (by decide) | exact x31_ (by decide) | omega) (by first | assumption | decide | exact xs_ (by decide) | exact xc_ (by decide) | exact x31_ (by decide) | omega) a b).2) (fun c2 x2 y2 h => mu_ne (by first | assumption | decide | exact xs_ (by decide) | exact xc_ (by decide) | exact x31_ (by decide) | omega))) (fun ρ7 Rρ7 => ?_)
      rw [h6m] at Rρ7
      refine r_iconst hC dX6_alter_41 rfl ?_
      refine y_zret hK rfl dX6_alter_42 (by first | assumption | decide | exact xs_ (by decide) | exact xc_ (by decide) | exact x31_ (by decide) | omega) ?_
      have hM : alM V l x v = (rgM (lyM (mu V 9 l x v) l (V 7 l 6)) l) := by
        exact if_pos (by first | assumption | decide | exact xs_ (by decide) | exact xc_ (by decide) | exact x31_ (by decide) | omega)
      have hRr : alR V l x v = 1 := by
        exact if_pos (by first | assumption | decide | exact xs_ (by decide) | exact xc_ (by decide) | exact x31_ (by decide) | omega)
      rw [hM] at k
      rw [hRr] at k
      exact k _ ⟨Rρ7.1, Rρ7.2.1, Rρ7.2.2⟩
    · refine r_if_ne (tgt := 24) hC dX6_alter_19 rfl (fun h8 => by omega) (fun h8 => ?_)
      refine r_iconst hC dX6_alter_22 rfl ?_
      refine y_zret hK rfl dX6_alter_23 (by first | assumption | decide | exact xs_ (by decide) | exact xc_ (by decide) | exact x31_ (by decide) | omega) ?_
      have hM : alM V l x v = V := by
        exact if_neg (by first | assumption | decide | exact xs_ (by decide) | exact xc_ (by decide) | exact x31_ (by decide) | omega)
      have hRr : alR V l x v = 0 := by
        exact if_neg (by first | assumption | decide | exact xs_ (by decide) | exact xc_ (by decide) | exact x31_ (by decide) | omega)
      rw [hM] at k
      rw [hRr] at k
      exact k _ ⟨hR.1, hR.2.1, hR.2.2⟩
  · refine r_if_eq (tgt := 22) hC dX6_alter_6 rfl (fun h9 => ?_) (fun h9 => by omega)
    refine r_iconst hC dX6_alter_22 rfl ?_
    refine y_zret hK rfl dX6_alter_23 (by first | assumption | decide | exact xs_ (by decide) | exact xc_ (by decide) | exact x31_ (by decide) | omega) ?_
    have hM : alM V l x v = V := by
      exact if_neg (by first | assumption | decide | exact xs_ (by decide) | exact xc_ (by decide) | exact x31_ (by decide) | omega)
    have hRr : alR V l x v = 0 := by
      exact if_neg (by first | assumption | decide | exact xs_ (by decide) | exact xc_ (by decide) | exact x31_ (by decide) | omega)
    rw [hM] at k
    rw [hRr] at k
    exact k _ ⟨hR.1, hR.2.1, hR.2.2⟩
-- B: ties ended as the reference ends them
def etC (V : Mm) (l n : Int) : Mm := fun c x y => if c = 13 ∧ (0 ≤ x ∧ x ≤ 3) ∧ y = 0 ∧ (x = l ∨ (x < n ∧ V 13 x 0 = l)) then -1 else V c x y
theorem etC_0 {V : Mm} {l : Int} (h0 : 0 ≤ l) (h1 : l ≤ 3) : mu V 13 l 0 (-1) = etC V l 0 := by
  funext c x y
  by_cases e : c = 13 ∧ x = l ∧ y = 0
  · obtain ⟨rfl, rfl, rfl⟩ := e
    rw [mu_self]
    exact (if_pos ⟨rfl, ⟨h0, h1⟩, rfl, Or.inl rfl⟩).symm
  · rw [mu_ne e]
    exact (if_neg (by omega)).symm
theorem etC_4 {V : Mm} {l : Int} : etC V l 4 = etB V l 4 := by
  funext c x y
  unfold etC etB
  by_cases e : c = 13 ∧ (0 ≤ x ∧ x ≤ 3) ∧ y = 0 ∧ (x = l ∨ (x < 4 ∧ V 13 x 0 = l))
  · rw [if_pos e, if_pos (by omega)]
  · rw [if_neg e, if_neg (by omega)]
theorem etC_no {V : Mm} {l n : Int} (h : etC V l n 13 n 0 ≠ l) : etC V l (n + 1) = etC V l n := by
  funext c x y
  unfold etC
  by_cases e : c = 13 ∧ (0 ≤ x ∧ x ≤ 3) ∧ y = 0 ∧ (x = l ∨ (x < n ∧ V 13 x 0 = l))
  · rw [if_pos e, if_pos (by omega)]
  · rw [if_neg e, if_neg ?_]
    rintro ⟨rfl, a, rfl, b⟩
    rcases b with b | b
    · exact e ⟨rfl, a, rfl, Or.inl b⟩
    · by_cases ex : x = n
      · subst ex
        refine h ?_
        unfold etC
        rw [if_neg (by omega)]
        exact b.2
      · exact e ⟨rfl, a, rfl, Or.inr ⟨by omega, b.2⟩⟩
theorem etC_yes {V : Mm} {l n : Int} (h0 : 0 ≤ n) (h3 : n ≤ 3) (hl : l ≠ -1) (h : etC V l n 13 n 0 = l) : mu (etC V l n) 13 n 0 (-1) = etC V l (n + 1) := by
  have hn : ¬ (n = l ∨ (n < n ∧ V 13 n 0 = l)) := fun q => by
    have : etC V l n 13 n 0 = -1 := if_pos ⟨rfl, ⟨h0, h3⟩, rfl, q⟩
    omega
  have hv : V 13 n 0 = l := by
    have e : etC V l n 13 n 0 = V 13 n 0 := if_neg (fun q => hn q.2.2.2)
    omega
  funext c x y
  by_cases e : c = 13 ∧ x = n ∧ y = 0
  · obtain ⟨rfl, rfl, rfl⟩ := e
    rw [mu_self]
    exact (if_pos ⟨rfl, ⟨h0, h3⟩, rfl, Or.inr ⟨by omega, hv⟩⟩).symm
  · rw [mu_ne e]
    unfold etC
    by_cases q : c = 13 ∧ (0 ≤ x ∧ x ≤ 3) ∧ y = 0 ∧ (x = l ∨ (x < n ∧ V 13 x 0 = l))
    · rw [if_pos q, if_pos (by omega)]
    · rw [if_neg q, if_neg (by omega)]
-- B: the reference: ties, LINKS, WATCHES, TABLE, LETTERS
theorem y_endWatches {eb : Bool} {t : Int} {V : Mm} {d : Nat} {P : Option Vl → Mm → Prop} {σ : Mm} {l : Int} (b_l : 0 ≤ l ∧ l ≤ 3) {σ0 : Mm} (ht : 6 ≤ t ∧ t ≤ 7) (hR : RS t σ0 V σ)  (k : ∀ ρ : Mm, RS t σ0 (etA V l 8) ρ → P none ρ) : WT (true, eb, true) (d + 1) 182 [vR 30 0, vI l] σ P := by
  refine WT_in fun K hK => ?_
  have hK : StpY (true, eb, true) cX6_endWatches RX6 (none) (WT (true, eb, true) (d + 0)) P K := hK
  have hM := hK.1
  have hC := hK.1.1
  show K 0 [some (vR 30 0), some (vI l), none] [] σ
  refine r_iconst hC dX6_endWatches_0 rfl ?_
  refine r_istore_n hC dX6_endWatches_1 rfl ?_
  have L2 : ∀ (n2 : Nat) (w1 : Int) (ρ2 W2 : Mm), 0 ≤ w1 ∧ w1 ≤ 8 → 8 - w1 < (n2 : Int) → (RS t σ0 W2 ρ2) → (W2 = etA V l (w1)) → K 2 [some (vR 30 0), some (vI l), some (vI w1)] [] ρ2 := by
    intro n2
    induction n2 with
    | zero => intro w1 ρ2 W2 f_w1  hm  m0_2 m1_2; omega
    | succ n2 ih2 =>
      intro w1 ρ2 W2 f_w1  hm2  m0_2 m1_2
      refine r_iload_n hC dX6_endWatches_2 rfl ?_
      refine r_bipush hC dX6_endWatches_3 rfl ?_
      refine r_icmp_ge (tgt := 31) hC dX6_endWatches_5 rfl (fun h3 => ?_) (fun h3 => ?_)
      · refine y_vret hK rfl dX6_endWatches_31 ?_
        have q := m0_2
        rw [m1_2, show w1 = (8 : Int) from by omega] at q
        exact k _ q
      · have e12 : W2 12 w1 0 = V 12 w1 0 := by rw [m1_2]; exact etA_up (by first | assumption | decide | exact xs_ (by decide) | exact xc_ (by decide) | exact x31_ (by decide) | omega)
        refine r_aload_n hC dX6_endWatches_8 rfl ?_
        refine z_getR hM dX6_endWatches_9 fl_RX6_34 rfl rfl (vld_of (n := 1) rfl (by first | assumption | decide | exact xs_ (by decide) | exact xc_ (by decide) | exact x31_ (by decide) | omega) (by first | assumption | decide | exact xs_ (by decide) | exact xc_ (by decide) | exact x31_ (by decide) | omega)) ?_
        refine r_iload_n hC dX6_endWatches_12 rfl ?_
        refine z_iald hM dX6_endWatches_13 rfl (by first | assumption | decide | exact xs_ (by decide) | exact xc_ (by decide) | exact x31_ (by decide) | omega) (by first | assumption | decide | exact xs_ (by decide) | exact xc_ (by decide) | exact x31_ (by decide) | omega) (fun v4 h_v4 o_v4 t_v4 => ?_)
        have w_v4 := ((t_v4 (Or.inl (by first | exact trivial | exact tb7_ (by decide) | simp [Tb]))).trans ((m0_2.1.w0 (by first | assumption | decide | exact xs_ (by decide) | exact xc_ (by decide) | exact x31_ (by decide) | omega) (by first | assumption | decide | exact xs_ (by decide) | exact xc_ (by decide) | exact x31_ (by decide) | omega)).trans (rfl))).symm
        clear t_v4
        subst w_v4
        refine r_iload_n hC dX6_endWatches_14 rfl ?_
        refine r_icmp_ne (tgt := 25) hC dX6_endWatches_15 rfl (fun h5 => ?_) (fun h5 => ?_)
        · refine r_iincE hC ((w1 + 1)) dX6_endWatches_25 rfl rfl (by first | assumption | decide | exact xs_ (by decide) | exact xc_ (by decide) | exact x31_ (by decide) | omega) (by unfold inR; omega) ?_
          refine r_goto (tgt := 2) hC dX6_endWatches_28 rfl ?_
          exact ih2 ((w1 + 1)) ρ2 W2 (by first | assumption | decide | exact xs_ (by decide) | exact xc_ (by decide) | exact x31_ (by decide) | omega)  (by first | assumption | decide | exact xs_ (by decide) | exact xc_ (by decide) | exact x31_ (by decide) | omega)  (⟨m0_2.1, m0_2.2.1, m0_2.2.2⟩) (by rw [etA_no (by first | assumption | decide | exact xs_ (by decide) | exact xc_ (by decide) | exact x31_ (by decide) | omega)]; exact m1_2)
        · refine r_aload_n hC dX6_endWatches_18 rfl ?_
          refine z_getR hM dX6_endWatches_19 fl_RX6_34 rfl rfl (vld_of (n := 1) rfl (by first | assumption | decide | exact xs_ (by decide) | exact xc_ (by decide) | exact x31_ (by decide) | omega) (by first | assumption | decide | exact xs_ (by decide) | exact xc_ (by decide) | exact x31_ (by decide) | omega)) ?_
          refine r_iload_n hC dX6_endWatches_22 rfl ?_
          refine r_iconst hC dX6_endWatches_23 rfl ?_
          refine z_iastT hM dX6_endWatches_24 rfl (by first | assumption | decide | exact xs_ (by decide) | exact xc_ (by decide) | exact x31_ (by decide) | omega) (by first | assumption | decide | exact xs_ (by decide) | exact xc_ (by decide) | exact x31_ (by decide) | omega) ⟨Or.inr (by first | exact id | exact dl7_ (by decide) | simp [DL]), Or.inr (by first | exact id | exact df14_ (by decide) | simp [DF])⟩ (by first | trivial | (simp only [Okv]; omega) | (simp [Okv]; try omega)) ?_
          obtain ⟨ρ6, e_ρ6⟩ : ∃ zz_, zz_ = mu ρ2 39 0 w1 (-1) := ⟨_, rfl⟩
          rw [← e_ρ6]
          have Sρ6 : SB t σ0 (mu W2 12 w1 0 (-1)) ρ6 := by rw [e_ρ6]; exact m0_2.1.pw0 (by first | assumption | decide | exact xs_ (by decide) | exact xc_ (by decide) | exact x31_ (by decide) | omega) (by first | assumption | decide | exact xs_ (by decide) | exact xc_ (by decide) | exact x31_ (by decide) | omega)
          have Kρ6 : KF t (mu W2 12 w1 0 (-1)) ρ6 := by rw [e_ρ6]; exact (m0_2.2.1).e (fun l a b => ⟨mu_ne (by first | assumption | decide | exact xs_ (by decide) | exact xc_ (by decide) | exact x31_ (by decide) | omega), mu_ne (by first | assumption | decide | exact xs_ (by decide) | exact xc_ (by decide) | exact x31_ (by decide) | omega)⟩) |>.v (fun l => mu_ne (by first | assumption | decide | exact xs_ (by decide) | exact xc_ (by decide) | exact x31_ (by decide) | omega))
          have Fρ6 : FB (mu W2 12 w1 0 (-1)) ρ6 := by rw [e_ρ6]; exact (m0_2.2.2).e (fun l a b => mu_ne (by first | assumption | decide | exact xs_ (by decide) | exact xc_ (by decide) | exact x31_ (by decide) | omega)) |>.v (fun l y a b c => mu_ne (by first | assumption | decide | exact xs_ (by decide) | exact xc_ (by decide) | exact x31_ (by decide) | omega))
          clear e_ρ6
          refine r_iincE hC ((w1 + 1)) dX6_endWatches_25 rfl rfl (by first | assumption | decide | exact xs_ (by decide) | exact xc_ (by decide) | exact x31_ (by decide) | omega) (by unfold inR; omega) ?_
          refine r_goto (tgt := 2) hC dX6_endWatches_28 rfl ?_
          exact ih2 ((w1 + 1)) ρ6 (mu W2 12 w1 0 (-1)) (by first | assumption | decide | exact xs_ (by decide) | exact xc_ (by decide) | exact x31_ (by decide) | omega)  (by first | assumption | decide | exact xs_ (by decide) | exact xc_ (by decide) | exact x31_ (by decide) | omega)  (⟨Sρ6, Kρ6, Fρ6⟩) (by rw [← etA_yes (by first | assumption | decide | exact xs_ (by decide) | exact xc_ (by decide) | exact x31_ (by decide) | omega) (by first | assumption | decide | exact xs_ (by decide) | exact xc_ (by decide) | exact x31_ (by decide) | omega), ← m1_2])
  exact L2 10 (0) σ V (by first | assumption | decide | exact xs_ (by decide) | exact xc_ (by decide) | exact x31_ (by decide) | omega)  (by first | assumption | decide | exact xs_ (by decide) | exact xc_ (by decide) | exact x31_ (by decide) | omega)  (⟨hR.1, hR.2.1, hR.2.2⟩) (etA_0.symm)
theorem y_endLinks {eb : Bool} {t : Int} {V : Mm} {d : Nat} {P : Option Vl → Mm → Prop} {σ : Mm} {l : Int} (b_l : 0 ≤ l ∧ l ≤ 3) {σ0 : Mm} (ht : 6 ≤ t ∧ t ≤ 7) (hR : RS t σ0 V σ)  (k : ∀ ρ : Mm, RS t σ0 (etB V l 4) ρ → P none ρ) : WT (true, eb, true) (d + 1) 198 [vR 30 0, vI l] σ P := by
  refine WT_in fun K hK => ?_
  have hK : StpY (true, eb, true) cX6_endLinks RX6 (none) (WT (true, eb, true) (d + 0)) P K := hK
  have hM := hK.1
  have hC := hK.1.1
  show K 0 [some (vR 30 0), some (vI l), none] [] σ
  refine r_aload_n hC dX6_endLinks_0 rfl ?_
  refine z_getR hM dX6_endLinks_1 fl_RX6_52 rfl rfl (vld_of (n := 1) rfl (by first | assumption | decide | exact xs_ (by decide) | exact xc_ (by decide) | exact x31_ (by decide) | omega) (by first | assumption | decide | exact xs_ (by decide) | exact xc_ (by decide) | exact x31_ (by decide) | omega)) ?_
  refine r_iload_n hC dX6_endLinks_4 rfl ?_
  refine r_iconst hC dX6_endLinks_5 rfl ?_
  refine z_iastT hM dX6_endLinks_6 rfl (by first | assumption | decide | exact xs_ (by decide) | exact xc_ (by decide) | exact x31_ (by decide) | omega) (by first | assumption | decide | exact xs_ (by decide) | exact xc_ (by decide) | exact x31_ (by decide) | omega) ⟨Or.inr (by first | exact id | exact dl7_ (by decide) | simp [DL]), Or.inr (by first | exact id | exact df14_ (by decide) | simp [DF])⟩ (by first | trivial | (simp only [Okv]; omega) | (simp [Okv]; try omega)) ?_
  obtain ⟨ρ1, e_ρ1⟩ : ∃ zz_, zz_ = mu σ 45 0 l (-1) := ⟨_, rfl⟩
  rw [← e_ρ1]
  have Sρ1 : SB t σ0 (mu V 13 l 0 (-1)) ρ1 := by rw [e_ρ1]; exact hR.1.pk0 (by first | assumption | decide | exact xs_ (by decide) | exact xc_ (by decide) | exact x31_ (by decide) | omega) (by first | assumption | decide | exact xs_ (by decide) | exact xc_ (by decide) | exact x31_ (by decide) | omega)
  have Kρ1 : KF t (mu V 13 l 0 (-1)) ρ1 := by rw [e_ρ1]; exact (hR.2.1).e (fun l a b => ⟨mu_ne (by first | assumption | decide | exact xs_ (by decide) | exact xc_ (by decide) | exact x31_ (by decide) | omega), mu_ne (by first | assumption | decide | exact xs_ (by decide) | exact xc_ (by decide) | exact x31_ (by decide) | omega)⟩) |>.v (fun l => mu_ne (by first | assumption | decide | exact xs_ (by decide) | exact xc_ (by decide) | exact x31_ (by decide) | omega))
  have Fρ1 : FB (mu V 13 l 0 (-1)) ρ1 := by rw [e_ρ1]; exact (hR.2.2).e (fun l a b => mu_ne (by first | assumption | decide | exact xs_ (by decide) | exact xc_ (by decide) | exact x31_ (by decide) | omega)) |>.v (fun l y a b c => mu_ne (by first | assumption | decide | exact xs_ (by decide) | exact xc_ (by decide) | exact x31_ (by decide) | omega))
  clear e_ρ1
  refine r_iconst hC dX6_endLinks_7 rfl ?_
  refine r_istore_n hC dX6_endLinks_8 rfl ?_
  have L9 : ∀ (n9 : Nat) (w2 : Int) (ρ3 W3 : Mm), 0 ≤ w2 ∧ w2 ≤ 4 → 4 - w2 < (n9 : Int) → (RS t σ0 W3 ρ3) → (W3 = etC V l (w2)) → K 9 [some (vR 30 0), some (vI l), some (vI w2)] [] ρ3 := by
    intro n9
    induction n9 with
    | zero => intro w2 ρ3 W3 f_w2  hm  m0_9 m1_9; omega
    | succ n9 ih9 =>
      intro w2 ρ3 W3 f_w2  hm9  m0_9 m1_9
      refine r_iload_n hC dX6_endLinks_9 rfl ?_
      refine r_iconst hC dX6_endLinks_10 rfl ?_
      refine r_icmp_ge (tgt := 37) hC dX6_endLinks_11 rfl (fun h4 => ?_) (fun h4 => ?_)
      · refine y_vret hK rfl dX6_endLinks_37 ?_
        have q := m0_9
        rw [m1_9, show w2 = (4 : Int) from by omega, etC_4] at q
        exact k _ q
      · refine r_aload_n hC dX6_endLinks_14 rfl ?_
        refine z_getR hM dX6_endLinks_15 fl_RX6_52 rfl rfl (vld_of (n := 1) rfl (by first | assumption | decide | exact xs_ (by decide) | exact xc_ (by decide) | exact x31_ (by decide) | omega) (by first | assumption | decide | exact xs_ (by decide) | exact xc_ (by decide) | exact x31_ (by decide) | omega)) ?_
        refine r_iload_n hC dX6_endLinks_18 rfl ?_
        refine z_iald hM dX6_endLinks_19 rfl (by first | assumption | decide | exact xs_ (by decide) | exact xc_ (by decide) | exact x31_ (by decide) | omega) (by first | assumption | decide | exact xs_ (by decide) | exact xc_ (by decide) | exact x31_ (by decide) | omega) (fun v5 h_v5 o_v5 t_v5 => ?_)
        have w_v5 := ((t_v5 (Or.inl (by first | exact trivial | exact tb7_ (by decide) | simp [Tb]))).trans ((m0_9.1.k0 (by first | assumption | decide | exact xs_ (by decide) | exact xc_ (by decide) | exact x31_ (by decide) | omega) (by first | assumption | decide | exact xs_ (by decide) | exact xc_ (by decide) | exact x31_ (by decide) | omega)).trans (rfl))).symm
        clear t_v5
        subst w_v5
        have q_v5 : -1 ≤ (W3 13 w2 0) ∧ (W3 13 w2 0) ≤ 3 := o_v5
        refine r_iload_n hC dX6_endLinks_20 rfl ?_
        refine r_icmp_ne (tgt := 31) hC dX6_endLinks_21 rfl (fun h6 => ?_) (fun h6 => ?_)
        · refine r_iincE hC ((w2 + 1)) dX6_endLinks_31 rfl rfl (by first | assumption | decide | exact xs_ (by decide) | exact xc_ (by decide) | exact x31_ (by decide) | omega) (by unfold inR; omega) ?_
          refine r_goto (tgt := 9) hC dX6_endLinks_34 rfl ?_
          exact ih9 ((w2 + 1)) ρ3 W3 (by first | assumption | decide | exact xs_ (by decide) | exact xc_ (by decide) | exact x31_ (by decide) | omega)  (by first | assumption | decide | exact xs_ (by decide) | exact xc_ (by decide) | exact x31_ (by decide) | omega)  (⟨m0_9.1, m0_9.2.1, m0_9.2.2⟩) (by rw [etC_no (by rw [← m1_9]; omega)]; exact m1_9)
        · refine r_aload_n hC dX6_endLinks_24 rfl ?_
          refine z_getR hM dX6_endLinks_25 fl_RX6_52 rfl rfl (vld_of (n := 1) rfl (by first | assumption | decide | exact xs_ (by decide) | exact xc_ (by decide) | exact x31_ (by decide) | omega) (by first | assumption | decide | exact xs_ (by decide) | exact xc_ (by decide) | exact x31_ (by decide) | omega)) ?_
          refine r_iload_n hC dX6_endLinks_28 rfl ?_
          refine r_iconst hC dX6_endLinks_29 rfl ?_
          refine z_iastT hM dX6_endLinks_30 rfl (by first | assumption | decide | exact xs_ (by decide) | exact xc_ (by decide) | exact x31_ (by decide) | omega) (by first | assumption | decide | exact xs_ (by decide) | exact xc_ (by decide) | exact x31_ (by decide) | omega) ⟨Or.inr (by first | exact id | exact dl7_ (by decide) | simp [DL]), Or.inr (by first | exact id | exact df14_ (by decide) | simp [DF])⟩ (by first | trivial | (simp only [Okv]; omega) | (simp [Okv]; try omega)) ?_
          obtain ⟨ρ7, e_ρ7⟩ : ∃ zz_, zz_ = mu ρ3 45 0 w2 (-1) := ⟨_, rfl⟩
          rw [← e_ρ7]
          have Sρ7 : SB t σ0 (mu W3 13 w2 0 (-1)) ρ7 := by rw [e_ρ7]; exact m0_9.1.pk0 (by first | assumption | decide | exact xs_ (by decide) | exact xc_ (by decide) | exact x31_ (by decide) | omega) (by first | assumption | decide | exact xs_ (by decide) | exact xc_ (by decide) | exact x31_ (by decide) | omega)
          have Kρ7 : KF t (mu W3 13 w2 0 (-1)) ρ7 := by rw [e_ρ7]; exact (m0_9.2.1).e (fun l a b => ⟨mu_ne (by first | assumption | decide | exact xs_ (by decide) | exact xc_ (by decide) | exact x31_ (by decide) | omega), mu_ne (by first | assumption | decide | exact xs_ (by decide) | exact xc_ (by decide) | exact x31_ (by decide) | omega)⟩) |>.v (fun l => mu_ne (by first | assumption | decide | exact xs_ (by decide) | exact xc_ (by decide) | exact x31_ (by decide) | omega))
          have Fρ7 : FB (mu W3 13 w2 0 (-1)) ρ7 := by rw [e_ρ7]; exact (m0_9.2.2).e (fun l a b => mu_ne (by first | assumption | decide | exact xs_ (by decide) | exact xc_ (by decide) | exact x31_ (by decide) | omega)) |>.v (fun l y a b c => mu_ne (by first | assumption | decide | exact xs_ (by decide) | exact xc_ (by decide) | exact x31_ (by decide) | omega))
          clear e_ρ7
          refine r_iincE hC ((w2 + 1)) dX6_endLinks_31 rfl rfl (by first | assumption | decide | exact xs_ (by decide) | exact xc_ (by decide) | exact x31_ (by decide) | omega) (by unfold inR; omega) ?_
          refine r_goto (tgt := 9) hC dX6_endLinks_34 rfl ?_
          exact ih9 ((w2 + 1)) ρ7 (mu W3 13 w2 0 (-1)) (by first | assumption | decide | exact xs_ (by decide) | exact xc_ (by decide) | exact x31_ (by decide) | omega)  (by first | assumption | decide | exact xs_ (by decide) | exact xc_ (by decide) | exact x31_ (by decide) | omega)  (⟨Sρ7, Kρ7, Fρ7⟩) (by rw [← etC_yes (by first | assumption | decide | exact xs_ (by decide) | exact xc_ (by decide) | exact x31_ (by decide) | omega) (by first | assumption | decide | exact xs_ (by decide) | exact xc_ (by decide) | exact x31_ (by decide) | omega) (by first | assumption | decide | exact xs_ (by decide) | exact xc_ (by decide) | exact x31_ (by decide) | omega) (by rw [← m1_9]; omega), ← m1_9])
  exact L9 6 (0) ρ1 (mu V 13 l 0 (-1)) (by first | assumption | decide | exact xs_ (by decide) | exact xc_ (by decide) | exact x31_ (by decide) | omega)  (by first | assumption | decide | exact xs_ (by decide) | exact xc_ (by decide) | exact x31_ (by decide) | omega)  (⟨Sρ1, Kρ1, Fρ1⟩) (etC_0 (by first | assumption | decide | exact xs_ (by decide) | exact xc_ (by decide) | exact x31_ (by decide) | omega) (by first | assumption | decide | exact xs_ (by decide) | exact xc_ (by decide) | exact x31_ (by decide) | omega))
theorem y_howMany {e : Ev} {d : Nat} {P : Option Vl → Mm → Prop} {σ : Mm} {o : Int} (b_o : 0 ≤ o ∧ o ≤ 9)  (k : P (some (vI (numF o))) σ) : WT e (d + 1) 156 [vI o] σ P := by
  refine WT_in fun K hK => ?_
  have hK : StpY e cX6_howMany RX6 (some .int) (WT e (d + 0)) P K := hK
  have hM := hK.1
  have hC := hK.1.1
  show K 0 [some (vI o)] [] σ
  refine r_iload_n hC dX6_howMany_0 rfl ?_
  rcases (by omega : (o < 0 ∨ 8 < o) ∨ o = 0 ∨ o = 1 ∨ o = 2 ∨ o = 3 ∨ o = 4 ∨ o = 5 ∨ o = 6 ∨ o = 7 ∨ o = 8) with h1 | h1 | h1 | h1 | h1 | h1 | h1 | h1 | h1 | h1
  · refine r_tableOut (tgt := 71) hC dX6_howMany_1 h1 rfl ?_
    refine r_iconst hC dX6_howMany_71 rfl ?_
    refine y_iret hK rfl dX6_howMany_72 ?_
    rcases (by omega : o = 0 ∨ o = 1 ∨ o = 2 ∨ o = 3 ∨ o = 4 ∨ o = 5 ∨ o = 6 ∨ o = 7 ∨ o = 8 ∨ o = 9) with rfl | rfl | rfl | rfl | rfl | rfl | rfl | rfl | rfl | rfl <;> first | exact k | (exfalso; omega)
  · refine r_tableIn (tgt := 52) (off := 51) hC dX6_howMany_1 (by first | assumption | decide | exact xs_ (by decide) | exact xc_ (by decide) | exact x31_ (by decide) | omega) (by first | assumption | decide | exact xs_ (by decide) | exact xc_ (by decide) | exact x31_ (by decide) | omega) (by rw [h1]; rfl) rfl ?_
    refine r_iconst hC dX6_howMany_52 rfl ?_
    refine y_iret hK rfl dX6_howMany_53 ?_
    rcases (by omega : o = 0 ∨ o = 1 ∨ o = 2 ∨ o = 3 ∨ o = 4 ∨ o = 5 ∨ o = 6 ∨ o = 7 ∨ o = 8 ∨ o = 9) with rfl | rfl | rfl | rfl | rfl | rfl | rfl | rfl | rfl | rfl <;> first | exact k | (exfalso; omega)
  · refine r_tableIn (tgt := 54) (off := 53) hC dX6_howMany_1 (by first | assumption | decide | exact xs_ (by decide) | exact xc_ (by decide) | exact x31_ (by decide) | omega) (by first | assumption | decide | exact xs_ (by decide) | exact xc_ (by decide) | exact x31_ (by decide) | omega) (by rw [h1]; rfl) rfl ?_
    refine r_iconst hC dX6_howMany_54 rfl ?_
    refine y_iret hK rfl dX6_howMany_55 ?_
    rcases (by omega : o = 0 ∨ o = 1 ∨ o = 2 ∨ o = 3 ∨ o = 4 ∨ o = 5 ∨ o = 6 ∨ o = 7 ∨ o = 8 ∨ o = 9) with rfl | rfl | rfl | rfl | rfl | rfl | rfl | rfl | rfl | rfl <;> first | exact k | (exfalso; omega)
  · refine r_tableIn (tgt := 56) (off := 55) hC dX6_howMany_1 (by first | assumption | decide | exact xs_ (by decide) | exact xc_ (by decide) | exact x31_ (by decide) | omega) (by first | assumption | decide | exact xs_ (by decide) | exact xc_ (by decide) | exact x31_ (by decide) | omega) (by rw [h1]; rfl) rfl ?_
    refine r_iconst hC dX6_howMany_56 rfl ?_
    refine y_iret hK rfl dX6_howMany_57 ?_
    rcases (by omega : o = 0 ∨ o = 1 ∨ o = 2 ∨ o = 3 ∨ o = 4 ∨ o = 5 ∨ o = 6 ∨ o = 7 ∨ o = 8 ∨ o = 9) with rfl | rfl | rfl | rfl | rfl | rfl | rfl | rfl | rfl | rfl <;> first | exact k | (exfalso; omega)
  · refine r_tableIn (tgt := 58) (off := 57) hC dX6_howMany_1 (by first | assumption | decide | exact xs_ (by decide) | exact xc_ (by decide) | exact x31_ (by decide) | omega) (by first | assumption | decide | exact xs_ (by decide) | exact xc_ (by decide) | exact x31_ (by decide) | omega) (by rw [h1]; rfl) rfl ?_
    refine r_iconst hC dX6_howMany_58 rfl ?_
    refine y_iret hK rfl dX6_howMany_59 ?_
    rcases (by omega : o = 0 ∨ o = 1 ∨ o = 2 ∨ o = 3 ∨ o = 4 ∨ o = 5 ∨ o = 6 ∨ o = 7 ∨ o = 8 ∨ o = 9) with rfl | rfl | rfl | rfl | rfl | rfl | rfl | rfl | rfl | rfl <;> first | exact k | (exfalso; omega)
  · refine r_tableIn (tgt := 60) (off := 59) hC dX6_howMany_1 (by first | assumption | decide | exact xs_ (by decide) | exact xc_ (by decide) | exact x31_ (by decide) | omega) (by first | assumption | decide | exact xs_ (by decide) | exact xc_ (by decide) | exact x31_ (by decide) | omega) (by rw [h1]; rfl) rfl ?_
    refine r_iconst hC dX6_howMany_60 rfl ?_
    refine y_iret hK rfl dX6_howMany_61 ?_
    rcases (by omega : o = 0 ∨ o = 1 ∨ o = 2 ∨ o = 3 ∨ o = 4 ∨ o = 5 ∨ o = 6 ∨ o = 7 ∨ o = 8 ∨ o = 9) with rfl | rfl | rfl | rfl | rfl | rfl | rfl | rfl | rfl | rfl <;> first | exact k | (exfalso; omega)
  · refine r_tableIn (tgt := 62) (off := 61) hC dX6_howMany_1 (by first | assumption | decide | exact xs_ (by decide) | exact xc_ (by decide) | exact x31_ (by decide) | omega) (by first | assumption | decide | exact xs_ (by decide) | exact xc_ (by decide) | exact x31_ (by decide) | omega) (by rw [h1]; rfl) rfl ?_
    refine r_iconst hC dX6_howMany_62 rfl ?_
    refine y_iret hK rfl dX6_howMany_63 ?_
    rcases (by omega : o = 0 ∨ o = 1 ∨ o = 2 ∨ o = 3 ∨ o = 4 ∨ o = 5 ∨ o = 6 ∨ o = 7 ∨ o = 8 ∨ o = 9) with rfl | rfl | rfl | rfl | rfl | rfl | rfl | rfl | rfl | rfl <;> first | exact k | (exfalso; omega)
  · refine r_tableIn (tgt := 64) (off := 63) hC dX6_howMany_1 (by first | assumption | decide | exact xs_ (by decide) | exact xc_ (by decide) | exact x31_ (by decide) | omega) (by first | assumption | decide | exact xs_ (by decide) | exact xc_ (by decide) | exact x31_ (by decide) | omega) (by rw [h1]; rfl) rfl ?_
    refine r_bipush hC dX6_howMany_64 rfl ?_
    refine y_iret hK rfl dX6_howMany_66 ?_
    rcases (by omega : o = 0 ∨ o = 1 ∨ o = 2 ∨ o = 3 ∨ o = 4 ∨ o = 5 ∨ o = 6 ∨ o = 7 ∨ o = 8 ∨ o = 9) with rfl | rfl | rfl | rfl | rfl | rfl | rfl | rfl | rfl | rfl <;> first | exact k | (exfalso; omega)
  · refine r_tableIn (tgt := 67) (off := 66) hC dX6_howMany_1 (by first | assumption | decide | exact xs_ (by decide) | exact xc_ (by decide) | exact x31_ (by decide) | omega) (by first | assumption | decide | exact xs_ (by decide) | exact xc_ (by decide) | exact x31_ (by decide) | omega) (by rw [h1]; rfl) rfl ?_
    refine r_iconst hC dX6_howMany_67 rfl ?_
    refine y_iret hK rfl dX6_howMany_68 ?_
    rcases (by omega : o = 0 ∨ o = 1 ∨ o = 2 ∨ o = 3 ∨ o = 4 ∨ o = 5 ∨ o = 6 ∨ o = 7 ∨ o = 8 ∨ o = 9) with rfl | rfl | rfl | rfl | rfl | rfl | rfl | rfl | rfl | rfl <;> first | exact k | (exfalso; omega)
  · refine r_tableIn (tgt := 69) (off := 68) hC dX6_howMany_1 (by first | assumption | decide | exact xs_ (by decide) | exact xc_ (by decide) | exact x31_ (by decide) | omega) (by first | assumption | decide | exact xs_ (by decide) | exact xc_ (by decide) | exact x31_ (by decide) | omega) (by rw [h1]; rfl) rfl ?_
    refine r_iconst hC dX6_howMany_69 rfl ?_
    refine y_iret hK rfl dX6_howMany_70 ?_
    rcases (by omega : o = 0 ∨ o = 1 ∨ o = 2 ∨ o = 3 ∨ o = 4 ∨ o = 5 ∨ o = 6 ∨ o = 7 ∨ o = 8 ∨ o = 9) with rfl | rfl | rfl | rfl | rfl | rfl | rfl | rfl | rfl | rfl <;> first | exact k | (exfalso; omega)
theorem y_isNumber {eb : Bool} {t : Int} {V : Mm} {d : Nat} {P : Option Vl → Mm → Prop} {σ : Mm} {l w : Int}  {σ0 : Mm} (ht : 6 ≤ t ∧ t ≤ 7) (hR : RS t σ0 V σ) (hO : ∀ l : Int, 0 ≤ l → l ≤ 6 → 0 ≤ V 7 l 2 ∧ V 7 l 2 ≤ 9)  (k1 : lwC V l w → P (some (vI 1)) σ) (k0 : ¬ lwC V l w → P (some (vI 0)) σ) : WT (true, eb, true) (d + 3) 157 [vR 30 0, vI l, vI w] σ P := by
  refine WT_in fun K hK => ?_
  have hK : StpY (true, eb, true) cX6_isNumber RX6 (some .boolean) (WT (true, eb, true) (d + 2)) P K := hK
  have hM := hK.1
  have hC := hK.1.1
  show K 0 [some (vR 30 0), some (vI l), some (vI w)] [] σ
  refine r_rngz hC (fun g0 => ?_)
  have r_l : -2147483648 ≤ l ∧ l ≤ 2147483647 := inR_le (g0 (vI l) (by simp))
  have r_w : -2147483648 ≤ w ∧ w ≤ 2147483647 := inR_le (g0 (vI w) (by simp))
  refine r_aload_n hC dX6_isNumber_0 rfl ?_
  refine r_iload_n hC dX6_isNumber_1 rfl ?_
  refine z_inv1 hM dX6_isNumber_2 vl_RX6_124 rfl rfl rfl (Nat.le_of_ble_eq_true rfl) (Nat.le_of_ble_eq_true rfl) ?_
  refine y_isLane (V := V) ht ⟨hR.1, hR.2.1, hR.2.2⟩ (fun h1 => ?_) (fun h1 => ?_)
  · unfold opV at h1
    refine r_if_eq (tgt := 31) hC dX6_isNumber_5 rfl (fun h2 => by omega) (fun h2 => ?_)
    have hop := hO l (by first | assumption | decide | exact xs_ (by decide) | exact xc_ (by decide) | exact x31_ (by decide) | omega) (by first | assumption | decide | exact xs_ (by decide) | exact xc_ (by decide) | exact x31_ (by decide) | omega)
    refine r_iload_n hC dX6_isNumber_8 rfl ?_
    refine r_iconst hC dX6_isNumber_9 rfl ?_
    refine r_aload_n hC dX6_isNumber_10 rfl ?_
    refine r_iload_n hC dX6_isNumber_11 rfl ?_
    refine r_iconst hC dX6_isNumber_12 rfl ?_
    refine z_inv2 hM dX6_isNumber_13 vl_RX6_80 rfl rfl rfl (Nat.le_of_ble_eq_true rfl) (Nat.le_of_ble_eq_true rfl) ?_
    refine y_of (by first | assumption | decide | exact xs_ (by decide) | exact xc_ (by decide) | exact x31_ (by decide) | omega) (by first | assumption | decide | exact xs_ (by decide) | exact xc_ (by decide) | exact x31_ (by decide) | omega) (by first | assumption | decide | exact xs_ (by decide) | exact xc_ (by decide) | exact x31_ (by decide) | omega) (fun o3 => ?_)
    have e4 : σ 31 0 (22 * l + 1) = (V 7 l 2) := (hR.1.a7 (s := 2) (f := 1) (by first | assumption | decide | exact xs_ (by decide) | exact xc_ (by decide) | exact x31_ (by decide) | omega) (by first | assumption | decide | exact xs_ (by decide) | exact xc_ (by decide) | exact x31_ (by decide) | omega) (by first | assumption | decide | exact xs_ (by decide) | exact xc_ (by decide) | exact x31_ (by decide) | omega)).trans (rfl)
    rw [e4] at o3 ⊢
    refine z_ins1 hM dX6_isNumber_16 tl_RX6_127 rfl (Nat.le_of_ble_eq_true rfl) (Nat.le_of_ble_eq_true rfl) ?_
    refine y_howMany (by first | assumption | decide | exact xs_ (by decide) | exact xc_ (by decide) | exact x31_ (by decide) | omega) ?_
    have qN_16 := numF_rng (V 7 l 2)
    refine r_iconst hC dX6_isNumber_19 rfl ?_
    refine r_isubE hC (((numF (V 7 l 2)) - 1)) dX6_isNumber_20 (by first | assumption | decide | exact xs_ (by decide) | exact xc_ (by decide) | exact x31_ (by decide) | omega) (by unfold inR; omega) ?_
    refine z_ins3 hM dX6_isNumber_21 tl_RX6_76 rfl (Nat.le_of_ble_eq_true rfl) (Nat.le_of_ble_eq_true rfl) ?_
    refine m_isIn (fun h6 => ?_) (fun h6 => ?_)
    · refine r_if_eq (tgt := 31) hC dX6_isNumber_24 rfl (fun h7 => by omega) (fun h7 => ?_)
      refine r_iconst hC dX6_isNumber_27 rfl ?_
      refine r_goto (tgt := 32) hC dX6_isNumber_28 rfl ?_
      refine y_zret hK rfl dX6_isNumber_32 (by first | assumption | decide | exact xs_ (by decide) | exact xc_ (by decide) | exact x31_ (by decide) | omega) ?_
      exact k1 (by unfold lwC opV; omega)
    · refine r_if_eq (tgt := 31) hC dX6_isNumber_24 rfl (fun h8 => ?_) (fun h8 => by omega)
      refine r_iconst hC dX6_isNumber_31 rfl ?_
      refine y_zret hK rfl dX6_isNumber_32 (by first | assumption | decide | exact xs_ (by decide) | exact xc_ (by decide) | exact x31_ (by decide) | omega) ?_
      exact k0 (by unfold lwC opV; omega)
  · unfold opV at h1
    refine r_if_eq (tgt := 31) hC dX6_isNumber_5 rfl (fun h9 => ?_) (fun h9 => by omega)
    refine r_iconst hC dX6_isNumber_31 rfl ?_
    refine y_zret hK rfl dX6_isNumber_32 (by first | assumption | decide | exact xs_ (by decide) | exact xc_ (by decide) | exact x31_ (by decide) | omega) ?_
    exact k0 (by unfold lwC opV; omega)
theorem y_unlink {eb : Bool} {t : Int} {V : Mm} {d : Nat} {P : Option Vl → Mm → Prop} {σ : Mm} {l : Int}  {σ0 : Mm} (ht : 6 ≤ t ∧ t ≤ 7) (hR : RS t σ0 V σ) (hG : GI V)  (k : ∀ ρ : Mm, RS t σ0 (ulM V l) ρ → P (some (vI (ulR V l))) ρ) : WT (true, eb, true) (d + 3) 200 [vR 30 0, vI l] σ P := by
  refine WT_in fun K hK => ?_
  have hK : StpY (true, eb, true) cX6_unlink RX6 (some .boolean) (WT (true, eb, true) (d + 2)) P K := hK
  have hM := hK.1
  have hC := hK.1.1
  show K 0 [some (vR 30 0), some (vI l)] [] σ
  refine r_rngz hC (fun g0 => ?_)
  have r_l : -2147483648 ≤ l ∧ l ≤ 2147483647 := inR_le (g0 (vI l) (by simp))
  have hlkA : 0 ≤ l → l ≤ 3 → V 13 l 0 = -1 ∨ V 7 l 1 = 1 := fun a b => by rcases hG.2.1.2.2.2.2.2.1 l a b with q | q; exact Or.inl q; exact Or.inr q.1.2
  refine r_aload_n hC dX6_unlink_0 rfl ?_
  refine r_iload_n hC dX6_unlink_1 rfl ?_
  refine z_inv1 hM dX6_unlink_2 vl_RX6_124 rfl rfl rfl (Nat.le_of_ble_eq_true rfl) (Nat.le_of_ble_eq_true rfl) ?_
  refine y_isLane (V := V) ht ⟨hR.1, hR.2.1, hR.2.2⟩ (fun h1 => ?_) (fun h1 => ?_)
  · unfold opV at h1
    refine r_if_eq (tgt := 17) hC dX6_unlink_5 rfl (fun h2 => by omega) (fun h2 => ?_)
    have h6 := hG.1.h7 (l := l) (by first | assumption | decide | exact xs_ (by decide) | exact xc_ (by decide) | exact x31_ (by decide) | omega) (by first | assumption | decide | exact xs_ (by decide) | exact xc_ (by decide) | exact x31_ (by decide) | omega)
    have h10 := hG.2.1.2.1 l (by first | assumption | decide | exact xs_ (by decide) | exact xc_ (by decide) | exact x31_ (by decide) | omega) (by first | assumption | decide | exact xs_ (by decide) | exact xc_ (by decide) | exact x31_ (by decide) | omega)
    have hlk := hG.2.1.2.2.2.2.2.1 l (by first | assumption | decide | exact xs_ (by decide) | exact xc_ (by decide) | exact x31_ (by decide) | omega) (by first | assumption | decide | exact xs_ (by decide) | exact xc_ (by decide) | exact x31_ (by decide) | omega)
    unfold opV at hlk
    have hk13 : -1 ≤ V 13 l 0 ∧ V 13 l 0 ≤ 3 := by omega
    have hkn := hG.1.2.2.2 l (by first | assumption | decide | exact xs_ (by decide) | exact xc_ (by decide) | exact x31_ (by decide) | omega) (by first | assumption | decide | exact xs_ (by decide) | exact xc_ (by decide) | exact x31_ (by decide) | omega)
    refine r_aload_n hC dX6_unlink_8 rfl ?_
    refine z_getR hM dX6_unlink_9 fl_RX6_52 rfl rfl (vld_of (n := 1) rfl (by first | assumption | decide | exact xs_ (by decide) | exact xc_ (by decide) | exact x31_ (by decide) | omega) (by first | assumption | decide | exact xs_ (by decide) | exact xc_ (by decide) | exact x31_ (by decide) | omega)) ?_
    refine r_iload_n hC dX6_unlink_12 rfl ?_
    refine z_iald hM dX6_unlink_13 rfl (by first | assumption | decide | exact xs_ (by decide) | exact xc_ (by decide) | exact x31_ (by decide) | omega) (by first | assumption | decide | exact xs_ (by decide) | exact xc_ (by decide) | exact x31_ (by decide) | omega) (fun v3 h_v3 o_v3 t_v3 => ?_)
    have w_v3 := ((t_v3 (Or.inl (by first | exact trivial | exact tb7_ (by decide) | simp [Tb]))).trans ((hR.1.k0 (by first | assumption | decide | exact xs_ (by decide) | exact xc_ (by decide) | exact x31_ (by decide) | omega) (by first | assumption | decide | exact xs_ (by decide) | exact xc_ (by decide) | exact x31_ (by decide) | omega)).trans (rfl))).symm
    clear t_v3
    subst w_v3
    have q_v3 : -1 ≤ (V 13 l 0) ∧ (V 13 l 0) ≤ 3 := o_v3
    refine r_if_ge (tgt := 19) hC dX6_unlink_14 rfl (fun h4 => ?_) (fun h4 => ?_)
    · refine r_aload_n hC dX6_unlink_19 rfl ?_
      refine z_getR hM dX6_unlink_20 fl_RX6_52 rfl rfl (vld_of (n := 1) rfl (by first | assumption | decide | exact xs_ (by decide) | exact xc_ (by decide) | exact x31_ (by decide) | omega) (by first | assumption | decide | exact xs_ (by decide) | exact xc_ (by decide) | exact x31_ (by decide) | omega)) ?_
      refine r_iload_n hC dX6_unlink_23 rfl ?_
      refine r_iconst hC dX6_unlink_24 rfl ?_
      refine z_iastT hM dX6_unlink_25 rfl (by first | assumption | decide | exact xs_ (by decide) | exact xc_ (by decide) | exact x31_ (by decide) | omega) (by first | assumption | decide | exact xs_ (by decide) | exact xc_ (by decide) | exact x31_ (by decide) | omega) ⟨Or.inr (by first | exact id | exact dl7_ (by decide) | simp [DL]), Or.inr (by first | exact id | exact df14_ (by decide) | simp [DF])⟩ (by first | trivial | (simp only [Okv]; omega) | (simp [Okv]; try omega)) ?_
      obtain ⟨ρ5, e_ρ5⟩ : ∃ zz_, zz_ = mu σ 45 0 l (-1) := ⟨_, rfl⟩
      rw [← e_ρ5]
      have Sρ5 : SB t σ0 (mu V 13 l 0 (-1)) ρ5 := by rw [e_ρ5]; exact hR.1.pk0 (by first | assumption | decide | exact xs_ (by decide) | exact xc_ (by decide) | exact x31_ (by decide) | omega) (by first | assumption | decide | exact xs_ (by decide) | exact xc_ (by decide) | exact x31_ (by decide) | omega)
      have Kρ5 : KF t (mu V 13 l 0 (-1)) ρ5 := by rw [e_ρ5]; exact (hR.2.1).e (fun l a b => ⟨mu_ne (by first | assumption | decide | exact xs_ (by decide) | exact xc_ (by decide) | exact x31_ (by decide) | omega), mu_ne (by first | assumption | decide | exact xs_ (by decide) | exact xc_ (by decide) | exact x31_ (by decide) | omega)⟩) |>.v (fun l => mu_ne (by first | assumption | decide | exact xs_ (by decide) | exact xc_ (by decide) | exact x31_ (by decide) | omega))
      have Fρ5 : FB (mu V 13 l 0 (-1)) ρ5 := by rw [e_ρ5]; exact (hR.2.2).e (fun l a b => mu_ne (by first | assumption | decide | exact xs_ (by decide) | exact xc_ (by decide) | exact x31_ (by decide) | omega)) |>.v (fun l y a b c => mu_ne (by first | assumption | decide | exact xs_ (by decide) | exact xc_ (by decide) | exact x31_ (by decide) | omega))
      clear e_ρ5
      refine r_iconst hC dX6_unlink_26 rfl ?_
      refine y_zret hK rfl dX6_unlink_27 (by first | assumption | decide | exact xs_ (by decide) | exact xc_ (by decide) | exact x31_ (by decide) | omega) ?_
      have hM : ulM V l = (mu V 13 l 0 (-1)) := by
        exact if_pos (by first | assumption | decide | exact xs_ (by decide) | exact xc_ (by decide) | exact x31_ (by decide) | omega)
      have hRr : ulR V l = 1 := by
        exact if_pos (by first | assumption | decide | exact xs_ (by decide) | exact xc_ (by decide) | exact x31_ (by decide) | omega)
      rw [hM] at k
      rw [hRr] at k
      exact k _ ⟨Sρ5, Kρ5, Fρ5⟩
    · refine r_iconst hC dX6_unlink_17 rfl ?_
      refine y_zret hK rfl dX6_unlink_18 (by first | assumption | decide | exact xs_ (by decide) | exact xc_ (by decide) | exact x31_ (by decide) | omega) ?_
      have hM : ulM V l = V := by
        exact if_neg (by first | assumption | decide | exact xs_ (by decide) | exact xc_ (by decide) | exact x31_ (by decide) | omega)
      have hRr : ulR V l = 0 := by
        exact if_neg (by first | assumption | decide | exact xs_ (by decide) | exact xc_ (by decide) | exact x31_ (by decide) | omega)
      rw [hM] at k
      rw [hRr] at k
      exact k _ ⟨hR.1, hR.2.1, hR.2.2⟩
  · unfold opV at h1
    refine r_if_eq (tgt := 17) hC dX6_unlink_5 rfl (fun h6 => ?_) (fun h6 => by omega)
    refine r_iconst hC dX6_unlink_17 rfl ?_
    refine y_zret hK rfl dX6_unlink_18 (by first | assumption | decide | exact xs_ (by decide) | exact xc_ (by decide) | exact x31_ (by decide) | omega) ?_
    have hM : ulM V l = V := by
      exact if_neg (by first | assumption | decide | exact xs_ (by decide) | exact xc_ (by decide) | exact x31_ (by decide) | omega)
    have hRr : ulR V l = 0 := by
      exact if_neg (by first | assumption | decide | exact xs_ (by decide) | exact xc_ (by decide) | exact x31_ (by decide) | omega)
    rw [hM] at k
    rw [hRr] at k
    exact k _ ⟨hR.1, hR.2.1, hR.2.2⟩
theorem y_isLinkedTo {eb : Bool} {t : Int} {V : Mm} {d : Nat} {P : Option Vl → Mm → Prop} {σ : Mm} {l : Int}  {σ0 : Mm} (ht : 6 ≤ t ∧ t ≤ 7) (hR : RS t σ0 V σ)  (k1 : ¬ (∀ j : Int, 0 ≤ j → j < 4 → V 13 j 0 ≠ l) → P (some (vI 1)) σ) (k0 : (∀ j : Int, 0 ≤ j → j < 4 → V 13 j 0 ≠ l) → P (some (vI 0)) σ) : WT (true, eb, true) (d + 1) 197 [vR 30 0, vI l] σ P := by
  refine WT_in fun K hK => ?_
  have hK : StpY (true, eb, true) cX6_isLinkedTo RX6 (some .boolean) (WT (true, eb, true) (d + 0)) P K := hK
  have hM := hK.1
  have hC := hK.1.1
  show K 0 [some (vR 30 0), some (vI l), none] [] σ
  refine r_rngz hC (fun g0 => ?_)
  have r_l : -2147483648 ≤ l ∧ l ≤ 2147483647 := inR_le (g0 (vI l) (by simp))
  refine r_iconst hC dX6_isLinkedTo_0 rfl ?_
  refine r_istore_n hC dX6_isLinkedTo_1 rfl ?_
  have L2 : ∀ (n2 : Nat) (w1 : Int), 0 ≤ w1 ∧ w1 ≤ 4 → (∀ j : Int, 0 ≤ j → j < (w1) → V 13 j 0 ≠ l) → 4 - w1 < (n2 : Int) → K 2 [some (vR 30 0), some (vI l), some (vI w1)] [] σ := by
    intro n2
    induction n2 with
    | zero => intro w1  f_w1 i0_2 hm  ; omega
    | succ n2 ih2 =>
      intro w1  f_w1 i0_2 hm2  
      refine r_iload_n hC dX6_isLinkedTo_2 rfl ?_
      refine r_iconst hC dX6_isLinkedTo_3 rfl ?_
      refine r_icmp_ge (tgt := 25) hC dX6_isLinkedTo_4 rfl (fun h2 => ?_) (fun h2 => ?_)
      · refine r_iconst hC dX6_isLinkedTo_25 rfl ?_
        refine y_zret hK rfl dX6_isLinkedTo_26 (by first | assumption | decide | exact xs_ (by decide) | exact xc_ (by decide) | exact x31_ (by decide) | omega) ?_
        exact k0 (fun j h0 h1 => i0_2 j h0 (by first | assumption | decide | exact xs_ (by decide) | exact xc_ (by decide) | exact x31_ (by decide) | omega))
      · refine r_aload_n hC dX6_isLinkedTo_7 rfl ?_
        refine z_getR hM dX6_isLinkedTo_8 fl_RX6_52 rfl rfl (vld_of (n := 1) rfl (by first | assumption | decide | exact xs_ (by decide) | exact xc_ (by decide) | exact x31_ (by decide) | omega) (by first | assumption | decide | exact xs_ (by decide) | exact xc_ (by decide) | exact x31_ (by decide) | omega)) ?_
        refine r_iload_n hC dX6_isLinkedTo_11 rfl ?_
        refine z_iald hM dX6_isLinkedTo_12 rfl (by first | assumption | decide | exact xs_ (by decide) | exact xc_ (by decide) | exact x31_ (by decide) | omega) (by first | assumption | decide | exact xs_ (by decide) | exact xc_ (by decide) | exact x31_ (by decide) | omega) (fun v3 h_v3 o_v3 t_v3 => ?_)
        have w_v3 := ((t_v3 (Or.inl (by first | exact trivial | exact tb7_ (by decide) | simp [Tb]))).trans ((hR.1.k0 (by first | assumption | decide | exact xs_ (by decide) | exact xc_ (by decide) | exact x31_ (by decide) | omega) (by first | assumption | decide | exact xs_ (by decide) | exact xc_ (by decide) | exact x31_ (by decide) | omega)).trans (rfl))).symm
        clear t_v3
        subst w_v3
        have q_v3 : -1 ≤ (V 13 w1 0) ∧ (V 13 w1 0) ≤ 3 := o_v3
        refine r_iload_n hC dX6_isLinkedTo_13 rfl ?_
        refine r_icmp_ne (tgt := 19) hC dX6_isLinkedTo_14 rfl (fun h4 => ?_) (fun h4 => ?_)
        · refine r_iincE hC ((w1 + 1)) dX6_isLinkedTo_19 rfl rfl (by first | assumption | decide | exact xs_ (by decide) | exact xc_ (by decide) | exact x31_ (by decide) | omega) (by unfold inR; omega) ?_
          refine r_goto (tgt := 2) hC dX6_isLinkedTo_22 rfl ?_
          exact ih2 ((w1 + 1))  (by first | assumption | decide | exact xs_ (by decide) | exact xc_ (by decide) | exact x31_ (by decide) | omega) (by first | (intro j h0 h1; omega) | (intro j h0 h1; rcases (by omega : j < w1 ∨ j = w1) with h | h; exact i0_2 j h0 h; subst h; assumption)) (by first | assumption | decide | exact xs_ (by decide) | exact xc_ (by decide) | exact x31_ (by decide) | omega)  
        · refine r_iconst hC dX6_isLinkedTo_17 rfl ?_
          refine y_zret hK rfl dX6_isLinkedTo_18 (by first | assumption | decide | exact xs_ (by decide) | exact xc_ (by decide) | exact x31_ (by decide) | omega) ?_
          exact k1 (fun q => by have := q w1 (by first | assumption | decide | exact xs_ (by decide) | exact xc_ (by decide) | exact x31_ (by decide) | omega) (by first | assumption | decide | exact xs_ (by decide) | exact xc_ (by decide) | exact x31_ (by decide) | omega); omega)
  exact L2 6 (0)  (by first | assumption | decide | exact xs_ (by decide) | exact xc_ (by decide) | exact x31_ (by decide) | omega) (by first | (intro j h0 h1; omega) | (intro j h0 h1; rcases (by omega : j < w1 ∨ j = w1) with h | h; exact i0_2 j h0 h; subst h; assumption)) (by first | assumption | decide | exact xs_ (by decide) | exact xc_ (by decide) | exact x31_ (by decide) | omega)  
theorem y_link {eb : Bool} {t : Int} {V : Mm} {d : Nat} {P : Option Vl → Mm → Prop} {σ : Mm} {l o z w : Int}  {σ0 : Mm} (ht : 6 ≤ t ∧ t ≤ 7) (hR : RS t σ0 V σ) (hG : GI V)  (k1 : lkC V l o z w → ∀ ρ : Mm, RS t σ0 (lkM V l o z w) ρ → P (some (vI 1)) ρ) (k0 : ¬ lkC V l o z w → ∀ ρ : Mm, RS t σ0 V ρ → P (some (vI 0)) ρ) : WT (true, eb, true) (d + 4) 199 [vR 30 0, vI l, vI o, vI z, vI w] σ P := by
  refine WT_in fun K hK => ?_
  have hK : StpY (true, eb, true) cX6_link RX6 (some .boolean) (WT (true, eb, true) (d + 3)) P K := hK
  have hM := hK.1
  have hC := hK.1.1
  show K 0 [some (vR 30 0), some (vI l), some (vI o), some (vI z), some (vI w)] [] σ
  refine r_rngz hC (fun g0 => ?_)
  have r_l : -2147483648 ≤ l ∧ l ≤ 2147483647 := inR_le (g0 (vI l) (by simp))
  have r_o : -2147483648 ≤ o ∧ o ≤ 2147483647 := inR_le (g0 (vI o) (by simp))
  have r_z : -2147483648 ≤ z ∧ z ≤ 2147483647 := inR_le (g0 (vI z) (by simp))
  have r_w : -2147483648 ≤ w ∧ w ≤ 2147483647 := inR_le (g0 (vI w) (by simp))
  refine r_aload_n hC dX6_link_0 rfl ?_
  refine r_iload_n hC dX6_link_1 rfl ?_
  refine z_inv1 hM dX6_link_2 vl_RX6_124 rfl rfl rfl (Nat.le_of_ble_eq_true rfl) (Nat.le_of_ble_eq_true rfl) ?_
  refine y_isLane (V := V) ht ⟨hR.1, hR.2.1, hR.2.2⟩ (fun h1 => ?_) (fun h1 => ?_)
  · unfold opV at h1
    refine r_if_eq (tgt := 50) hC dX6_link_5 rfl (fun h2 => by omega) (fun h2 => ?_)
    refine r_iload_n hC dX6_link_8 rfl ?_
    refine r_iload_n hC dX6_link_9 rfl ?_
    refine r_icmp_eq (tgt := 50) hC dX6_link_10 rfl (fun h3 => ?_) (fun h3 => ?_)
    · refine r_iconst hC dX6_link_50 rfl ?_
      refine y_zret hK rfl dX6_link_51 (by first | assumption | decide | exact xs_ (by decide) | exact xc_ (by decide) | exact x31_ (by decide) | omega) ?_
      exact k0 (fun q => by have q1 := q.1; have q2 := q.2.1; have q3 := q.2.2.1; have q4 := q.2.2.2.1; have q5 := q.2.2.2.2.1; have q6 := q.2.2.2.2.2; first | omega | exact hlk q6) _ ⟨hR.1, hR.2.1, hR.2.2⟩
    · refine r_aload_n hC dX6_link_13 rfl ?_
      refine r_iload_n hC dX6_link_14 rfl ?_
      refine r_iload hC dX6_link_15 rfl ?_
      refine z_inv2 hM dX6_link_17 vl_RX6_207 rfl rfl rfl (Nat.le_of_ble_eq_true rfl) (Nat.le_of_ble_eq_true rfl) ?_
      refine y_isNumber (V := V) ht ⟨hR.1, hR.2.1, hR.2.2⟩ (fun l a b => (hG.2.1.2.2.2.1 l a b).2) (fun h4 => ?_) (fun h4 => ?_)
      · unfold lwC opV at h4
        have n_h4 := numF_rng (V 7 l 2)
        refine r_if_eq (tgt := 50) hC dX6_link_20 rfl (fun h5 => by omega) (fun h5 => ?_)
        refine r_iload_n hC dX6_link_23 rfl ?_
        refine r_iconst hC dX6_link_24 rfl ?_
        refine r_ldc hC dX6_link_25 co_RX6_239 rfl ?_
        refine z_ins3 hM dX6_link_27 tl_RX6_76 rfl (Nat.le_of_ble_eq_true rfl) (Nat.le_of_ble_eq_true rfl) ?_
        refine m_isIn (fun h7 => ?_) (fun h7 => ?_)
        · refine r_if_eq (tgt := 50) hC dX6_link_30 rfl (fun h8 => by omega) (fun h8 => ?_)
          refine r_aload_n hC dX6_link_33 rfl ?_
          refine z_getR hM dX6_link_34 fl_RX6_52 rfl rfl (vld_of (n := 1) rfl (by first | assumption | decide | exact xs_ (by decide) | exact xc_ (by decide) | exact x31_ (by decide) | omega) (by first | assumption | decide | exact xs_ (by decide) | exact xc_ (by decide) | exact x31_ (by decide) | omega)) ?_
          refine r_iload_n hC dX6_link_37 rfl ?_
          refine z_iald hM dX6_link_38 rfl (by first | assumption | decide | exact xs_ (by decide) | exact xc_ (by decide) | exact x31_ (by decide) | omega) (by first | assumption | decide | exact xs_ (by decide) | exact xc_ (by decide) | exact x31_ (by decide) | omega) (fun v9 h_v9 o_v9 t_v9 => ?_)
          have w_v9 := ((t_v9 (Or.inl (by first | exact trivial | exact tb7_ (by decide) | simp [Tb]))).trans ((hR.1.k0 (by first | assumption | decide | exact xs_ (by decide) | exact xc_ (by decide) | exact x31_ (by decide) | omega) (by first | assumption | decide | exact xs_ (by decide) | exact xc_ (by decide) | exact x31_ (by decide) | omega)).trans (rfl))).symm
          clear t_v9
          subst w_v9
          have q_v9 : -1 ≤ (V 13 o 0) ∧ (V 13 o 0) ≤ 3 := o_v9
          refine r_if_ge (tgt := 50) hC dX6_link_39 rfl (fun h10 => ?_) (fun h10 => ?_)
          · refine r_iconst hC dX6_link_50 rfl ?_
            refine y_zret hK rfl dX6_link_51 (by first | assumption | decide | exact xs_ (by decide) | exact xc_ (by decide) | exact x31_ (by decide) | omega) ?_
            exact k0 (fun q => by have q1 := q.1; have q2 := q.2.1; have q3 := q.2.2.1; have q4 := q.2.2.2.1; have q5 := q.2.2.2.2.1; have q6 := q.2.2.2.2.2; first | omega | exact hlk q6) _ ⟨hR.1, hR.2.1, hR.2.2⟩
          · refine r_aload_n hC dX6_link_42 rfl ?_
            refine r_iload_n hC dX6_link_43 rfl ?_
            refine z_inv1 hM dX6_link_44 vl_RX6_240 rfl rfl rfl (Nat.le_of_ble_eq_true rfl) (Nat.le_of_ble_eq_true rfl) ?_
            refine y_isLinkedTo (V := V) ht ⟨hR.1, hR.2.1, hR.2.2⟩ (fun hlk => ?_) (fun hlk => ?_)
            · refine r_if_eq (tgt := 52) hC dX6_link_47 rfl (fun h11 => by omega) (fun h11 => ?_)
              refine r_iconst hC dX6_link_50 rfl ?_
              refine y_zret hK rfl dX6_link_51 (by first | assumption | decide | exact xs_ (by decide) | exact xc_ (by decide) | exact x31_ (by decide) | omega) ?_
              exact k0 (fun q => by have q1 := q.1; have q2 := q.2.1; have q3 := q.2.2.1; have q4 := q.2.2.2.1; have q5 := q.2.2.2.2.1; have q6 := q.2.2.2.2.2; first | omega | exact hlk q6) _ ⟨hR.1, hR.2.1, hR.2.2⟩
            · refine r_if_eq (tgt := 52) hC dX6_link_47 rfl (fun h12 => ?_) (fun h12 => by omega)
              refine r_aload_n hC dX6_link_52 rfl ?_
              refine z_getR hM dX6_link_53 fl_RX6_52 rfl rfl (vld_of (n := 1) rfl (by first | assumption | decide | exact xs_ (by decide) | exact xc_ (by decide) | exact x31_ (by decide) | omega) (by first | assumption | decide | exact xs_ (by decide) | exact xc_ (by decide) | exact x31_ (by decide) | omega)) ?_
              refine r_iload_n hC dX6_link_56 rfl ?_
              refine r_iload_n hC dX6_link_57 rfl ?_
              refine z_iastT hM dX6_link_58 rfl (by first | assumption | decide | exact xs_ (by decide) | exact xc_ (by decide) | exact x31_ (by decide) | omega) (by first | assumption | decide | exact xs_ (by decide) | exact xc_ (by decide) | exact x31_ (by decide) | omega) ⟨Or.inr (by first | exact id | exact dl7_ (by decide) | simp [DL]), Or.inr (by first | exact id | exact df14_ (by decide) | simp [DF])⟩ (by first | trivial | (simp only [Okv]; omega) | (simp [Okv]; try omega)) ?_
              obtain ⟨ρ13, e_ρ13⟩ : ∃ zz_, zz_ = mu σ 45 0 l o := ⟨_, rfl⟩
              rw [← e_ρ13]
              have Sρ13 : SB t σ0 (mu V 13 l 0 o) ρ13 := by rw [e_ρ13]; exact hR.1.pk0 (by first | assumption | decide | exact xs_ (by decide) | exact xc_ (by decide) | exact x31_ (by decide) | omega) (by first | assumption | decide | exact xs_ (by decide) | exact xc_ (by decide) | exact x31_ (by decide) | omega)
              have Kρ13 : KF t (mu V 13 l 0 o) ρ13 := by rw [e_ρ13]; exact (hR.2.1).e (fun l a b => ⟨mu_ne (by first | assumption | decide | exact xs_ (by decide) | exact xc_ (by decide) | exact x31_ (by decide) | omega), mu_ne (by first | assumption | decide | exact xs_ (by decide) | exact xc_ (by decide) | exact x31_ (by decide) | omega)⟩) |>.v (fun l => mu_ne (by first | assumption | decide | exact xs_ (by decide) | exact xc_ (by decide) | exact x31_ (by decide) | omega))
              have Fρ13 : FB (mu V 13 l 0 o) ρ13 := by rw [e_ρ13]; exact (hR.2.2).e (fun l a b => mu_ne (by first | assumption | decide | exact xs_ (by decide) | exact xc_ (by decide) | exact x31_ (by decide) | omega)) |>.v (fun l y a b c => mu_ne (by first | assumption | decide | exact xs_ (by decide) | exact xc_ (by decide) | exact x31_ (by decide) | omega))
              clear e_ρ13
              refine r_aload_n hC dX6_link_59 rfl ?_
              refine z_getR hM dX6_link_60 fl_RX6_55 rfl rfl (vld_of (n := 1) rfl (by first | assumption | decide | exact xs_ (by decide) | exact xc_ (by decide) | exact x31_ (by decide) | omega) (by first | assumption | decide | exact xs_ (by decide) | exact xc_ (by decide) | exact x31_ (by decide) | omega)) ?_
              refine r_iload_n hC dX6_link_63 rfl ?_
              refine r_iload_n hC dX6_link_64 rfl ?_
              refine z_iastT hM dX6_link_65 rfl (by first | assumption | decide | exact xs_ (by decide) | exact xc_ (by decide) | exact x31_ (by decide) | omega) (by first | assumption | decide | exact xs_ (by decide) | exact xc_ (by decide) | exact x31_ (by decide) | omega) ⟨Or.inr (by first | exact id | exact dl7_ (by decide) | simp [DL]), Or.inr (by first | exact id | exact df14_ (by decide) | simp [DF])⟩ (by first | trivial | (simp only [Okv]; omega) | (simp [Okv]; try omega)) ?_
              obtain ⟨ρ14, e_ρ14⟩ : ∃ zz_, zz_ = mu ρ13 46 0 l z := ⟨_, rfl⟩
              rw [← e_ρ14]
              have Sρ14 : SB t σ0 (mu (mu V 13 l 0 o) 13 l 1 z) ρ14 := by rw [e_ρ14]; exact Sρ13.pk1 (by first | assumption | decide | exact xs_ (by decide) | exact xc_ (by decide) | exact x31_ (by decide) | omega) (by first | assumption | decide | exact xs_ (by decide) | exact xc_ (by decide) | exact x31_ (by decide) | omega)
              clear Sρ13
              have Kρ14 : KF t (mu (mu V 13 l 0 o) 13 l 1 z) ρ14 := by rw [e_ρ14]; exact (Kρ13).e (fun l a b => ⟨mu_ne (by first | assumption | decide | exact xs_ (by decide) | exact xc_ (by decide) | exact x31_ (by decide) | omega), mu_ne (by first | assumption | decide | exact xs_ (by decide) | exact xc_ (by decide) | exact x31_ (by decide) | omega)⟩) |>.v (fun l => mu_ne (by first | assumption | decide | exact xs_ (by decide) | exact xc_ (by decide) | exact x31_ (by decide) | omega))
              clear Kρ13
              have Fρ14 : FB (mu (mu V 13 l 0 o) 13 l 1 z) ρ14 := by rw [e_ρ14]; exact (Fρ13).e (fun l a b => mu_ne (by first | assumption | decide | exact xs_ (by decide) | exact xc_ (by decide) | exact x31_ (by decide) | omega)) |>.v (fun l y a b c => mu_ne (by first | assumption | decide | exact xs_ (by decide) | exact xc_ (by decide) | exact x31_ (by decide) | omega))
              clear Fρ13 e_ρ14
              refine r_aload_n hC dX6_link_66 rfl ?_
              refine z_getR hM dX6_link_67 fl_RX6_58 rfl rfl (vld_of (n := 1) rfl (by first | assumption | decide | exact xs_ (by decide) | exact xc_ (by decide) | exact x31_ (by decide) | omega) (by first | assumption | decide | exact xs_ (by decide) | exact xc_ (by decide) | exact x31_ (by decide) | omega)) ?_
              refine r_iload_n hC dX6_link_70 rfl ?_
              refine r_iload hC dX6_link_71 rfl ?_
              refine z_iastT hM dX6_link_73 rfl (by first | assumption | decide | exact xs_ (by decide) | exact xc_ (by decide) | exact x31_ (by decide) | omega) (by first | assumption | decide | exact xs_ (by decide) | exact xc_ (by decide) | exact x31_ (by decide) | omega) ⟨Or.inr (by first | exact id | exact dl7_ (by decide) | simp [DL]), Or.inr (by first | exact id | exact df14_ (by decide) | simp [DF])⟩ (by first | trivial | (simp only [Okv]; omega) | (simp [Okv]; try omega)) ?_
              obtain ⟨ρ15, e_ρ15⟩ : ∃ zz_, zz_ = mu ρ14 47 0 l w := ⟨_, rfl⟩
              rw [← e_ρ15]
              have Sρ15 : SB t σ0 (mu (mu (mu V 13 l 0 o) 13 l 1 z) 13 l 2 w) ρ15 := by rw [e_ρ15]; exact Sρ14.pk2 (by first | assumption | decide | exact xs_ (by decide) | exact xc_ (by decide) | exact x31_ (by decide) | omega) (by first | assumption | decide | exact xs_ (by decide) | exact xc_ (by decide) | exact x31_ (by decide) | omega)
              clear Sρ14
              have Kρ15 : KF t (mu (mu (mu V 13 l 0 o) 13 l 1 z) 13 l 2 w) ρ15 := by rw [e_ρ15]; exact (Kρ14).e (fun l a b => ⟨mu_ne (by first | assumption | decide | exact xs_ (by decide) | exact xc_ (by decide) | exact x31_ (by decide) | omega), mu_ne (by first | assumption | decide | exact xs_ (by decide) | exact xc_ (by decide) | exact x31_ (by decide) | omega)⟩) |>.v (fun l => mu_ne (by first | assumption | decide | exact xs_ (by decide) | exact xc_ (by decide) | exact x31_ (by decide) | omega))
              clear Kρ14
              have Fρ15 : FB (mu (mu (mu V 13 l 0 o) 13 l 1 z) 13 l 2 w) ρ15 := by rw [e_ρ15]; exact (Fρ14).e (fun l a b => mu_ne (by first | assumption | decide | exact xs_ (by decide) | exact xc_ (by decide) | exact x31_ (by decide) | omega)) |>.v (fun l y a b c => mu_ne (by first | assumption | decide | exact xs_ (by decide) | exact xc_ (by decide) | exact x31_ (by decide) | omega))
              clear Fρ14 e_ρ15
              refine r_aload_n hC dX6_link_74 rfl ?_
              refine z_getR hM dX6_link_75 fl_RX6_61 rfl rfl (vld_of (n := 1) rfl (by first | assumption | decide | exact xs_ (by decide) | exact xc_ (by decide) | exact x31_ (by decide) | omega) (by first | assumption | decide | exact xs_ (by decide) | exact xc_ (by decide) | exact x31_ (by decide) | omega)) ?_
              refine r_iload_n hC dX6_link_78 rfl ?_
              refine r_iconst hC dX6_link_79 rfl ?_
              refine z_iastT hM dX6_link_80 rfl (by first | assumption | decide | exact xs_ (by decide) | exact xc_ (by decide) | exact x31_ (by decide) | omega) (by first | assumption | decide | exact xs_ (by decide) | exact xc_ (by decide) | exact x31_ (by decide) | omega) ⟨Or.inr (by first | exact id | exact dl7_ (by decide) | simp [DL]), Or.inr (by first | exact id | exact df14_ (by decide) | simp [DF])⟩ (by first | trivial | (simp only [Okv]; omega) | (simp [Okv]; try omega)) ?_
              obtain ⟨ρ16, e_ρ16⟩ : ∃ zz_, zz_ = mu ρ15 48 0 l 0 := ⟨_, rfl⟩
              rw [← e_ρ16]
              have Sρ16 : SB t σ0 (mu (mu (mu (mu V 13 l 0 o) 13 l 1 z) 13 l 2 w) 13 l 3 0) ρ16 := by rw [e_ρ16]; exact Sρ15.pk3 (by first | assumption | decide | exact xs_ (by decide) | exact xc_ (by decide) | exact x31_ (by decide) | omega) (by first | assumption | decide | exact xs_ (by decide) | exact xc_ (by decide) | exact x31_ (by decide) | omega)
              clear Sρ15
              have Kρ16 : KF t (mu (mu (mu (mu V 13 l 0 o) 13 l 1 z) 13 l 2 w) 13 l 3 0) ρ16 := by rw [e_ρ16]; exact (Kρ15).e (fun l a b => ⟨mu_ne (by first | assumption | decide | exact xs_ (by decide) | exact xc_ (by decide) | exact x31_ (by decide) | omega), mu_ne (by first | assumption | decide | exact xs_ (by decide) | exact xc_ (by decide) | exact x31_ (by decide) | omega)⟩) |>.v (fun l => mu_ne (by first | assumption | decide | exact xs_ (by decide) | exact xc_ (by decide) | exact x31_ (by decide) | omega))
              clear Kρ15
              have Fρ16 : FB (mu (mu (mu (mu V 13 l 0 o) 13 l 1 z) 13 l 2 w) 13 l 3 0) ρ16 := by rw [e_ρ16]; exact (Fρ15).e (fun l a b => mu_ne (by first | assumption | decide | exact xs_ (by decide) | exact xc_ (by decide) | exact x31_ (by decide) | omega)) |>.v (fun l y a b c => mu_ne (by first | assumption | decide | exact xs_ (by decide) | exact xc_ (by decide) | exact x31_ (by decide) | omega))
              clear Fρ15 e_ρ16
              refine r_iconst hC dX6_link_81 rfl ?_
              refine y_zret hK rfl dX6_link_82 (by first | assumption | decide | exact xs_ (by decide) | exact xc_ (by decide) | exact x31_ (by decide) | omega) ?_
              exact k1 ⟨by omega, by omega, by omega, by omega, by omega, hlk⟩ _ ⟨Sρ16, Kρ16, Fρ16⟩
        · refine r_if_eq (tgt := 50) hC dX6_link_30 rfl (fun h17 => ?_) (fun h17 => by omega)
          refine r_iconst hC dX6_link_50 rfl ?_
          refine y_zret hK rfl dX6_link_51 (by first | assumption | decide | exact xs_ (by decide) | exact xc_ (by decide) | exact x31_ (by decide) | omega) ?_
          exact k0 (fun q => by have q1 := q.1; have q2 := q.2.1; have q3 := q.2.2.1; have q4 := q.2.2.2.1; have q5 := q.2.2.2.2.1; have q6 := q.2.2.2.2.2; first | omega | exact hlk q6) _ ⟨hR.1, hR.2.1, hR.2.2⟩
      · unfold lwC opV at h4
        have n_h4 := numF_rng (V 7 l 2)
        refine r_if_eq (tgt := 50) hC dX6_link_20 rfl (fun h18 => ?_) (fun h18 => by omega)
        refine r_iconst hC dX6_link_50 rfl ?_
        refine y_zret hK rfl dX6_link_51 (by first | assumption | decide | exact xs_ (by decide) | exact xc_ (by decide) | exact x31_ (by decide) | omega) ?_
        exact k0 (fun q => by have q1 := q.1; have q2 := q.2.1; have q3 := q.2.2.1; have q4 := q.2.2.2.1; have q5 := q.2.2.2.2.1; have q6 := q.2.2.2.2.2; first | omega | exact hlk q6) _ ⟨hR.1, hR.2.1, hR.2.2⟩
  · unfold opV at h1
    refine r_if_eq (tgt := 50) hC dX6_link_5 rfl (fun h19 => ?_) (fun h19 => by omega)
    refine r_iconst hC dX6_link_50 rfl ?_
    refine y_zret hK rfl dX6_link_51 (by first | assumption | decide | exact xs_ (by decide) | exact xc_ (by decide) | exact x31_ (by decide) | omega) ?_
    exact k0 (fun q => by have q1 := q.1; have q2 := q.2.1; have q3 := q.2.2.1; have q4 := q.2.2.2.1; have q5 := q.2.2.2.2.1; have q6 := q.2.2.2.2.2; first | omega | exact hlk q6) _ ⟨hR.1, hR.2.1, hR.2.2⟩
theorem LK_w {V : Mm} {l v w b : Int} (h : LK V l) (hv : 0 ≤ v ∧ v ≤ 7) (hw : 0 ≤ w) (hw2 : w < numF (V 7 l 2)) : LK (mu (mu (mu V 12 v 0 l) 12 v 1 w) 12 v 2 b) l := by
  obtain ⟨q1, q2, q3, q4, q5, q6⟩ := h
  have e : ∀ (c : Nat) (x y : Int), c ≠ 12 → mu (mu (mu V 12 v 0 l) 12 v 1 w) 12 v 2 b c x y = V c x y := fun c x y hc => by rw [mu_ne (by first | assumption | decide | exact xs_ (by decide) | exact xc_ (by decide) | exact x31_ (by decide) | omega), mu_ne (by first | assumption | decide | exact xs_ (by decide) | exact xc_ (by decide) | exact x31_ (by decide) | omega), mu_ne (by first | assumption | decide | exact xs_ (by decide) | exact xc_ (by decide) | exact x31_ (by decide) | omega)]
  refine ⟨by rw [e _ _ _ (by decide)]; exact q1, by rw [e _ _ _ (by decide)]; exact q2, fun j a b => by rw [e _ _ _ (by decide)]; exact q3 j a b, fun j a b => by rw [e _ _ _ (by decide)]; exact q4 j a b, fun x a c d => ?_, fun x a c => ?_⟩
  · rw [e 7 l 2 (by decide)]
    by_cases ex : x = v
    · subst ex
      rw [mu_ne (by first | assumption | decide | exact xs_ (by decide) | exact xc_ (by decide) | exact x31_ (by decide) | omega), mu_self]
      exact ⟨hw, hw2⟩
    · rw [mu_ne (by first | assumption | decide | exact xs_ (by decide) | exact xc_ (by decide) | exact x31_ (by decide) | omega), mu_ne (by first | assumption | decide | exact xs_ (by decide) | exact xc_ (by decide) | exact x31_ (by decide) | omega), mu_ne (by first | assumption | decide | exact xs_ (by decide) | exact xc_ (by decide) | exact x31_ (by decide) | omega)] at d ⊢
      exact q5 x a c d
  · rw [mu_ne (by first | assumption | decide | exact xs_ (by decide) | exact xc_ (by decide) | exact x31_ (by decide) | omega), mu_ne (by first | assumption | decide | exact xs_ (by decide) | exact xc_ (by decide) | exact x31_ (by decide) | omega), mu_ne (by first | assumption | decide | exact xs_ (by decide) | exact xc_ (by decide) | exact x31_ (by decide) | omega)]; exact q6 x a c
theorem y_watch {eb : Bool} {t : Int} {V : Mm} {d : Nat} {P : Option Vl → Mm → Prop} {σ : Mm} {v l w b : Int}  {σ0 : Mm} (ht : 6 ≤ t ∧ t ≤ 7) (hR : RS t σ0 V σ) (hG : GI V)  (k : ∀ ρ : Mm, RS t σ0 (wtM V v l w b) ρ → P (some (vI (wtR V v l w b))) ρ) : WT (true, eb, true) (d + 6) 186 [vR 30 0, vI v, vI l, vI w, vI b] σ P := by
  refine WT_in fun K hK => ?_
  have hK : StpY (true, eb, true) cX6_watch RX6 (some .int) (WT (true, eb, true) (d + 5)) P K := hK
  have hM := hK.1
  have hC := hK.1.1
  show K 0 [some (vR 30 0), some (vI v), some (vI l), some (vI w), some (vI b)] [] σ
  refine r_rngz hC (fun g0 => ?_)
  have r_v : -2147483648 ≤ v ∧ v ≤ 2147483647 := inR_le (g0 (vI v) (by simp))
  have r_l : -2147483648 ≤ l ∧ l ≤ 2147483647 := inR_le (g0 (vI l) (by simp))
  have r_w : -2147483648 ≤ w ∧ w ≤ 2147483647 := inR_le (g0 (vI w) (by simp))
  have r_b : -2147483648 ≤ b ∧ b ≤ 2147483647 := inR_le (g0 (vI b) (by simp))
  refine r_iload_n hC dX6_watch_0 rfl ?_
  refine r_iconst hC dX6_watch_1 rfl ?_
  refine r_bipush hC dX6_watch_2 rfl ?_
  refine z_ins3 hM dX6_watch_4 tl_RX6_76 rfl (Nat.le_of_ble_eq_true rfl) (Nat.le_of_ble_eq_true rfl) ?_
  refine m_isIn (fun h2 => ?_) (fun h2 => ?_)
  · refine r_if_eq (tgt := 19) hC dX6_watch_7 rfl (fun h3 => by omega) (fun h3 => ?_)
    refine r_aload_n hC dX6_watch_10 rfl ?_
    refine r_iload_n hC dX6_watch_11 rfl ?_
    refine r_iload_n hC dX6_watch_12 rfl ?_
    refine z_inv2 hM dX6_watch_13 vl_RX6_207 rfl rfl rfl (Nat.le_of_ble_eq_true rfl) (Nat.le_of_ble_eq_true rfl) ?_
    refine y_isNumber (V := V) ht ⟨hR.1, hR.2.1, hR.2.2⟩ (fun l a b => (hG.2.1.2.2.2.1 l a b).2) (fun h4 => ?_) (fun h4 => ?_)
    · unfold lwC opV at h4
      have n_h4 := numF_rng (V 7 l 2)
      refine r_if_ne (tgt := 21) hC dX6_watch_16 rfl (fun h5 => ?_) (fun h5 => by omega)
      refine r_aload_n hC dX6_watch_21 rfl ?_
      refine z_getR hM dX6_watch_22 fl_RX6_34 rfl rfl (vld_of (n := 1) rfl (by first | assumption | decide | exact xs_ (by decide) | exact xc_ (by decide) | exact x31_ (by decide) | omega) (by first | assumption | decide | exact xs_ (by decide) | exact xc_ (by decide) | exact x31_ (by decide) | omega)) ?_
      refine r_iload_n hC dX6_watch_25 rfl ?_
      refine r_iload_n hC dX6_watch_26 rfl ?_
      refine z_iastT hM dX6_watch_27 rfl (by first | assumption | decide | exact xs_ (by decide) | exact xc_ (by decide) | exact x31_ (by decide) | omega) (by first | assumption | decide | exact xs_ (by decide) | exact xc_ (by decide) | exact x31_ (by decide) | omega) ⟨Or.inr (by first | exact id | exact dl7_ (by decide) | simp [DL]), Or.inr (by first | exact id | exact df14_ (by decide) | simp [DF])⟩ (by first | trivial | (simp only [Okv]; omega) | (simp [Okv]; try omega)) ?_
      obtain ⟨ρ6, e_ρ6⟩ : ∃ zz_, zz_ = mu σ 39 0 v l := ⟨_, rfl⟩
      rw [← e_ρ6]
      have Sρ6 : SB t σ0 (mu V 12 v 0 l) ρ6 := by rw [e_ρ6]; exact hR.1.pw0 (by first | assumption | decide | exact xs_ (by decide) | exact xc_ (by decide) | exact x31_ (by decide) | omega) (by first | assumption | decide | exact xs_ (by decide) | exact xc_ (by decide) | exact x31_ (by decide) | omega)
      have Kρ6 : KF t (mu V 12 v 0 l) ρ6 := by rw [e_ρ6]; exact (hR.2.1).e (fun l a b => ⟨mu_ne (by first | assumption | decide | exact xs_ (by decide) | exact xc_ (by decide) | exact x31_ (by decide) | omega), mu_ne (by first | assumption | decide | exact xs_ (by decide) | exact xc_ (by decide) | exact x31_ (by decide) | omega)⟩) |>.v (fun l => mu_ne (by first | assumption | decide | exact xs_ (by decide) | exact xc_ (by decide) | exact x31_ (by decide) | omega))
      have Fρ6 : FB (mu V 12 v 0 l) ρ6 := by rw [e_ρ6]; exact (hR.2.2).e (fun l a b => mu_ne (by first | assumption | decide | exact xs_ (by decide) | exact xc_ (by decide) | exact x31_ (by decide) | omega)) |>.v (fun l y a b c => mu_ne (by first | assumption | decide | exact xs_ (by decide) | exact xc_ (by decide) | exact x31_ (by decide) | omega))
      clear e_ρ6
      refine r_aload_n hC dX6_watch_28 rfl ?_
      refine z_getR hM dX6_watch_29 fl_RX6_37 rfl rfl (vld_of (n := 1) rfl (by first | assumption | decide | exact xs_ (by decide) | exact xc_ (by decide) | exact x31_ (by decide) | omega) (by first | assumption | decide | exact xs_ (by decide) | exact xc_ (by decide) | exact x31_ (by decide) | omega)) ?_
      refine r_iload_n hC dX6_watch_32 rfl ?_
      refine r_iload_n hC dX6_watch_33 rfl ?_
      refine z_iastT hM dX6_watch_34 rfl (by first | assumption | decide | exact xs_ (by decide) | exact xc_ (by decide) | exact x31_ (by decide) | omega) (by first | assumption | decide | exact xs_ (by decide) | exact xc_ (by decide) | exact x31_ (by decide) | omega) ⟨Or.inr (by first | exact id | exact dl7_ (by decide) | simp [DL]), Or.inr (by first | exact id | exact df14_ (by decide) | simp [DF])⟩ (by first | trivial | (simp only [Okv]; omega) | (simp [Okv]; try omega)) ?_
      obtain ⟨ρ7, e_ρ7⟩ : ∃ zz_, zz_ = mu ρ6 40 0 v w := ⟨_, rfl⟩
      rw [← e_ρ7]
      have Sρ7 : SB t σ0 (mu (mu V 12 v 0 l) 12 v 1 w) ρ7 := by rw [e_ρ7]; exact Sρ6.pw1 (by first | assumption | decide | exact xs_ (by decide) | exact xc_ (by decide) | exact x31_ (by decide) | omega) (by first | assumption | decide | exact xs_ (by decide) | exact xc_ (by decide) | exact x31_ (by decide) | omega)
      clear Sρ6
      have Kρ7 : KF t (mu (mu V 12 v 0 l) 12 v 1 w) ρ7 := by rw [e_ρ7]; exact (Kρ6).e (fun l a b => ⟨mu_ne (by first | assumption | decide | exact xs_ (by decide) | exact xc_ (by decide) | exact x31_ (by decide) | omega), mu_ne (by first | assumption | decide | exact xs_ (by decide) | exact xc_ (by decide) | exact x31_ (by decide) | omega)⟩) |>.v (fun l => mu_ne (by first | assumption | decide | exact xs_ (by decide) | exact xc_ (by decide) | exact x31_ (by decide) | omega))
      clear Kρ6
      have Fρ7 : FB (mu (mu V 12 v 0 l) 12 v 1 w) ρ7 := by rw [e_ρ7]; exact (Fρ6).e (fun l a b => mu_ne (by first | assumption | decide | exact xs_ (by decide) | exact xc_ (by decide) | exact x31_ (by decide) | omega)) |>.v (fun l y a b c => mu_ne (by first | assumption | decide | exact xs_ (by decide) | exact xc_ (by decide) | exact x31_ (by decide) | omega))
      clear Fρ6 e_ρ7
      refine r_aload_n hC dX6_watch_35 rfl ?_
      refine z_getR hM dX6_watch_36 fl_RX6_40 rfl rfl (vld_of (n := 1) rfl (by first | assumption | decide | exact xs_ (by decide) | exact xc_ (by decide) | exact x31_ (by decide) | omega) (by first | assumption | decide | exact xs_ (by decide) | exact xc_ (by decide) | exact x31_ (by decide) | omega)) ?_
      refine r_iload_n hC dX6_watch_39 rfl ?_
      refine r_iload hC dX6_watch_40 rfl ?_
      refine z_iastT hM dX6_watch_42 rfl (by first | assumption | decide | exact xs_ (by decide) | exact xc_ (by decide) | exact x31_ (by decide) | omega) (by first | assumption | decide | exact xs_ (by decide) | exact xc_ (by decide) | exact x31_ (by decide) | omega) ⟨Or.inr (by first | exact id | exact dl7_ (by decide) | simp [DL]), Or.inr (by first | exact id | exact df14_ (by decide) | simp [DF])⟩ (by first | trivial | (simp only [Okv]; omega) | (simp [Okv]; try omega)) ?_
      obtain ⟨ρ8, e_ρ8⟩ : ∃ zz_, zz_ = mu ρ7 41 0 v b := ⟨_, rfl⟩
      rw [← e_ρ8]
      have Sρ8 : SB t σ0 (mu (mu (mu V 12 v 0 l) 12 v 1 w) 12 v 2 b) ρ8 := by rw [e_ρ8]; exact Sρ7.pw2 (by first | assumption | decide | exact xs_ (by decide) | exact xc_ (by decide) | exact x31_ (by decide) | omega) (by first | assumption | decide | exact xs_ (by decide) | exact xc_ (by decide) | exact x31_ (by decide) | omega)
      clear Sρ7
      have Kρ8 : KF t (mu (mu (mu V 12 v 0 l) 12 v 1 w) 12 v 2 b) ρ8 := by rw [e_ρ8]; exact (Kρ7).e (fun l a b => ⟨mu_ne (by first | assumption | decide | exact xs_ (by decide) | exact xc_ (by decide) | exact x31_ (by decide) | omega), mu_ne (by first | assumption | decide | exact xs_ (by decide) | exact xc_ (by decide) | exact x31_ (by decide) | omega)⟩) |>.v (fun l => mu_ne (by first | assumption | decide | exact xs_ (by decide) | exact xc_ (by decide) | exact x31_ (by decide) | omega))
      clear Kρ7
      have Fρ8 : FB (mu (mu (mu V 12 v 0 l) 12 v 1 w) 12 v 2 b) ρ8 := by rw [e_ρ8]; exact (Fρ7).e (fun l a b => mu_ne (by first | assumption | decide | exact xs_ (by decide) | exact xc_ (by decide) | exact x31_ (by decide) | omega)) |>.v (fun l y a b c => mu_ne (by first | assumption | decide | exact xs_ (by decide) | exact xc_ (by decide) | exact x31_ (by decide) | omega))
      clear Fρ7 e_ρ8
      refine r_aload_n hC dX6_watch_43 rfl ?_
      refine z_getR hM dX6_watch_44 fl_RX6_43 rfl rfl (vld_of (n := 1) rfl (by first | assumption | decide | exact xs_ (by decide) | exact xc_ (by decide) | exact x31_ (by decide) | omega) (by first | assumption | decide | exact xs_ (by decide) | exact xc_ (by decide) | exact x31_ (by decide) | omega)) ?_
      refine r_iload_n hC dX6_watch_47 rfl ?_
      refine r_aload_n hC dX6_watch_48 rfl ?_
      refine r_iload_n hC dX6_watch_49 rfl ?_
      refine r_iload_n hC dX6_watch_50 rfl ?_
      refine r_iload hC dX6_watch_51 rfl ?_
      refine z_inv3 hM dX6_watch_53 vl_RX6_203 rfl rfl rfl (Nat.le_of_ble_eq_true rfl) (Nat.le_of_ble_eq_true rfl) ?_
      have hLV := hG.2.1.lk hG.1 (l := l) (by first | assumption | decide | exact xs_ (by decide) | exact xc_ (by decide) | exact x31_ (by decide) | omega) (by first | assumption | decide | exact xs_ (by decide) | exact xc_ (by decide) | exact x31_ (by decide) | omega)
      have e7 : ∀ y : Int, (mu (mu (mu V 12 v 0 l) 12 v 1 w) 12 v 2 b) 7 l y = V 7 l y := fun y => by rw [mu_ne (by first | assumption | decide | exact xs_ (by decide) | exact xc_ (by decide) | exact x31_ (by decide) | omega), mu_ne (by first | assumption | decide | exact xs_ (by decide) | exact xc_ (by decide) | exact x31_ (by decide) | omega), mu_ne (by first | assumption | decide | exact xs_ (by decide) | exact xc_ (by decide) | exact x31_ (by decide) | omega)]
      have hLW : LK (mu (mu (mu V 12 v 0 l) 12 v 1 w) 12 v 2 b) l := LK_w hLV (by first | assumption | decide | exact xs_ (by decide) | exact xc_ (by decide) | exact x31_ (by decide) | omega) (by first | assumption | decide | exact xs_ (by decide) | exact xc_ (by decide) | exact x31_ (by decide) | omega) (by first | assumption | decide | exact xs_ (by decide) | exact xc_ (by decide) | exact x31_ (by decide) | omega)
      refine y_reachedNow (V := (mu (mu (mu V 12 v 0 l) 12 v 1 w) 12 v 2 b)) (by first | assumption | decide | exact xs_ (by decide) | exact xc_ (by decide) | exact x31_ (by decide) | omega) (by first | assumption | decide | exact xs_ (by decide) | exact xc_ (by decide) | exact x31_ (by decide) | omega) ht ⟨Sρ8, Kρ8, Fρ8⟩ (by first | assumption | decide | exact xs_ (by decide) | exact xc_ (by decide) | exact x31_ (by decide) | omega) hLW (by rw [e7]; omega) (fun ρ9 Rρ9 => ?_)
      clear Sρ8 Kρ8 Fρ8
      rw [rc1_g (V := V) (funext fun y => by rw [mu_ne (by first | assumption | decide | exact xs_ (by decide) | exact xc_ (by decide) | exact x31_ (by decide) | omega), mu_ne (by first | assumption | decide | exact xs_ (by decide) | exact xc_ (by decide) | exact x31_ (by decide) | omega), mu_ne (by first | assumption | decide | exact xs_ (by decide) | exact xc_ (by decide) | exact x31_ (by decide) | omega)]) (funext fun y => by rw [mu_ne (by first | assumption | decide | exact xs_ (by decide) | exact xc_ (by decide) | exact x31_ (by decide) | omega), mu_ne (by first | assumption | decide | exact xs_ (by decide) | exact xc_ (by decide) | exact x31_ (by decide) | omega), mu_ne (by first | assumption | decide | exact xs_ (by decide) | exact xc_ (by decide) | exact x31_ (by decide) | omega)]) e7 (funext fun y => by rw [mu_ne (by first | assumption | decide | exact xs_ (by decide) | exact xc_ (by decide) | exact x31_ (by decide) | omega), mu_ne (by first | assumption | decide | exact xs_ (by decide) | exact xc_ (by decide) | exact x31_ (by decide) | omega), mu_ne (by first | assumption | decide | exact xs_ (by decide) | exact xc_ (by decide) | exact x31_ (by decide) | omega)])]
      have e01 := rc1_01 V l w b
      refine z_iastT hM dX6_watch_56 rfl (by first | assumption | decide | exact xs_ (by decide) | exact xc_ (by decide) | exact x31_ (by decide) | omega) (by first | assumption | decide | exact xs_ (by decide) | exact xc_ (by decide) | exact x31_ (by decide) | omega) ⟨Or.inr (by first | exact id | exact dl7_ (by decide) | simp [DL]), Or.inr (by first | exact id | exact df14_ (by decide) | simp [DF])⟩ (by first | trivial | (simp only [Okv]; omega) | (simp [Okv]; try omega)) ?_
      obtain ⟨ρ10, e_ρ10⟩ : ∃ zz_, zz_ = mu ρ9 42 0 v (rc1 V l w b) := ⟨_, rfl⟩
      rw [← e_ρ10]
      have Sρ10 : SB t σ0 (mu (mu (mu (mu V 12 v 0 l) 12 v 1 w) 12 v 2 b) 12 v 3 (rc1 V l w b)) ρ10 := by rw [e_ρ10]; exact Rρ9.1.pw3 (by first | assumption | decide | exact xs_ (by decide) | exact xc_ (by decide) | exact x31_ (by decide) | omega) (by first | assumption | decide | exact xs_ (by decide) | exact xc_ (by decide) | exact x31_ (by decide) | omega)
      have Kρ10 : KF t (mu (mu (mu (mu V 12 v 0 l) 12 v 1 w) 12 v 2 b) 12 v 3 (rc1 V l w b)) ρ10 := by rw [e_ρ10]; exact (Rρ9.2.1).e (fun l a b => ⟨mu_ne (by first | assumption | decide | exact xs_ (by decide) | exact xc_ (by decide) | exact x31_ (by decide) | omega), mu_ne (by first | assumption | decide | exact xs_ (by decide) | exact xc_ (by decide) | exact x31_ (by decide) | omega)⟩) |>.v (fun l => mu_ne (by first | assumption | decide | exact xs_ (by decide) | exact xc_ (by decide) | exact x31_ (by decide) | omega))
      have Fρ10 : FB (mu (mu (mu (mu V 12 v 0 l) 12 v 1 w) 12 v 2 b) 12 v 3 (rc1 V l w b)) ρ10 := by rw [e_ρ10]; exact (Rρ9.2.2).e (fun l a b => mu_ne (by first | assumption | decide | exact xs_ (by decide) | exact xc_ (by decide) | exact x31_ (by decide) | omega)) |>.v (fun l y a b c => mu_ne (by first | assumption | decide | exact xs_ (by decide) | exact xc_ (by decide) | exact x31_ (by decide) | omega))
      clear Rρ9 e_ρ10
      refine r_aload_n hC dX6_watch_57 rfl ?_
      refine z_getR hM dX6_watch_58 fl_RX6_46 rfl rfl (vld_of (n := 1) rfl (by first | assumption | decide | exact xs_ (by decide) | exact xc_ (by decide) | exact x31_ (by decide) | omega) (by first | assumption | decide | exact xs_ (by decide) | exact xc_ (by decide) | exact x31_ (by decide) | omega)) ?_
      refine r_iload_n hC dX6_watch_61 rfl ?_
      refine r_iconst hC dX6_watch_62 rfl ?_
      refine z_iastT hM dX6_watch_63 rfl (by first | assumption | decide | exact xs_ (by decide) | exact xc_ (by decide) | exact x31_ (by decide) | omega) (by first | assumption | decide | exact xs_ (by decide) | exact xc_ (by decide) | exact x31_ (by decide) | omega) ⟨Or.inr (by first | exact id | exact dl7_ (by decide) | simp [DL]), Or.inr (by first | exact id | exact df14_ (by decide) | simp [DF])⟩ (by first | trivial | (simp only [Okv]; omega) | (simp [Okv]; try omega)) ?_
      obtain ⟨ρ11, e_ρ11⟩ : ∃ zz_, zz_ = mu ρ10 43 0 v 0 := ⟨_, rfl⟩
      rw [← e_ρ11]
      have Sρ11 : SB t σ0 (mu (mu (mu (mu (mu V 12 v 0 l) 12 v 1 w) 12 v 2 b) 12 v 3 (rc1 V l w b)) 12 v 4 0) ρ11 := by rw [e_ρ11]; exact Sρ10.pw4 (by first | assumption | decide | exact xs_ (by decide) | exact xc_ (by decide) | exact x31_ (by decide) | omega) (by first | assumption | decide | exact xs_ (by decide) | exact xc_ (by decide) | exact x31_ (by decide) | omega)
      clear Sρ10
      have Kρ11 : KF t (mu (mu (mu (mu (mu V 12 v 0 l) 12 v 1 w) 12 v 2 b) 12 v 3 (rc1 V l w b)) 12 v 4 0) ρ11 := by rw [e_ρ11]; exact (Kρ10).e (fun l a b => ⟨mu_ne (by first | assumption | decide | exact xs_ (by decide) | exact xc_ (by decide) | exact x31_ (by decide) | omega), mu_ne (by first | assumption | decide | exact xs_ (by decide) | exact xc_ (by decide) | exact x31_ (by decide) | omega)⟩) |>.v (fun l => mu_ne (by first | assumption | decide | exact xs_ (by decide) | exact xc_ (by decide) | exact x31_ (by decide) | omega))
      clear Kρ10
      have Fρ11 : FB (mu (mu (mu (mu (mu V 12 v 0 l) 12 v 1 w) 12 v 2 b) 12 v 3 (rc1 V l w b)) 12 v 4 0) ρ11 := by rw [e_ρ11]; exact (Fρ10).e (fun l a b => mu_ne (by first | assumption | decide | exact xs_ (by decide) | exact xc_ (by decide) | exact x31_ (by decide) | omega)) |>.v (fun l y a b c => mu_ne (by first | assumption | decide | exact xs_ (by decide) | exact xc_ (by decide) | exact x31_ (by decide) | omega))
      clear Fρ10 e_ρ11
      refine r_aload_n hC dX6_watch_64 rfl ?_
      refine z_getR hM dX6_watch_65 fl_RX6_49 rfl rfl (vld_of (n := 1) rfl (by first | assumption | decide | exact xs_ (by decide) | exact xc_ (by decide) | exact x31_ (by decide) | omega) (by first | assumption | decide | exact xs_ (by decide) | exact xc_ (by decide) | exact x31_ (by decide) | omega)) ?_
      refine r_iload_n hC dX6_watch_68 rfl ?_
      refine r_iconst hC dX6_watch_69 rfl ?_
      refine z_iastT hM dX6_watch_70 rfl (by first | assumption | decide | exact xs_ (by decide) | exact xc_ (by decide) | exact x31_ (by decide) | omega) (by first | assumption | decide | exact xs_ (by decide) | exact xc_ (by decide) | exact x31_ (by decide) | omega) ⟨Or.inr (by first | exact id | exact dl7_ (by decide) | simp [DL]), Or.inr (by first | exact id | exact df14_ (by decide) | simp [DF])⟩ (by first | trivial | (simp only [Okv]; omega) | (simp [Okv]; try omega)) ?_
      obtain ⟨ρ12, e_ρ12⟩ : ∃ zz_, zz_ = mu ρ11 44 0 v (-1) := ⟨_, rfl⟩
      rw [← e_ρ12]
      have Sρ12 : SB t σ0 (mu (mu (mu (mu (mu (mu V 12 v 0 l) 12 v 1 w) 12 v 2 b) 12 v 3 (rc1 V l w b)) 12 v 4 0) 12 v 5 (-1)) ρ12 := by rw [e_ρ12]; exact Sρ11.pw5 (by first | assumption | decide | exact xs_ (by decide) | exact xc_ (by decide) | exact x31_ (by decide) | omega) (by first | assumption | decide | exact xs_ (by decide) | exact xc_ (by decide) | exact x31_ (by decide) | omega)
      clear Sρ11
      have Kρ12 : KF t (mu (mu (mu (mu (mu (mu V 12 v 0 l) 12 v 1 w) 12 v 2 b) 12 v 3 (rc1 V l w b)) 12 v 4 0) 12 v 5 (-1)) ρ12 := by rw [e_ρ12]; exact (Kρ11).e (fun l a b => ⟨mu_ne (by first | assumption | decide | exact xs_ (by decide) | exact xc_ (by decide) | exact x31_ (by decide) | omega), mu_ne (by first | assumption | decide | exact xs_ (by decide) | exact xc_ (by decide) | exact x31_ (by decide) | omega)⟩) |>.v (fun l => mu_ne (by first | assumption | decide | exact xs_ (by decide) | exact xc_ (by decide) | exact x31_ (by decide) | omega))
      clear Kρ11
      have Fρ12 : FB (mu (mu (mu (mu (mu (mu V 12 v 0 l) 12 v 1 w) 12 v 2 b) 12 v 3 (rc1 V l w b)) 12 v 4 0) 12 v 5 (-1)) ρ12 := by rw [e_ρ12]; exact (Fρ11).e (fun l a b => mu_ne (by first | assumption | decide | exact xs_ (by decide) | exact xc_ (by decide) | exact x31_ (by decide) | omega)) |>.v (fun l y a b c => mu_ne (by first | assumption | decide | exact xs_ (by decide) | exact xc_ (by decide) | exact x31_ (by decide) | omega))
      clear Fρ11 e_ρ12
      refine r_aload_n hC dX6_watch_71 rfl ?_
      refine z_getR hM dX6_watch_72 fl_RX6_43 rfl rfl (vld_of (n := 1) rfl (by first | assumption | decide | exact xs_ (by decide) | exact xc_ (by decide) | exact x31_ (by decide) | omega) (by first | assumption | decide | exact xs_ (by decide) | exact xc_ (by decide) | exact x31_ (by decide) | omega)) ?_
      refine r_iload_n hC dX6_watch_75 rfl ?_
      refine z_iald hM dX6_watch_76 rfl (by first | assumption | decide | exact xs_ (by decide) | exact xc_ (by decide) | exact x31_ (by decide) | omega) (by first | assumption | decide | exact xs_ (by decide) | exact xc_ (by decide) | exact x31_ (by decide) | omega) (fun v13 h_v13 o_v13 t_v13 => ?_)
      have w_v13 := ((t_v13 (Or.inl (by first | exact trivial | exact tb7_ (by decide) | simp [Tb]))).trans ((Sρ12.w3 (by first | assumption | decide | exact xs_ (by decide) | exact xc_ (by decide) | exact x31_ (by decide) | omega) (by first | assumption | decide | exact xs_ (by decide) | exact xc_ (by decide) | exact x31_ (by decide) | omega)).trans ((mu_ne (by first | assumption | decide | exact xs_ (by decide) | exact xc_ (by decide) | exact x31_ (by decide) | omega)).trans ((mu_ne (by first | assumption | decide | exact xs_ (by decide) | exact xc_ (by decide) | exact x31_ (by decide) | omega)).trans (mu_self _ _ _ _ _))))).symm
      clear t_v13
      subst w_v13
      refine y_iret hK rfl dX6_watch_77 ?_
      have hM : wtM V v l w b = (mu (mu (mu (mu (mu (mu V 12 v 0 l) 12 v 1 w) 12 v 2 b) 12 v 3 (rc1 V l w b)) 12 v 4 0) 12 v 5 (-1)) := by
        exact if_pos (by first | assumption | decide | exact xs_ (by decide) | exact xc_ (by decide) | exact x31_ (by decide) | omega)
      have hRr : wtR V v l w b = (rc1 V l w b) := by
        exact if_pos (by first | assumption | decide | exact xs_ (by decide) | exact xc_ (by decide) | exact x31_ (by decide) | omega)
      rw [hM] at k
      rw [hRr] at k
      exact k _ ⟨Sρ12, Kρ12, Fρ12⟩
    · unfold lwC opV at h4
      have n_h4 := numF_rng (V 7 l 2)
      refine r_if_ne (tgt := 21) hC dX6_watch_16 rfl (fun h14 => by omega) (fun h14 => ?_)
      refine r_iconst hC dX6_watch_19 rfl ?_
      refine y_iret hK rfl dX6_watch_20 ?_
      have hM : wtM V v l w b = V := by
        exact if_neg (by first | assumption | decide | exact xs_ (by decide) | exact xc_ (by decide) | exact x31_ (by decide) | omega)
      have hRr : wtR V v l w b = (-1) := by
        exact if_neg (by first | assumption | decide | exact xs_ (by decide) | exact xc_ (by decide) | exact x31_ (by decide) | omega)
      rw [hM] at k
      rw [hRr] at k
      exact k _ ⟨hR.1, hR.2.1, hR.2.2⟩
  · refine r_if_eq (tgt := 19) hC dX6_watch_7 rfl (fun h15 => ?_) (fun h15 => by omega)
    refine r_iconst hC dX6_watch_19 rfl ?_
    refine y_iret hK rfl dX6_watch_20 ?_
    have hM : wtM V v l w b = V := by
      exact if_neg (by first | assumption | decide | exact xs_ (by decide) | exact xc_ (by decide) | exact x31_ (by decide) | omega)
    have hRr : wtR V v l w b = (-1) := by
      exact if_neg (by first | assumption | decide | exact xs_ (by decide) | exact xc_ (by decide) | exact x31_ (by decide) | omega)
    rw [hM] at k
    rw [hRr] at k
    exact k _ ⟨hR.1, hR.2.1, hR.2.2⟩
theorem y_shut {eb : Bool} {t : Int} {V : Mm} {d : Nat} {P : Option Vl → Mm → Prop} {σ : Mm} {l : Int}  {σ0 : Mm} (ht : 6 ≤ t ∧ t ≤ 7) (hR : RS t σ0 V σ) (hG : GI V)  (k : ∀ ρ : Mm, RS t σ0 (shM V l) ρ → P (some (vI (shR V l))) ρ) : WT (true, eb, true) (d + 3) 176 [vR 30 0, vI l] σ P := by
  refine WT_in fun K hK => ?_
  have hK : StpY (true, eb, true) cX6_shut RX6 (some .boolean) (WT (true, eb, true) (d + 2)) P K := hK
  have hM := hK.1
  have hC := hK.1.1
  show K 0 [some (vR 30 0), some (vI l)] [] σ
  refine r_rngz hC (fun g0 => ?_)
  have r_l : -2147483648 ≤ l ∧ l ≤ 2147483647 := inR_le (g0 (vI l) (by simp))
  refine r_aload_n hC dX6_shut_0 rfl ?_
  refine r_iload_n hC dX6_shut_1 rfl ?_
  refine z_inv1 hM dX6_shut_2 vl_RX6_124 rfl rfl rfl (Nat.le_of_ble_eq_true rfl) (Nat.le_of_ble_eq_true rfl) ?_
  refine y_isLane (V := V) ht ⟨hR.1, hR.2.1, hR.2.2⟩ (fun h1 => ?_) (fun h1 => ?_)
  · unfold opV at h1
    refine r_if_ne (tgt := 10) hC dX6_shut_5 rfl (fun h2 => ?_) (fun h2 => by omega)
    refine r_aload_n hC dX6_shut_10 rfl ?_
    refine r_iload_n hC dX6_shut_11 rfl ?_
    refine r_iconst hC dX6_shut_12 rfl ?_
    refine r_iconst hC dX6_shut_13 rfl ?_
    refine z_inv3 hM dX6_shut_14 vl_RX6_173 rfl rfl rfl (Nat.le_of_ble_eq_true rfl) (Nat.le_of_ble_eq_true rfl) ?_
    refine y_set (by first | assumption | decide | exact xs_ (by decide) | exact xc_ (by decide) | exact x31_ (by decide) | omega) (by first | assumption | decide | exact xs_ (by decide) | exact xc_ (by decide) | exact x31_ (by decide) | omega) ⟨fun h => by omega, fun h => by omega⟩ ?_
    obtain ⟨ρ3, e_ρ3⟩ : ∃ zz_, zz_ = mu σ 31 0 ((22 * l) + 0) 0 := ⟨_, rfl⟩
    rw [← e_ρ3]
    have Sρ3 : SB t σ0 (mu V 7 l 1 0) ρ3 := by rw [e_ρ3, show ((22 * l) + 0) = 22 * l + 0 from by omega]; exact hR.1.p7 (by first | assumption | decide | exact xs_ (by decide) | exact xc_ (by decide) | exact x31_ (by decide) | omega) (by first | assumption | decide | exact xs_ (by decide) | exact xc_ (by decide) | exact x31_ (by decide) | omega) (by first | assumption | decide | exact xs_ (by decide) | exact xc_ (by decide) | exact x31_ (by decide) | omega)
    have Kρ3 : KF t (mu V 7 l 1 0) ρ3 := by rw [e_ρ3]; exact (hR.2.1).e (fun l a b => ⟨mu_ne (by first | assumption | decide | exact xs_ (by decide) | exact xc_ (by decide) | exact x31_ (by decide) | omega), mu_ne (by first | assumption | decide | exact xs_ (by decide) | exact xc_ (by decide) | exact x31_ (by decide) | omega)⟩) |>.v (fun l => mu_ne (by first | assumption | decide | exact xs_ (by decide) | exact xc_ (by decide) | exact x31_ (by decide) | omega))
    have Fρ3 : FB (mu V 7 l 1 0) ρ3 := by rw [e_ρ3]; exact (hR.2.2).e (fun l a b => mu_ne (by first | assumption | decide | exact xs_ (by decide) | exact xc_ (by decide) | exact x31_ (by decide) | omega)) |>.v (fun l y a b c => mu_ne (by first | assumption | decide | exact xs_ (by decide) | exact xc_ (by decide) | exact x31_ (by decide) | omega))
    clear e_ρ3
    refine r_aload_n hC dX6_shut_17 rfl ?_
    refine r_iload_n hC dX6_shut_18 rfl ?_
    refine z_inv1 hM dX6_shut_19 vl_RX6_176 rfl rfl rfl (Nat.le_of_ble_eq_true rfl) (Nat.le_of_ble_eq_true rfl) ?_
    refine y_endWatches (V := (mu V 7 l 1 0)) (by first | assumption | decide | exact xs_ (by decide) | exact xc_ (by decide) | exact x31_ (by decide) | omega) ht ⟨Sρ3, Kρ3, Fρ3⟩ (fun ρ4 Rρ4 => ?_)
    clear Sρ3 Kρ3 Fρ3
    refine r_aload_n hC dX6_shut_22 rfl ?_
    refine r_iload_n hC dX6_shut_23 rfl ?_
    refine z_inv1 hM dX6_shut_24 vl_RX6_179 rfl rfl rfl (Nat.le_of_ble_eq_true rfl) (Nat.le_of_ble_eq_true rfl) ?_
    refine y_endLinks (V := (etA (mu V 7 l 1 0) l 8)) (by first | assumption | decide | exact xs_ (by decide) | exact xc_ (by decide) | exact x31_ (by decide) | omega) ht ⟨Rρ4.1, Rρ4.2.1, Rρ4.2.2⟩ (fun ρ5 Rρ5 => ?_)
    clear Rρ4
    refine r_iconst hC dX6_shut_27 rfl ?_
    refine y_zret hK rfl dX6_shut_28 (by first | assumption | decide | exact xs_ (by decide) | exact xc_ (by decide) | exact x31_ (by decide) | omega) ?_
    have hM : shM V l = (etB (etA (mu V 7 l 1 0) l 8) l 4) := by
      exact if_pos (by first | assumption | decide | exact xs_ (by decide) | exact xc_ (by decide) | exact x31_ (by decide) | omega)
    have hRr : shR V l = 1 := by
      exact if_pos (by first | assumption | decide | exact xs_ (by decide) | exact xc_ (by decide) | exact x31_ (by decide) | omega)
    rw [hM] at k
    rw [hRr] at k
    exact k _ ⟨Rρ5.1, Rρ5.2.1, Rρ5.2.2⟩
  · unfold opV at h1
    refine r_if_ne (tgt := 10) hC dX6_shut_5 rfl (fun h6 => by omega) (fun h6 => ?_)
    refine r_iconst hC dX6_shut_8 rfl ?_
    refine y_zret hK rfl dX6_shut_9 (by first | assumption | decide | exact xs_ (by decide) | exact xc_ (by decide) | exact x31_ (by decide) | omega) ?_
    have hM : shM V l = V := by
      exact if_neg (by first | assumption | decide | exact xs_ (by decide) | exact xc_ (by decide) | exact x31_ (by decide) | omega)
    have hRr : shR V l = 0 := by
      exact if_neg (by first | assumption | decide | exact xs_ (by decide) | exact xc_ (by decide) | exact x31_ (by decide) | omega)
    rw [hM] at k
    rw [hRr] at k
    exact k _ ⟨hR.1, hR.2.1, hR.2.2⟩
theorem y_isUsed {eb : Bool} {t : Int} {V : Mm} {d : Nat} {P : Option Vl → Mm → Prop} {σ : Mm} {o : Int}  {σ0 : Mm} (ht : 6 ≤ t ∧ t ≤ 7) (hR : RS t σ0 V σ)  (k1 : usV V o → P (some (vI 1)) σ) (k0 : ¬ usV V o → P (some (vI 0)) σ) : WT (true, eb, true) (d + 2) 142 [vR 30 0, vI o] σ P := by
  refine WT_in fun K hK => ?_
  have hK : StpY (true, eb, true) cX6_isUsed RX6 (some .boolean) (WT (true, eb, true) (d + 1)) P K := hK
  have hM := hK.1
  have hC := hK.1.1
  show K 0 [some (vR 30 0), some (vI o), none] [] σ
  refine r_rngz hC (fun g0 => ?_)
  have r_o : -2147483648 ≤ o ∧ o ≤ 2147483647 := inR_le (g0 (vI o) (by simp))
  refine r_iconst hC dX6_isUsed_0 rfl ?_
  refine r_istore_n hC dX6_isUsed_1 rfl ?_
  have L2 : ∀ (n2 : Nat) (w1 : Int), 0 ≤ w1 ∧ w1 ≤ 7 → (∀ j : Int, 0 ≤ j → j < (w1) → ¬ (V 7 j 1 = 1 ∧ V 7 j 2 = o)) → 7 - w1 < (n2 : Int) → K 2 [some (vR 30 0), some (vI o), some (vI w1)] [] σ := by
    intro n2
    induction n2 with
    | zero => intro w1  f_w1 i0_2 hm  ; omega
    | succ n2 ih2 =>
      intro w1  f_w1 i0_2 hm2  
      refine r_iload_n hC dX6_isUsed_2 rfl ?_
      refine r_bipush hC dX6_isUsed_3 rfl ?_
      refine r_icmp_ge (tgt := 36) hC dX6_isUsed_5 rfl (fun h2 => ?_) (fun h2 => ?_)
      · refine r_iconst hC dX6_isUsed_36 rfl ?_
        refine y_zret hK rfl dX6_isUsed_37 (by first | assumption | decide | exact xs_ (by decide) | exact xc_ (by decide) | exact x31_ (by decide) | omega) ?_
        exact k0 (by rintro ⟨j, j0, j1, j2⟩; exact i0_2 j j0.1 (by first | assumption | decide | exact xs_ (by decide) | exact xc_ (by decide) | exact x31_ (by decide) | omega) ⟨j1, j2⟩)
      · refine r_aload_n hC dX6_isUsed_8 rfl ?_
        refine r_iload_n hC dX6_isUsed_9 rfl ?_
        refine r_iconst hC dX6_isUsed_10 rfl ?_
        refine z_inv2 hM dX6_isUsed_11 vl_RX6_80 rfl rfl rfl (Nat.le_of_ble_eq_true rfl) (Nat.le_of_ble_eq_true rfl) ?_
        refine y_of (by first | assumption | decide | exact xs_ (by decide) | exact xc_ (by decide) | exact x31_ (by decide) | omega) (by first | assumption | decide | exact xs_ (by decide) | exact xc_ (by decide) | exact x31_ (by decide) | omega) (by first | assumption | decide | exact xs_ (by decide) | exact xc_ (by decide) | exact x31_ (by decide) | omega) (fun o3 => ?_)
        have e4 : σ 31 0 (22 * w1 + 0) = (V 7 w1 1) := (hR.1.a7 (s := 1) (f := 0) (by first | assumption | decide | exact xs_ (by decide) | exact xc_ (by decide) | exact x31_ (by decide) | omega) (by first | assumption | decide | exact xs_ (by decide) | exact xc_ (by decide) | exact x31_ (by decide) | omega) (by first | assumption | decide | exact xs_ (by decide) | exact xc_ (by decide) | exact x31_ (by decide) | omega)).trans (rfl)
        rw [e4] at o3 ⊢
        have qo3 : 0 ≤ (V 7 w1 1) ∧ (V 7 w1 1) ≤ 1 := by have := o3.2 (by first | assumption | decide | exact xs_ (by decide) | exact xc_ (by decide) | exact x31_ (by decide) | omega); omega
        refine r_iconst hC dX6_isUsed_14 rfl ?_
        refine r_icmp_ne (tgt := 30) hC dX6_isUsed_15 rfl (fun h5 => ?_) (fun h5 => ?_)
        · refine r_iincE hC ((w1 + 1)) dX6_isUsed_30 rfl rfl (by first | assumption | decide | exact xs_ (by decide) | exact xc_ (by decide) | exact x31_ (by decide) | omega) (by unfold inR; omega) ?_
          refine r_goto (tgt := 2) hC dX6_isUsed_33 rfl ?_
          exact ih2 ((w1 + 1))  (by first | assumption | decide | exact xs_ (by decide) | exact xc_ (by decide) | exact x31_ (by decide) | omega) (by intro j h0 h1; first | omega | (rcases (by omega : j < w1 ∨ j = w1) with h | h; exact i0_2 j h0 h; subst h; omega)) (by first | assumption | decide | exact xs_ (by decide) | exact xc_ (by decide) | exact x31_ (by decide) | omega)  
        · refine r_aload_n hC dX6_isUsed_18 rfl ?_
          refine r_iload_n hC dX6_isUsed_19 rfl ?_
          refine r_iconst hC dX6_isUsed_20 rfl ?_
          refine z_inv2 hM dX6_isUsed_21 vl_RX6_80 rfl rfl rfl (Nat.le_of_ble_eq_true rfl) (Nat.le_of_ble_eq_true rfl) ?_
          refine y_of (by first | assumption | decide | exact xs_ (by decide) | exact xc_ (by decide) | exact x31_ (by decide) | omega) (by first | assumption | decide | exact xs_ (by decide) | exact xc_ (by decide) | exact x31_ (by decide) | omega) (by first | assumption | decide | exact xs_ (by decide) | exact xc_ (by decide) | exact x31_ (by decide) | omega) (fun o6 => ?_)
          have e7 : σ 31 0 (22 * w1 + 1) = (V 7 w1 2) := (hR.1.a7 (s := 2) (f := 1) (by first | assumption | decide | exact xs_ (by decide) | exact xc_ (by decide) | exact x31_ (by decide) | omega) (by first | assumption | decide | exact xs_ (by decide) | exact xc_ (by decide) | exact x31_ (by decide) | omega) (by first | assumption | decide | exact xs_ (by decide) | exact xc_ (by decide) | exact x31_ (by decide) | omega)).trans (rfl)
          rw [e7] at o6 ⊢
          refine r_iload_n hC dX6_isUsed_24 rfl ?_
          refine r_icmp_ne (tgt := 30) hC dX6_isUsed_25 rfl (fun h8 => ?_) (fun h8 => ?_)
          · refine r_iincE hC ((w1 + 1)) dX6_isUsed_30 rfl rfl (by first | assumption | decide | exact xs_ (by decide) | exact xc_ (by decide) | exact x31_ (by decide) | omega) (by unfold inR; omega) ?_
            refine r_goto (tgt := 2) hC dX6_isUsed_33 rfl ?_
            exact ih2 ((w1 + 1))  (by first | assumption | decide | exact xs_ (by decide) | exact xc_ (by decide) | exact x31_ (by decide) | omega) (by intro j h0 h1; first | omega | (rcases (by omega : j < w1 ∨ j = w1) with h | h; exact i0_2 j h0 h; subst h; omega)) (by first | assumption | decide | exact xs_ (by decide) | exact xc_ (by decide) | exact x31_ (by decide) | omega)  
          · refine r_iconst hC dX6_isUsed_28 rfl ?_
            refine y_zret hK rfl dX6_isUsed_29 (by first | assumption | decide | exact xs_ (by decide) | exact xc_ (by decide) | exact x31_ (by decide) | omega) ?_
            exact k1 ⟨w1, by omega, by omega, by omega⟩
  exact L2 9 (0)  (by first | assumption | decide | exact xs_ (by decide) | exact xc_ (by decide) | exact x31_ (by decide) | omega) (by intro j h0 h1; first | omega | (rcases (by omega : j < w1 ∨ j = w1) with h | h; exact i0_2 j h0 h; subst h; omega)) (by first | assumption | decide | exact xs_ (by decide) | exact xc_ (by decide) | exact x31_ (by decide) | omega)  
theorem y_table {eb : Bool} {t : Int} {V : Mm} {d : Nat} {P : Option Vl → Mm → Prop} {σ : Mm} {x y : Int}  {σ0 : Mm} (ht : 6 ≤ t ∧ t ≤ 7) (hR : RS t σ0 V σ)  (k1 : ((0 ≤ x ∧ x ≤ 15) ∧ 0 ≤ y ∧ y ≤ 3) ∧ ¬ usV V 9 → ∀ ρ : Mm, RS t σ0 (mu V 15 0 x y) ρ → P (some (vI 1)) ρ) (k0 : ¬ (((0 ≤ x ∧ x ≤ 15) ∧ 0 ≤ y ∧ y ≤ 3) ∧ ¬ usV V 9) → ∀ ρ : Mm, RS t σ0 V ρ → P (some (vI 0)) ρ) : WT (true, eb, true) (d + 3) 143 [vR 30 0, vI x, vI y] σ P := by
  refine WT_in fun K hK => ?_
  have hK : StpY (true, eb, true) cX6_table RX6 (some .boolean) (WT (true, eb, true) (d + 2)) P K := hK
  have hM := hK.1
  have hC := hK.1.1
  show K 0 [some (vR 30 0), some (vI x), some (vI y)] [] σ
  refine r_rngz hC (fun g0 => ?_)
  have r_x : -2147483648 ≤ x ∧ x ≤ 2147483647 := inR_le (g0 (vI x) (by simp))
  have r_y : -2147483648 ≤ y ∧ y ≤ 2147483647 := inR_le (g0 (vI y) (by simp))
  refine r_iload_n hC dX6_table_0 rfl ?_
  refine r_iconst hC dX6_table_1 rfl ?_
  refine r_bipush hC dX6_table_2 rfl ?_
  refine z_ins3 hM dX6_table_4 tl_RX6_76 rfl (Nat.le_of_ble_eq_true rfl) (Nat.le_of_ble_eq_true rfl) ?_
  refine m_isIn (fun h2 => ?_) (fun h2 => ?_)
  · refine r_if_eq (tgt := 28) hC dX6_table_7 rfl (fun h3 => by omega) (fun h3 => ?_)
    refine r_iload_n hC dX6_table_10 rfl ?_
    refine r_iconst hC dX6_table_11 rfl ?_
    refine r_iconst hC dX6_table_12 rfl ?_
    refine z_ins3 hM dX6_table_13 tl_RX6_76 rfl (Nat.le_of_ble_eq_true rfl) (Nat.le_of_ble_eq_true rfl) ?_
    refine m_isIn (fun h5 => ?_) (fun h5 => ?_)
    · refine r_if_eq (tgt := 28) hC dX6_table_16 rfl (fun h6 => by omega) (fun h6 => ?_)
      refine r_aload_n hC dX6_table_19 rfl ?_
      refine r_bipush hC dX6_table_20 rfl ?_
      refine z_inv1 hM dX6_table_22 vl_RX6_84 rfl rfl rfl (Nat.le_of_ble_eq_true rfl) (Nat.le_of_ble_eq_true rfl) ?_
      refine y_isUsed (V := V) ht ⟨hR.1, hR.2.1, hR.2.2⟩ (fun hus => ?_) (fun hus => ?_)
      · refine r_if_eq (tgt := 30) hC dX6_table_25 rfl (fun h7 => by omega) (fun h7 => ?_)
        refine r_iconst hC dX6_table_28 rfl ?_
        refine y_zret hK rfl dX6_table_29 (by first | assumption | decide | exact xs_ (by decide) | exact xc_ (by decide) | exact x31_ (by decide) | omega) ?_
        exact k0 (fun q => by have q1 := q.1; first | omega | exact q.2 hus) _ ⟨hR.1, hR.2.1, hR.2.2⟩
      · refine r_if_eq (tgt := 30) hC dX6_table_25 rfl (fun h8 => ?_) (fun h8 => by omega)
        refine r_aload_n hC dX6_table_30 rfl ?_
        refine z_getR hM dX6_table_31 fl_RX6_22 rfl rfl (vld_of (n := 1) rfl (by first | assumption | decide | exact xs_ (by decide) | exact xc_ (by decide) | exact x31_ (by decide) | omega) (by first | assumption | decide | exact xs_ (by decide) | exact xc_ (by decide) | exact x31_ (by decide) | omega)) ?_
        refine r_iload_n hC dX6_table_34 rfl ?_
        refine r_iload_n hC dX6_table_35 rfl ?_
        refine z_iastT hM dX6_table_36 rfl (by first | assumption | decide | exact xs_ (by decide) | exact xc_ (by decide) | exact x31_ (by decide) | omega) (by first | assumption | decide | exact xs_ (by decide) | exact xc_ (by decide) | exact x31_ (by decide) | omega) ⟨Or.inr (by first | exact id | exact dl7_ (by decide) | simp [DL]), Or.inr (by first | exact id | exact df14_ (by decide) | simp [DF])⟩ (by first | trivial | (simp only [Okv]; omega) | (simp [Okv]; try omega)) ?_
        obtain ⟨ρ9, e_ρ9⟩ : ∃ zz_, zz_ = mu σ 35 0 x y := ⟨_, rfl⟩
        rw [← e_ρ9]
        have Sρ9 : SB t σ0 (mu V 15 0 x y) ρ9 := by rw [e_ρ9]; exact hR.1.p15 (by first | assumption | decide | exact xs_ (by decide) | exact xc_ (by decide) | exact x31_ (by decide) | omega) (by first | assumption | decide | exact xs_ (by decide) | exact xc_ (by decide) | exact x31_ (by decide) | omega)
        have Kρ9 : KF t (mu V 15 0 x y) ρ9 := by rw [e_ρ9]; exact (hR.2.1).e (fun l a b => ⟨mu_ne (by first | assumption | decide | exact xs_ (by decide) | exact xc_ (by decide) | exact x31_ (by decide) | omega), mu_ne (by first | assumption | decide | exact xs_ (by decide) | exact xc_ (by decide) | exact x31_ (by decide) | omega)⟩) |>.v (fun l => mu_ne (by first | assumption | decide | exact xs_ (by decide) | exact xc_ (by decide) | exact x31_ (by decide) | omega))
        have Fρ9 : FB (mu V 15 0 x y) ρ9 := by rw [e_ρ9]; exact (hR.2.2).e (fun l a b => mu_ne (by first | assumption | decide | exact xs_ (by decide) | exact xc_ (by decide) | exact x31_ (by decide) | omega)) |>.v (fun l y a b c => mu_ne (by first | assumption | decide | exact xs_ (by decide) | exact xc_ (by decide) | exact x31_ (by decide) | omega))
        clear e_ρ9
        refine r_iconst hC dX6_table_37 rfl ?_
        refine y_zret hK rfl dX6_table_38 (by first | assumption | decide | exact xs_ (by decide) | exact xc_ (by decide) | exact x31_ (by decide) | omega) ?_
        exact k1 ⟨by omega, hus⟩ _ ⟨Sρ9, Kρ9, Fρ9⟩
    · refine r_if_eq (tgt := 28) hC dX6_table_16 rfl (fun h10 => ?_) (fun h10 => by omega)
      refine r_iconst hC dX6_table_28 rfl ?_
      refine y_zret hK rfl dX6_table_29 (by first | assumption | decide | exact xs_ (by decide) | exact xc_ (by decide) | exact x31_ (by decide) | omega) ?_
      exact k0 (fun q => by have q1 := q.1; first | omega | exact q.2 hus) _ ⟨hR.1, hR.2.1, hR.2.2⟩
  · refine r_if_eq (tgt := 28) hC dX6_table_7 rfl (fun h11 => ?_) (fun h11 => by omega)
    refine r_iconst hC dX6_table_28 rfl ?_
    refine y_zret hK rfl dX6_table_29 (by first | assumption | decide | exact xs_ (by decide) | exact xc_ (by decide) | exact x31_ (by decide) | omega) ?_
    exact k0 (fun q => by have q1 := q.1; first | omega | exact q.2 hus) _ ⟨hR.1, hR.2.1, hR.2.2⟩
theorem y_letter {eb : Bool} {t : Int} {V : Mm} {d : Nat} {P : Option Vl → Mm → Prop} {σ : Mm} {x y : Int}  {σ0 : Mm} (ht : 6 ≤ t ∧ t ≤ 7) (hR : RS t σ0 V σ)  (k1 : ((0 ≤ x ∧ x ≤ 7) ∧ 0 ≤ y ∧ y ≤ 255) ∧ ¬ usV V 4 → ∀ ρ : Mm, RS t σ0 (mu V 16 0 x y) ρ → P (some (vI 1)) ρ) (k0 : ¬ (((0 ≤ x ∧ x ≤ 7) ∧ 0 ≤ y ∧ y ≤ 255) ∧ ¬ usV V 4) → ∀ ρ : Mm, RS t σ0 V ρ → P (some (vI 0)) ρ) : WT (true, eb, true) (d + 3) 144 [vR 30 0, vI x, vI y] σ P := by
  refine WT_in fun K hK => ?_
  have hK : StpY (true, eb, true) cX6_letter RX6 (some .boolean) (WT (true, eb, true) (d + 2)) P K := hK
  have hM := hK.1
  have hC := hK.1.1
  show K 0 [some (vR 30 0), some (vI x), some (vI y)] [] σ
  refine r_rngz hC (fun g0 => ?_)
  have r_x : -2147483648 ≤ x ∧ x ≤ 2147483647 := inR_le (g0 (vI x) (by simp))
  have r_y : -2147483648 ≤ y ∧ y ≤ 2147483647 := inR_le (g0 (vI y) (by simp))
  refine r_iload_n hC dX6_letter_0 rfl ?_
  refine r_iconst hC dX6_letter_1 rfl ?_
  refine r_bipush hC dX6_letter_2 rfl ?_
  refine z_ins3 hM dX6_letter_4 tl_RX6_76 rfl (Nat.le_of_ble_eq_true rfl) (Nat.le_of_ble_eq_true rfl) ?_
  refine m_isIn (fun h2 => ?_) (fun h2 => ?_)
  · refine r_if_eq (tgt := 29) hC dX6_letter_7 rfl (fun h3 => by omega) (fun h3 => ?_)
    refine r_iload_n hC dX6_letter_10 rfl ?_
    refine r_iconst hC dX6_letter_11 rfl ?_
    refine r_sipush hC dX6_letter_12 rfl ?_
    refine z_ins3 hM dX6_letter_15 tl_RX6_76 rfl (Nat.le_of_ble_eq_true rfl) (Nat.le_of_ble_eq_true rfl) ?_
    refine m_isIn (fun h5 => ?_) (fun h5 => ?_)
    · refine r_if_eq (tgt := 29) hC dX6_letter_18 rfl (fun h6 => by omega) (fun h6 => ?_)
      refine r_aload_n hC dX6_letter_21 rfl ?_
      refine r_iconst hC dX6_letter_22 rfl ?_
      refine z_inv1 hM dX6_letter_23 vl_RX6_84 rfl rfl rfl (Nat.le_of_ble_eq_true rfl) (Nat.le_of_ble_eq_true rfl) ?_
      refine y_isUsed (V := V) ht ⟨hR.1, hR.2.1, hR.2.2⟩ (fun hus => ?_) (fun hus => ?_)
      · refine r_if_eq (tgt := 31) hC dX6_letter_26 rfl (fun h7 => by omega) (fun h7 => ?_)
        refine r_iconst hC dX6_letter_29 rfl ?_
        refine y_zret hK rfl dX6_letter_30 (by first | assumption | decide | exact xs_ (by decide) | exact xc_ (by decide) | exact x31_ (by decide) | omega) ?_
        exact k0 (fun q => by have q1 := q.1; first | omega | exact q.2 hus) _ ⟨hR.1, hR.2.1, hR.2.2⟩
      · refine r_if_eq (tgt := 31) hC dX6_letter_26 rfl (fun h8 => ?_) (fun h8 => by omega)
        refine r_aload_n hC dX6_letter_31 rfl ?_
        refine z_getR hM dX6_letter_32 fl_RX6_25 rfl rfl (vld_of (n := 1) rfl (by first | assumption | decide | exact xs_ (by decide) | exact xc_ (by decide) | exact x31_ (by decide) | omega) (by first | assumption | decide | exact xs_ (by decide) | exact xc_ (by decide) | exact x31_ (by decide) | omega)) ?_
        refine r_iload_n hC dX6_letter_35 rfl ?_
        refine r_iload_n hC dX6_letter_36 rfl ?_
        refine z_iastT hM dX6_letter_37 rfl (by first | assumption | decide | exact xs_ (by decide) | exact xc_ (by decide) | exact x31_ (by decide) | omega) (by first | assumption | decide | exact xs_ (by decide) | exact xc_ (by decide) | exact x31_ (by decide) | omega) ⟨Or.inr (by first | exact id | exact dl7_ (by decide) | simp [DL]), Or.inr (by first | exact id | exact df14_ (by decide) | simp [DF])⟩ (by first | trivial | (simp only [Okv]; omega) | (simp [Okv]; try omega)) ?_
        obtain ⟨ρ9, e_ρ9⟩ : ∃ zz_, zz_ = mu σ 36 0 x y := ⟨_, rfl⟩
        rw [← e_ρ9]
        have Sρ9 : SB t σ0 (mu V 16 0 x y) ρ9 := by rw [e_ρ9]; exact hR.1.p16 (by first | assumption | decide | exact xs_ (by decide) | exact xc_ (by decide) | exact x31_ (by decide) | omega) (by first | assumption | decide | exact xs_ (by decide) | exact xc_ (by decide) | exact x31_ (by decide) | omega)
        have Kρ9 : KF t (mu V 16 0 x y) ρ9 := by rw [e_ρ9]; exact (hR.2.1).e (fun l a b => ⟨mu_ne (by first | assumption | decide | exact xs_ (by decide) | exact xc_ (by decide) | exact x31_ (by decide) | omega), mu_ne (by first | assumption | decide | exact xs_ (by decide) | exact xc_ (by decide) | exact x31_ (by decide) | omega)⟩) |>.v (fun l => mu_ne (by first | assumption | decide | exact xs_ (by decide) | exact xc_ (by decide) | exact x31_ (by decide) | omega))
        have Fρ9 : FB (mu V 16 0 x y) ρ9 := by rw [e_ρ9]; exact (hR.2.2).e (fun l a b => mu_ne (by first | assumption | decide | exact xs_ (by decide) | exact xc_ (by decide) | exact x31_ (by decide) | omega)) |>.v (fun l y a b c => mu_ne (by first | assumption | decide | exact xs_ (by decide) | exact xc_ (by decide) | exact x31_ (by decide) | omega))
        clear e_ρ9
        refine r_iconst hC dX6_letter_38 rfl ?_
        refine y_zret hK rfl dX6_letter_39 (by first | assumption | decide | exact xs_ (by decide) | exact xc_ (by decide) | exact x31_ (by decide) | omega) ?_
        exact k1 ⟨by omega, hus⟩ _ ⟨Sρ9, Kρ9, Fρ9⟩
    · refine r_if_eq (tgt := 29) hC dX6_letter_18 rfl (fun h10 => ?_) (fun h10 => by omega)
      refine r_iconst hC dX6_letter_29 rfl ?_
      refine y_zret hK rfl dX6_letter_30 (by first | assumption | decide | exact xs_ (by decide) | exact xc_ (by decide) | exact x31_ (by decide) | omega) ?_
      exact k0 (fun q => by have q1 := q.1; first | omega | exact q.2 hus) _ ⟨hR.1, hR.2.1, hR.2.2⟩
  · refine r_if_eq (tgt := 29) hC dX6_letter_7 rfl (fun h11 => ?_) (fun h11 => by omega)
    refine r_iconst hC dX6_letter_29 rfl ?_
    refine y_zret hK rfl dX6_letter_30 (by first | assumption | decide | exact xs_ (by decide) | exact xc_ (by decide) | exact x31_ (by decide) | omega) ?_
    exact k0 (fun q => by have q1 := q.1; first | omega | exact q.2 hus) _ ⟨hR.1, hR.2.1, hR.2.2⟩
-- B: what is asked of a LANE
def evR (V : Mm) (l x w : Int) : Int := if evC V l x then (if w = 0 then V 8 l x else if w = 1 then V 9 l x else if w = 2 then V 10 l x else -2147483648) else -2147483648
def ptV (V : Mm) (l f z w : Int) : Int := cm (V 16 0) (V 15 0) (V 7 l 2) (fun j => V 9 l (f + j)) (z - f).toNat w
def ttR (V : Mm) (l w : Int) : Int := if lwC V l w then ptV V l 0 (V 7 l 6) w else -2147483648
def laR (V : Mm) (l h w : Int) : Int := if 0 ≤ h ∧ h ≤ 2 then ttR V l w else -2147483648
def ptR (V : Mm) (l f z w : Int) : Int := if lwC V l w ∧ 0 ≤ f ∧ f ≤ z ∧ z < V 7 l 6 then ptV V l f (z + 1) w else -2147483648
def duR (V : Mm) (l f z w : Int) : Int := if lwC V l w then ptV V l (hU V l (f - 1)) (hU V l z) w else -2147483648
def mnR (V : Mm) (l f z : Int) : Int := if opV V l then max 0 (hU V l z - hU V l (f - 1)) else -1
def stR (V : Mm) (l w : Int) : Int := if opV V l then (if w = 0 then V 11 l 0 else if w = 1 then V 11 l 1 else if w = 2 then V 11 l 2 else if w = 3 then V 11 l 3 else if w = 4 then V 11 l 4 else if w = 5 then V 11 l 5 else if w = 6 then V 11 l 6 else -1) else -1
def soR (V : Mm) (l w : Int) : Int := if opV V l then (if w = 0 then (if 0 < V 11 l 3 then -1 else V 11 l 0 + 1 - V 11 l 2) else if w = 1 then (if 0 < V 11 l 3 then (V 11 l 3 + 2) / 3 else -1) else -1) else -1
def lkR (V : Mm) (l w : Int) : Int := if ulC V l then (if w = 0 then V 13 l 0 else if w = 1 then V 13 l 1 else if w = 2 then V 13 l 2 else if w = 3 then V 13 l 3 else -1) else -1
abbrev wtd (V : Mm) (v : Int) : Prop := (0 ≤ v ∧ v ≤ 7) ∧ V 12 v 0 ≠ -1
def riR (V : Mm) (v : Int) : Int := if wtd V v then V 12 v 4 else -1
def raR (V : Mm) (v : Int) : Int := if wtd V v then V 12 v 5 else -1
