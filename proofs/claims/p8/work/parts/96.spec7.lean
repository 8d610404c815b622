-- B: what always holds at rest, and what keeps it
theorem hc_spec (f : Int → Int) (t : Int) : ∀ n : Nat, (∀ j : Int, hc f t n ≤ j → j < (n : Int) → t < f j) ∧ (hc f t n = 0 ∨ f (hc f t n - 1) ≤ t)
  | 0 => ⟨fun j a b => by have : (0 : Int) ≤ j := a; omega, Or.inl rfl⟩
  | n + 1 => by
    obtain ⟨i1, i2⟩ := hc_spec f t n
    have e : hc f t (n + 1) = (if f n ≤ t then (n : Int) + 1 else hc f t n) := rfl
    rw [e]
    by_cases h : f n ≤ t
    · rw [if_pos h]
      refine ⟨fun j a b => by omega, Or.inr ?_⟩
      rw [show (n : Int) + 1 - 1 = (n : Int) from by omega]
      exact h
    · rw [if_neg h]
      refine ⟨fun j a b => ?_, i2⟩
      by_cases ej : j = (n : Int)
      · subst ej; omega
      · exact i1 j a (by omega)
theorem hU_hi {V : Mm} {i t j : Int} (h : hU V i t ≤ j) (h1 : j < V 7 i 6) (h0 : 0 ≤ V 7 i 6) : t < V 8 i j := (hc_spec (V 8 i) t (V 7 i 6).toNat).1 j h (by omega)
theorem hU_lo {V : Mm} {i t j : Int} (s : So (V 8 i) (V 7 i 6)) (h0 : 0 ≤ V 7 i 6) (hj : 0 ≤ j) (h : j < hU V i t) : V 8 i j ≤ t := by
  have hb := hU_b (V := V) (i := i) (t := t) h0
  rcases (hc_spec (V 8 i) t (V 7 i 6).toNat).2 with q | q
  · have : hU V i t = 0 := q
    omega
  · have q2 : V 8 i (hU V i t - 1) ≤ t := q
    have := s.le2 hj (show j ≤ hU V i t - 1 by omega) (by omega)
    omega
theorem So_ins {f : Int → Int} {h a t : Int} (s : So f h) (ha : 0 ≤ a ∧ a ≤ h) (h1 : ∀ j : Int, 0 ≤ j → j < a → f j ≤ t) (h2 : ∀ j : Int, a ≤ j → j < h → t < f j) : So (insR f a h t) (h + 1) := fun j j0 j1 => by
  unfold insR
  by_cases e1 : j + 1 < a
  · rw [if_neg (by omega), if_neg (by omega), if_neg (by omega), if_neg (by omega)]
    exact s j j0 (by omega)
  by_cases e2 : j + 1 = a
  · rw [if_neg (by omega), if_neg (by omega), if_pos e2]
    exact h1 j j0 (by omega)
  by_cases e3 : j = a
  · rw [if_pos e3, if_neg (by omega), if_pos (by omega), show j + 1 - 1 = j from by omega]
    have := h2 j (by omega) (by omega)
    omega
  · rw [if_neg e3, if_pos (by omega), if_neg (by omega), if_pos (by omega), show j + 1 - 1 = j - 1 + 1 from by omega]
    exact s (j - 1) (by omega) (by omega)
theorem So_rem {f : Int → Int} {h e : Int} (s : So f h) (he : 0 ≤ e) : So (remR f e h) (h - 1) := fun j j0 j1 => by
  unfold remR
  by_cases e1 : j + 1 < e
  · rw [if_neg (by omega), if_neg (by omega)]
    exact s j j0 (by omega)
  by_cases e2 : j + 1 = e
  · rw [if_neg (by omega), if_pos (by omega)]
    have a := s j j0 (by omega)
    have b := s (j + 1) (by omega) (by omega)
    omega
  · rw [if_pos (by omega), if_pos (by omega)]
    exact s (j + 1) (by omega) (by omega)
def GJ (V : Mm) : Prop :=
  (∀ l : Int, 0 ≤ l → l ≤ 6 → So (V 8 l) (V 7 l 6)) ∧
  (∀ l : Int, 0 ≤ l → l ≤ 6 → (-1 ≤ V 7 l 10 ∧ V 7 l 10 ≤ 100000) ∧ (0 ≤ V 7 l 5 ∧ V 7 l 5 ≤ 10000) ∧ 0 ≤ V 7 l 4 ∧ V 7 l 4 ≤ 10000) ∧
  (∀ l y : Int, 0 ≤ l → l ≤ 6 → 0 ≤ y → y ≤ 120 → (0 ≤ V 8 l y ∧ V 8 l y ≤ 100000) ∧ -1000 ≤ V 9 l y ∧ V 9 l y ≤ 1000) ∧
  (∀ l : Int, 0 ≤ l → l ≤ 6 → (V 7 l 1 = 0 ∨ V 7 l 1 = 1) ∧ 0 ≤ V 7 l 2 ∧ V 7 l 2 ≤ 9) ∧
  (∀ b : Int, 4 ≤ b → b ≤ 6 → V 7 b 1 = 1 → 0 ≤ V 7 b 0 ∧ V 7 b 0 ≤ 3) ∧
  (∀ i : Int, 0 ≤ i → i ≤ 3 → V 13 i 0 = -1 ∨ (opV V i ∧ opV V (V 13 i 0) ∧ V 13 i 0 ≠ i ∧ V 13 (V 13 i 0) 0 = -1 ∧ 0 ≤ V 13 i 2 ∧ V 13 i 2 < numF (V 7 i 2))) ∧
  (∀ w : Int, 0 ≤ w → w ≤ 7 → (V 12 w 0 = -1 ∨ (opV V (V 12 w 0) ∧ 0 ≤ V 12 w 1 ∧ V 12 w 1 < numF (V 7 (V 12 w 0) 2))) ∧ (V 12 w 3 = 0 ∨ V 12 w 3 = 1)) ∧
  (∀ j : Int, 0 ≤ j → j < 16 → 0 ≤ V 15 0 j ∧ V 15 0 j ≤ 3)
/-- the places that GJ speaks of, but for a LANE's rows, how many are held and the newest's time -/
abbrev GP (c : Nat) (y : Int) : Prop := (c = 7 ∧ (y = 0 ∨ y = 1 ∨ y = 2 ∨ y = 4 ∨ y = 5)) ∨ (c = 13 ∧ (y = 0 ∨ y = 2)) ∨ (c = 12 ∧ (y = 0 ∨ y = 1 ∨ y = 3)) ∨ c = 15
abbrev GR (c : Nat) (y : Int) : Prop := c = 8 ∨ c = 9 ∨ (c = 7 ∧ (y = 6 ∨ y = 10))
theorem GJ.lane {V W : Mm} (i : Int) (h : GJ V) (e : ∀ (c : Nat) (x y : Int), GP c y → W c x y = V c x y) (e2 : ∀ (c : Nat) (x y : Int), x ≠ i → GR c y → W c x y = V c x y) (hS : 0 ≤ i → i ≤ 6 → So (W 8 i) (W 7 i 6)) (hN : 0 ≤ i → i ≤ 6 → -1 ≤ W 7 i 10 ∧ W 7 i 10 ≤ 100000) (hR : ∀ y : Int, 0 ≤ i → i ≤ 6 → 0 ≤ y → y ≤ 120 → (0 ≤ W 8 i y ∧ W 8 i y ≤ 100000) ∧ -1000 ≤ W 9 i y ∧ W 9 i y ≤ 1000) : GJ W := by
  obtain ⟨q1, q2, q3, q4, q5, q6, q7, q8⟩ := h
  have e7 : ∀ x y : Int, (y = 0 ∨ y = 1 ∨ y = 2 ∨ y = 4 ∨ y = 5) → W 7 x y = V 7 x y := fun x y hy => e 7 x y (Or.inl ⟨rfl, hy⟩)
  have e13 : ∀ x y : Int, (y = 0 ∨ y = 2) → W 13 x y = V 13 x y := fun x y hy => e 13 x y (Or.inr (Or.inl ⟨rfl, hy⟩))
  have e12 : ∀ x y : Int, (y = 0 ∨ y = 1 ∨ y = 3) → W 12 x y = V 12 x y := fun x y hy => e 12 x y (Or.inr (Or.inr (Or.inl ⟨rfl, hy⟩)))
  refine ⟨fun l a b => ?_, fun l a b => ?_, fun l y a b c d => ?_, fun l a b => ?_, fun b a c d => ?_, fun l a b => ?_, fun w a b => ?_, fun j a b => ?_⟩
  · by_cases hl : l = i
    · subst hl; exact hS a b
    · rw [e2 7 l 6 hl (by omega), show W 8 l = V 8 l from funext fun y => e2 8 l y hl (by omega)]; exact q1 l a b
  · have q := q2 l a b
    rw [e7 l 5 (by omega), e7 l 4 (by omega)]
    refine ⟨?_, q.2⟩
    by_cases hl : l = i
    · subst hl; exact hN a b
    · rw [e2 7 l 10 hl (by omega)]; exact q.1
  · by_cases hl : l = i
    · subst hl; exact hR y a b c d
    · rw [e2 8 l y hl (by omega), e2 9 l y hl (by omega)]; exact q3 l y a b c d
  · rw [e7 l 1 (by omega), e7 l 2 (by omega)]; exact q4 l a b
  · rw [e7 b 1 (by omega)] at d
    rw [e7 b 0 (by omega)]; exact q5 b a c d
  · unfold opV
    rw [e13 l 0 (by omega), e13 l 2 (by omega), e13 _ 0 (by omega), e7 l 1 (by omega), e7 l 2 (by omega), e7 _ 1 (by omega)]; exact q6 l a b
  · unfold opV
    rw [e12 w 0 (by omega), e12 w 1 (by omega), e12 w 3 (by omega), e7 _ 1 (by omega), e7 _ 2 (by omega)]; exact q7 w a b
  · rw [e 15 0 j (Or.inr (Or.inr (Or.inr rfl)))]; exact q8 j a b
theorem GJ.to {V W : Mm} (h : GJ V) (e : ∀ (c : Nat) (x y : Int), GP c y ∨ GR c y → W c x y = V c x y) : GJ W := by
  refine h.lane (-1) (fun c x y q => e c x y (Or.inl q)) (fun c x y _ q => e c x y (Or.inr q)) (fun a => by omega) (fun a => by omega) (fun y a => by omega)
theorem GJ.rg {V : Mm} (h : GJ V) {i : Int} : GJ (rgM V i) := by
  obtain ⟨q1, q2, q3, q4, q5, q6, q7, q8⟩ := h
  refine ⟨fun l a b => ?_, fun l a b => ?_, fun l y a b c d => ?_, fun l a b => ?_, fun b a c d => ?_, fun l a b => ?_, fun w a b => ?_, fun j a b => ?_⟩
  · rw [rgM_ne (by omega), show rgM V i 8 l = V 8 l from funext fun y => rgM_ne (by omega)]; exact q1 l a b
  · rw [rgM_ne (by omega), rgM_ne (by omega), rgM_ne (by omega)]; exact q2 l a b
  · rw [rgM_ne (by omega), rgM_ne (by omega)]; exact q3 l y a b c d
  · rw [rgM_ne (by omega), rgM_ne (by omega)]; exact q4 l a b
  · rw [rgM_ne (by omega)] at d
    rw [rgM_ne (by omega)]; exact q5 b a c d
  · unfold opV
    rw [show ∀ x : Int, rgM V i 13 x 0 = V 13 x 0 from fun x => rgM_ne (by omega), show ∀ x : Int, rgM V i 13 x 2 = V 13 x 2 from fun x => rgM_ne (by omega), show ∀ x : Int, rgM V i 7 x 1 = V 7 x 1 from fun x => rgM_ne (by omega), show ∀ x : Int, rgM V i 7 x 2 = V 7 x 2 from fun x => rgM_ne (by omega)]; exact q6 l a b
  · refine ⟨?_, ?_⟩
    · unfold opV
      rw [show ∀ x : Int, rgM V i 12 x 0 = V 12 x 0 from fun x => rgM_ne (by omega), show ∀ x : Int, rgM V i 12 x 1 = V 12 x 1 from fun x => rgM_ne (by omega), show ∀ x : Int, rgM V i 7 x 1 = V 7 x 1 from fun x => rgM_ne (by omega), show ∀ x : Int, rgM V i 7 x 2 = V 7 x 2 from fun x => rgM_ne (by omega)]; exact (q7 w a b).1
    · unfold rgM
      split
      · rw [if_pos rfl]; exact isR_01 V i w
      · exact (q7 w a b).2
  · rw [rgM_ne (by omega)]; exact q8 j a b
theorem ins_row8 {V : Mm} {i a t v : Int} : insM V i a t v 8 i = insR (V 8 i) a (V 7 i 6) t := by
  funext y
  unfold insM
  rw [if_pos rfl, if_pos rfl]
theorem ins_row9 {V : Mm} {i a t v : Int} : insM V i a t v 9 i = insR (V 9 i) a (V 7 i 6) v := by
  funext y
  unfold insM
  rw [if_pos rfl, if_neg (by decide), if_pos rfl]
theorem insM_10 {V : Mm} {i a t v : Int} : insM V i a t v 7 i 10 = max (V 7 i 10) t := by
  unfold insM
  rw [if_pos rfl, if_neg (by decide), if_neg (by decide), if_neg (by decide), if_pos rfl, if_neg (by decide), if_neg (by decide), if_pos rfl]
theorem rem_row {V : Mm} {i a : Int} {c : Nat} (h : c = 8 ∨ c = 9 ∨ c = 10) : remM V i a c i = remR (V c i) a (V 7 i 6) := by
  funext y
  unfold remM
  rw [if_pos rfl, if_pos h]
theorem insR_b {f : Int → Int} {a h x lo hi : Int} (hf : ∀ y : Int, 0 ≤ y → y ≤ 120 → lo ≤ f y ∧ f y ≤ hi) (hx : lo ≤ x ∧ x ≤ hi) (ha : 0 ≤ a) {y : Int} (y0 : 0 ≤ y) (y1 : y ≤ 120) : lo ≤ insR f a h x y ∧ insR f a h x y ≤ hi := by
  unfold insR
  split
  · exact hx
  · split
    · exact hf _ (by omega) (by omega)
    · exact hf y y0 y1
theorem remR_b {f : Int → Int} {a h lo hi : Int} (hf : ∀ y : Int, 0 ≤ y → y ≤ 120 → lo ≤ f y ∧ f y ≤ hi) (hh : h ≤ 121) {y : Int} (y0 : 0 ≤ y) (y1 : y ≤ 120) : lo ≤ remR f a h y ∧ remR f a h y ≤ hi := by
  unfold remR
  split
  · exact hf _ (by omega) (by omega)
  · exact hf y y0 y1
theorem GJ.ins {V : Mm} (h : GJ V) {i t v : Int} (h0 : 0 ≤ i) (h1 : i ≤ 6) (h6 : 0 ≤ V 7 i 6) (ht : 0 ≤ t ∧ t ≤ 100000) (hv : -1000 ≤ v ∧ v ≤ 1000) : GJ (insM V i (hU V i t) t v) := by
  have hb := hU_b (V := V) (i := i) (t := t) h6
  have hs := h.1 i h0 h1
  refine h.lane i (fun c x y q => insM_ne (by omega)) (fun c x y hx q => insM_ne (by omega)) (fun _ _ => ?_) (fun _ _ => ?_) (fun y _ _ a b => ?_)
  · rw [ins_row8, insM_6]
    exact So_ins hs hb (fun j j0 j1 => hU_lo hs h6 j0 j1) (fun j j0 j1 => hU_hi j0 j1 h6)
  · rw [insM_10]
    have := (h.2.1 i h0 h1).1
    omega
  · rw [ins_row8, ins_row9]
    exact ⟨insR_b (fun y a b => (h.2.2.1 i y h0 h1 a b).1) ht hb.1 a b, insR_b (fun y a b => (h.2.2.1 i y h0 h1 a b).2) hv hb.1 a b⟩
theorem GJ.rem {V : Mm} (h : GJ V) {i a : Int} (h0 : 0 ≤ i) (h1 : i ≤ 6) (h6 : V 7 i 6 ≤ 121) (ha : 0 ≤ a) : GJ (remM V i a) := by
  refine h.lane i (fun c x y q => remM_ne (by omega)) (fun c x y hx q => remM_ne (by omega)) (fun _ _ => ?_) (fun _ _ => ?_) (fun y _ _ b c => ?_)
  · rw [rem_row (Or.inl rfl), remM_6]
    exact So_rem (h.1 i h0 h1) ha
  · rw [remM_ne (by omega)]
    exact (h.2.1 i h0 h1).1
  · rw [rem_row (Or.inl rfl), rem_row (Or.inr (Or.inl rfl))]
    exact ⟨remR_b (fun y a b => (h.2.2.1 i y h0 h1 a b).1) h6 b c, remR_b (fun y a b => (h.2.2.1 i y h0 h1 a b).2) h6 b c⟩
theorem GJ.su {V : Mm} (h : GJ V) {i : Int} {f : Int → Int} : GJ (su V 11 i f) := h.to fun c x y q => su_ne (by omega)
theorem GJ.dp {V : Mm} (h : GJ V) {i : Int} (h0 : 0 ≤ i) (h1 : i ≤ 6) (h6 : V 7 i 6 ≤ 121) : GJ (dpM V i) := by
  unfold dpM
  refine GJ.rg ?_
  unfold dfM
  refine GJ.su ?_
  exact (h.rem h0 h1 h6 (Int.le_refl 0)).to fun c x y q => mu_ne (by omega)
theorem GJ.en {V : Mm} (h : GJ V) {i t v : Int} (h0 : 0 ≤ i) (h1 : i ≤ 6) (h6 : 0 ≤ V 7 i 6) (ht : 0 ≤ t ∧ t ≤ 100000) (hv : -1000 ≤ v ∧ v ≤ 1000) : GJ (enM V i t v) := by
  unfold enM
  refine GJ.rg ?_
  split
  · exact (h.ins h0 h1 h6 ht hv).su
  · exact (h.ins h0 h1 h6 ht hv).su
theorem GJ_drps {i : Int} (h0 : 0 ≤ i) (h1 : i ≤ 6) : ∀ (n : Nat) {V : Mm}, GJ V → V 7 i 6 ≤ 121 → GJ (drps i n V)
  | 0, _, h, _ => h
  | n + 1, V, h, h6 => by
    show GJ (if goV V i then drps i n (dpM V i) else V)
    split
    · exact GJ_drps h0 h1 n (h.dp h0 h1 h6) (by rw [dpM_6]; omega)
    · exact h
theorem GJ_dpN {i : Int} (h0 : 0 ≤ i) (h1 : i ≤ 6) : ∀ (n : Nat) {V : Mm}, GJ V → V 7 i 6 ≤ 121 → GJ (dpN i n V)
  | 0, _, h, _ => h
  | n + 1, V, h, h6 => GJ_dpN h0 h1 n (h.dp h0 h1 h6) (by rw [dpM_6]; omega)
theorem GJ.pl {V : Mm} (h : GJ V) {i t v : Int} (h0 : 0 ≤ i) (h1 : i ≤ 6) (h6 : 0 ≤ V 7 i 6 ∧ V 7 i 6 ≤ 120) (ht : 0 ≤ t ∧ t ≤ 100000) (hv : -1000 ≤ v ∧ v ≤ 1000) : GJ (plM V i t v) :=
  GJ_drps h0 h1 _ (h.en h0 h1 h6.1 ht hv) (by rw [enM_6]; omega)
theorem GJ.gv {V : Mm} (h : GJ V) (hc : CI V) {i t : Int} (h0 : 0 ≤ i) (h1 : i ≤ 3) : GJ (gvM V i t) := by
  unfold gvM
  split
  · rename_i q
    have hW : GJ (mu V 13 i 3 (wr (V 13 i 3 + 1))) := h.to fun c x y q => mu_ne (by omega)
    have h6 := hc.h7 (l := V 13 i 0) q.1.1 (by omega)
    have h6i := hc.h7 (l := i) h0 (by omega)
    refine hW.pl q.1.1 (by omega) (by rw [mu_ne (by omega)]; exact h6) (h.2.2.1 i _ h0 (by omega) (by omega) (by omega)).1 (by omega)
  · exact h
theorem GJ.nt {V : Mm} (h : GJ V) : GJ (ntM V) := h.to fun c x y q => if_neg (by omega)
theorem GJ.lk {V : Mm} (h : GJ V) (hc : CI V) {l : Int} (h0 : 0 ≤ l) (h1 : l ≤ 6) : LK V l := by
  have h6 := hc.h7 h0 h1
  refine ⟨(h.2.2.2.1 l h0 h1).2, by omega, fun j a b => (h.2.2.1 l j h0 h1 a b).2, h.2.2.2.2.2.2.2, fun w a b c => ?_, fun w a b => (h.2.2.2.2.2.2.1 w a b).2⟩
  rcases (h.2.2.2.2.2.2.1 w a b).1 with q | q
  · omega
  · rw [c] at q; exact q.2
def GM (V : Mm) : Prop := ∀ l : Int, 0 ≤ l → l ≤ 6 → V 7 l 6 ≤ V 7 l 15
def GI (V : Mm) : Prop := CI V ∧ GJ V ∧ GM V
theorem pl_10 {V : Mm} {i t v : Int} : plM V i t v 7 i 10 = max (V 7 i 10) t := by
  have hd : ∀ (n : Nat) (W : Mm), drps i n W 7 i 10 = W 7 i 10 := fun n => by
    induction n with
    | zero => intro W; rfl
    | succ n ih =>
      intro W
      show (if goV W i then drps i n (dpM W i) else W) 7 i 10 = W 7 i 10
      split
      · rw [ih, dpM_ne (by omega)]
      · rfl
  unfold plM
  rw [hd]
  unfold enM
  rw [rgM_ne (by omega)]
  split
  · rw [adM_ne (by omega), insM_10]
  · rw [lyM_ne (by omega), insM_10]
theorem GM.nt {V : Mm} (h : ∀ l : Int, 4 ≤ l → l ≤ 6 → V 7 l 6 ≤ V 7 l 15) : GM (ntM V) := fun l a b => by
  rw [show ntM V 7 l 6 = V 7 l 6 from if_neg (by omega)]
  by_cases hl : l ≤ 3
  · rw [show ntM V 7 l 15 = max (V 7 l 15) (V 7 l 6) from if_pos ⟨rfl, ⟨a, hl⟩, rfl⟩]
    omega
  · rw [show ntM V 7 l 15 = V 7 l 15 from if_neg (by omega)]
    exact h l (by omega) b
