-- B: every call keeps what holds at rest
theorem FI_zr {f : Int → Int} : FI (zrR f) 0 := by
  have e0 : zrR f 0 = 0 := rfl
  have e1 : zrR f 1 = 0 := rfl
  have e2 : zrR f 2 = 0 := rfl
  have e3 : zrR f 3 = 0 := rfl
  unfold FI
  rw [e0, e1, e2, e3]
  omega
theorem FI_c {f g : Int → Int} {h : Int} (p : FI f h) (e : ∀ y : Int, 0 ≤ y → y ≤ 3 → g y = f y) : FI g h := by
  unfold FI
  rw [e 0 (by omega) (by omega), e 1 (by omega) (by omega), e 2 (by omega) (by omega), e 3 (by omega) (by omega)]
  exact p
theorem etM_13 {V : Mm} {l i : Int} (a : 0 ≤ i) (b : i ≤ 3) : etM V l 13 i 0 = if i = l ∨ V 13 i 0 = l then -1 else V 13 i 0 := by
  have e : etA V l 8 13 i 0 = V 13 i 0 := if_neg (by omega)
  unfold etM etB
  rw [e]
  by_cases q : i = l ∨ V 13 i 0 = l
  · rw [if_pos q, if_pos ⟨rfl, ⟨a, by omega⟩, rfl, q⟩]
  · rw [if_neg q, if_neg (fun z => q z.2.2.2)]
theorem etM_12 {V : Mm} {l w : Int} (a : 0 ≤ w) (b : w ≤ 7) : etM V l 12 w 0 = if V 12 w 0 = l then -1 else V 12 w 0 := by
  have e : etB (etA V l 8) l 4 12 w 0 = etA V l 8 12 w 0 := if_neg (by omega)
  show etB (etA V l 8) l 4 12 w 0 = _
  rw [e]
  unfold etA
  by_cases q : V 12 w 0 = l
  · rw [if_pos q, if_pos ⟨rfl, ⟨a, by omega⟩, rfl, q⟩]
  · rw [if_neg q, if_neg (fun z => q z.2.2.2)]
/-- what GJ says of LANES, BOXES and the TABLE, without the ties -/
def GK (V : Mm) : Prop :=
  (∀ l : Int, 0 ≤ l → l ≤ 6 → So (V 8 l) (V 7 l 6)) ∧
  (∀ l : Int, 0 ≤ l → l ≤ 6 → (-1 ≤ V 7 l 10 ∧ V 7 l 10 ≤ 100000) ∧ (0 ≤ V 7 l 5 ∧ V 7 l 5 ≤ 10000) ∧ 0 ≤ V 7 l 4 ∧ V 7 l 4 ≤ 10000) ∧
  (∀ l y : Int, 0 ≤ l → l ≤ 6 → 0 ≤ y → y ≤ 120 → (0 ≤ V 8 l y ∧ V 8 l y ≤ 100000) ∧ -1000 ≤ V 9 l y ∧ V 9 l y ≤ 1000) ∧
  (∀ l : Int, 0 ≤ l → l ≤ 6 → (V 7 l 1 = 0 ∨ V 7 l 1 = 1) ∧ 0 ≤ V 7 l 2 ∧ V 7 l 2 ≤ 9) ∧
  (∀ b : Int, 4 ≤ b → b ≤ 6 → V 7 b 1 = 1 → 0 ≤ V 7 b 0 ∧ V 7 b 0 ≤ 3) ∧
  (∀ j : Int, 0 ≤ j → j < 16 → 0 ≤ V 15 0 j ∧ V 15 0 j ≤ 3)
theorem GJ.gk {V : Mm} (h : GJ V) : GK V := ⟨h.1, h.2.1, h.2.2.1, h.2.2.2.1, h.2.2.2.2.1, h.2.2.2.2.2.2.2⟩
theorem GK.et {V W : Mm} {l : Int} (p : GK W) (h : GJ V) (h0 : 0 ≤ l) (e7 : ∀ x y : Int, x ≠ l → y = 1 ∨ y = 2 → x ≤ 3 → W 7 x y = V 7 x y) (e12 : ∀ x y : Int, W 12 x y = V 12 x y) (e13 : ∀ x y : Int, W 13 x y = V 13 x y) : GJ (etM W l) := by
  obtain ⟨p1, p2, p3, p4, p5, p8⟩ := p
  refine ⟨fun i a b => ?_, fun i a b => ?_, fun i y a b c d => ?_, fun i a b => ?_, fun b a c d => ?_, fun i a b => ?_, fun w a b => ?_, fun j a b => ?_⟩
  · rw [etM_ne (by omega), show etM W l 8 i = W 8 i from funext fun y => etM_ne (by omega)]; exact p1 i a b
  · rw [etM_ne (by omega), etM_ne (by omega), etM_ne (by omega)]; exact p2 i a b
  · rw [etM_ne (by omega), etM_ne (by omega)]; exact p3 i y a b c d
  · rw [etM_ne (by omega), etM_ne (by omega)]; exact p4 i a b
  · rw [etM_ne (by omega)] at d
    rw [etM_ne (by omega)]; exact p5 b a c d
  · rw [etM_13 a b, e13 i 0]
    by_cases q : i = l ∨ V 13 i 0 = l
    · left; exact if_pos q
    · rw [if_neg q]
      rcases h.2.2.2.2.2.1 i a b with z | ⟨z1, z2, z3, z4, z5⟩
      · exact Or.inl z
      · have hj : V 13 i 0 ≠ l := fun z => q (Or.inr z)
        have hi : i ≠ l := fun z => q (Or.inl z)
        refine Or.inr ⟨⟨z1.1, ?_⟩, ⟨z2.1, ?_⟩, z3, ?_, ?_⟩
        · rw [etM_ne (by omega), e7 i 1 hi (Or.inl rfl) b]; exact z1.2
        · rw [etM_ne (by omega), e7 _ 1 hj (Or.inl rfl) z2.1.2]; exact z2.2
        · rw [etM_13 z2.1.1 z2.1.2, e13, z4, if_neg (by omega)]
        · rw [etM_ne (by omega), etM_ne (by omega), e7 i 2 hi (Or.inr rfl) b, e13 i 2]; exact z5
  · refine ⟨?_, ?_⟩
    · rw [etM_12 a b, e12 w 0]
      by_cases q : V 12 w 0 = l
      · left; exact if_pos q
      · rw [if_neg q]
        rcases (h.2.2.2.2.2.2.1 w a b).1 with z | ⟨z1, z2⟩
        · exact Or.inl z
        · refine Or.inr ⟨⟨z1.1, ?_⟩, ?_⟩
          · rw [etM_ne (by omega), e7 _ 1 q (Or.inl rfl) z1.1.2]; exact z1.2
          · rw [etM_ne (by omega), etM_ne (by omega), e12 w 1, e7 _ 2 q (Or.inr rfl) z1.1.2]; exact z2
    · rw [etM_ne (by omega), e12 w 3]; exact (h.2.2.2.2.2.2.1 w a b).2
  · rw [etM_ne (by omega)]; exact p8 j a b
theorem CI.et {V : Mm} {l : Int} (h : CI V) (h0 : 0 ≤ l) : CI (etM V l) := by
  refine ⟨fun i a b => ?_, fun i a b => ?_, fun i a b => ?_, fun i a b => ?_⟩
  · rw [etM_ne (by omega)]; exact h.1 i a b
  · rw [etM_ne (by omega), show etM V l 11 i = V 11 i from funext fun y => etM_ne (by omega)]; exact h.2.1 i a b
  · rw [etM_ne (by omega), etM_ne (by omega), etM_ne (by omega)]; exact h.2.2.1 i a b
  · rw [etM_13 a b]
    split
    · omega
    · exact h.2.2.2 i a b
theorem GM.et {V : Mm} {l : Int} (h : GM V) : GM (etM V l) := fun i a b => by
  rw [etM_ne (by omega), etM_ne (by omega)]; exact h i a b
theorem GI.sh {V : Mm} (h : GI V) (l : Int) : GI (shM V l) := by
  unfold shM
  split
  · rename_i q
    obtain ⟨⟨ql0, ql3⟩, q1⟩ := q
    obtain ⟨hc, hj, hm⟩ := h
    obtain ⟨p1, p2, p3, p4, p5, p8⟩ := hj.gk
    refine ⟨CI.et (hc.to fun c x y z => mu_ne (by omega)) ql0, GK.et (V := V) ⟨fun i a b => ?_, fun i a b => ?_, fun i y a b c d => ?_, fun i a b => ?_, fun b a c d => ?_, fun j a b => ?_⟩ hj ql0 (fun x y z _ _ => mu_ne (by omega)) (fun x y => mu_ne (by omega)) (fun x y => mu_ne (by omega)), GM.et (fun i a b => ?_)⟩
    · rw [mu_ne (by omega), show mu V 7 l 1 0 8 i = V 8 i from funext fun y => mu_ne (by omega)]; exact p1 i a b
    · rw [mu_ne (by omega), mu_ne (by omega), mu_ne (by omega)]; exact p2 i a b
    · rw [mu_ne (by omega), mu_ne (by omega)]; exact p3 i y a b c d
    · refine ⟨?_, ?_⟩
      · by_cases z : i = l
        · subst z; exact Or.inl (mu_self _ _ _ _ _)
        · rw [mu_ne (by omega)]; exact (p4 i a b).1
      · rw [mu_ne (by omega)]; exact (p4 i a b).2
    · rw [mu_ne (by omega)] at d
      rw [mu_ne (by omega)]; exact p5 b a c d
    · rw [mu_ne (by omega)]; exact p8 j a b
    · rw [mu_ne (by omega), mu_ne (by omega)]; exact hm i a b
  · exact h
theorem GI.on {V : Mm} (h : GI V) (l o b z y : Int) : GI (onM V l o b z y) := by
  unfold onM
  split
  · rename_i q
    obtain ⟨q1, q2, q3, q4, q5⟩ := q
    obtain ⟨zz, hzz⟩ : ∃ zz : Int, zz = (if b = 0 then 0 else z) := ⟨_, rfl⟩
    rw [← hzz]
    have hz : (b = 0 ∧ zz = 0) ∨ (b = 1 ∧ 1 ≤ zz ∧ zz ≤ 120) ∨ (b = 2 ∧ 1 ≤ zz ∧ zz ≤ 10000) := by
      rw [hzz]
      split <;> omega
    obtain ⟨hc, hj, hm⟩ := h
    obtain ⟨p1, p2, p3, p4, p5, p8⟩ := hj.gk
    have b7 : ∀ t : Int, bgM V l o b zz y 7 l t = bgR o b zz y (V 7 l) t := fun t => by
      unfold bgM
      rw [if_pos rfl, if_pos rfl]
    have bn : ∀ (c : Nat) (x t : Int), x ≠ l → bgM V l o b zz y c x t = V c x t := fun c x t e => if_neg e
    have bo : ∀ (c : Nat) (x t : Int), c ≠ 7 → c ≠ 11 → bgM V l o b zz y c x t = V c x t := fun c x t e7 e11 => by
      unfold bgM
      by_cases hx : x = l
      · rw [if_pos hx, if_neg e7, if_neg e11]
      · rw [if_neg hx]
    have v0 : bgM V l o b zz y 7 l 0 = V 7 l 0 := (b7 0).trans (by simp [bgR])
    have v1 : bgM V l o b zz y 7 l 1 = 1 := (b7 1).trans (by simp [bgR])
    have v2 : bgM V l o b zz y 7 l 2 = o := (b7 2).trans (by simp [bgR])
    have v3 : bgM V l o b zz y 7 l 3 = b := (b7 3).trans (by simp [bgR])
    have v4 : bgM V l o b zz y 7 l 4 = zz := (b7 4).trans (by simp [bgR])
    have v5 : bgM V l o b zz y 7 l 5 = y := (b7 5).trans (by simp [bgR])
    have v6 : bgM V l o b zz y 7 l 6 = 0 := (b7 6).trans (by simp [bgR])
    have v10 : bgM V l o b zz y 7 l 10 = -1 := (b7 10).trans (by simp [bgR])
    have v15 : bgM V l o b zz y 7 l 15 = 0 := (b7 15).trans (by simp [bgR])
    have e11 : bgM V l o b zz y 11 l = zrR (V 11 l) := funext fun t => by
      unfold bgM
      rw [if_pos rfl, if_neg (by decide), if_pos rfl]
    refine ⟨CI.et ⟨fun i a c => ?_, fun i a c => ?_, fun i a c => ?_, fun i a c => ?_⟩ q1.1, GK.et (V := V) ⟨fun i a c => ?_, fun i a c => ?_, fun i t a c d e => ?_, fun i a c => ?_, fun i a c d => ?_, fun j a c => ?_⟩ hj q1.1 (fun x t e _ _ => bn 7 x t e) (fun x t => bo 12 x t (by decide) (by decide)) (fun x t => bo 13 x t (by decide) (by decide)), GM.et (fun i a c => ?_)⟩
    · by_cases e : i = l
      · subst e; rw [v0]; exact hc.1 i a c
      · rw [bn _ _ _ e]; exact hc.1 i a c
    · by_cases e : i = l
      · subst e; rw [v6, e11]; exact FI_zr
      · rw [bn _ _ _ e, show bgM V l o b zz y 11 i = V 11 i from funext fun t => bn 11 i t e]; exact hc.2.1 i a c
    · by_cases e : i = l
      · subst e; rw [v3, v4, v6]; unfold Rst; omega
      · rw [bn _ _ _ e, bn _ _ _ e, bn _ _ _ e]; exact hc.2.2.1 i a c
    · rw [bo _ _ _ (by decide) (by decide)]; exact hc.2.2.2 i a c
    · by_cases e : i = l
      · subst e; rw [v6]; exact fun j j0 j1 => by omega
      · rw [bn _ _ _ e, show bgM V l o b zz y 8 i = V 8 i from funext fun t => bn 8 i t e]; exact p1 i a c
    · by_cases e : i = l
      · subst e; rw [v10, v5, v4]; omega
      · rw [bn _ _ _ e, bn _ _ _ e, bn _ _ _ e]; exact p2 i a c
    · rw [bo _ _ _ (by decide) (by decide), bo _ _ _ (by decide) (by decide)]; exact p3 i t a c d e
    · by_cases e : i = l
      · subst e; rw [v1, v2]; omega
      · rw [bn _ _ _ e, bn _ _ _ e]; exact p4 i a c
    · rw [bn _ _ _ (by omega)] at d
      rw [bn _ _ _ (by omega)]; exact p5 i a c d
    · rw [bo _ _ _ (by decide) (by decide)]; exact p8 j a c
    · by_cases e : i = l
      · subst e; rw [v6, v15]; omega
      · rw [bn _ _ _ e, bn _ _ _ e]; exact hm i a c
  · exact h
-- copies
theorem cp_7 {V : Mm} {a b y : Int} (h : cpS y) : cpM V a b 7 b y = V 7 a y := by
  unfold cpM
  rw [if_pos rfl, if_pos rfl, if_pos h]
theorem cp_in {V : Mm} {a b y : Int} {c : Nat} (hc : c = 8 ∨ c = 9 ∨ c = 10) (h : 0 ≤ y ∧ y < V 7 a 6) : cpM V a b c b y = V c a y := by
  unfold cpM
  rw [if_pos rfl, if_neg (by omega), if_pos hc, if_pos h]
theorem cp_off {V : Mm} {a b y : Int} {c : Nat} (hc : c = 8 ∨ c = 9 ∨ c = 10) (h : ¬ (0 ≤ y ∧ y < V 7 a 6)) : cpM V a b c b y = V c b y := by
  unfold cpM
  rw [if_pos rfl, if_neg (by omega), if_pos hc, if_neg h]
theorem cp_11 {V : Mm} {a b y : Int} (h : 0 ≤ y ∧ y ≤ 6) : cpM V a b 11 b y = V 11 a y := by
  unfold cpM
  rw [if_pos rfl, if_neg (by decide), if_neg (by decide), if_pos rfl, if_pos h]
theorem cp_ot {V : Mm} {a b x y : Int} {c : Nat} (h : 12 ≤ c) : cpM V a b c x y = V c x y := by
  unfold cpM
  split
  · rw [if_neg (by omega), if_neg (by omega), if_neg (by omega)]
  · rfl
theorem CI.cp {V : Mm} (h : CI V) {a b : Int} (a0 : 0 ≤ a) (a6 : a ≤ 6) (hb : b ≤ 3 → V 7 a 0 = b) : CI (cpM V a b) := by
  refine ⟨fun i c d => ?_, fun i c d => ?_, fun i c d => ?_, fun i c d => ?_⟩
  · by_cases e : i = b
    · subst e; rw [cp_7 (by unfold cpS; omega)]; exact hb d
    · rw [cpM_ne e]; exact h.1 i c d
  · by_cases e : i = b
    · subst e; rw [cp_7 (by unfold cpS; omega)]; exact FI_c (h.2.1 a a0 a6) (fun y y0 y1 => cp_11 ⟨y0, by omega⟩)
    · rw [cpM_ne e, show cpM V a b 11 i = V 11 i from funext fun y => cpM_ne e]; exact h.2.1 i c d
  · by_cases e : i = b
    · subst e; rw [cp_7 (by unfold cpS; omega), cp_7 (by unfold cpS; omega), cp_7 (by unfold cpS; omega)]; exact h.2.2.1 a a0 a6
    · rw [cpM_ne e, cpM_ne e, cpM_ne e]; exact h.2.2.1 i c d
  · rw [cp_ot (by decide)]; exact h.2.2.2 i c d
theorem GK.cp {V : Mm} (h : GK V) {a b : Int} (a0 : 0 ≤ a) (a6 : a ≤ 6) (hb : 4 ≤ b → 0 ≤ V 7 a 0 ∧ V 7 a 0 ≤ 3) : GK (cpM V a b) := by
  obtain ⟨p1, p2, p3, p4, p5, p8⟩ := h
  refine ⟨fun i c d => ?_, fun i c d => ?_, fun i y c d e f => ?_, fun i c d => ?_, fun i c d e => ?_, fun j c d => ?_⟩
  · by_cases e : i = b
    · subst e
      rw [cp_7 (by unfold cpS; omega)]
      intro j j0 j1
      rw [cp_in (Or.inl rfl) ⟨j0, by omega⟩, cp_in (Or.inl rfl) ⟨by omega, j1⟩]
      exact p1 a a0 a6 j j0 j1
    · rw [cpM_ne e, show cpM V a b 8 i = V 8 i from funext fun y => cpM_ne e]; exact p1 i c d
  · by_cases e : i = b
    · subst e; rw [cp_7 (by unfold cpS; omega), cp_7 (by unfold cpS; omega), cp_7 (by unfold cpS; omega)]; exact p2 a a0 a6
    · rw [cpM_ne e, cpM_ne e, cpM_ne e]; exact p2 i c d
  · by_cases g : i = b
    · subst g
      by_cases k : 0 ≤ y ∧ y < V 7 a 6
      · rw [cp_in (Or.inl rfl) k, cp_in (Or.inr (Or.inl rfl)) k]; exact p3 a y a0 a6 e f
      · rw [cp_off (Or.inl rfl) k, cp_off (Or.inr (Or.inl rfl)) k]; exact p3 i y c d e f
    · rw [cpM_ne g, cpM_ne g]; exact p3 i y c d e f
  · by_cases e : i = b
    · subst e; rw [cp_7 (by unfold cpS; omega), cp_7 (by unfold cpS; omega)]; exact p4 a a0 a6
    · rw [cpM_ne e, cpM_ne e]; exact p4 i c d
  · by_cases g : i = b
    · subst g; rw [cp_7 (by unfold cpS; omega)]; exact hb c
    · rw [cpM_ne g] at e
      rw [cpM_ne g]; exact p5 i c d e
  · rw [cp_ot (by decide)]; exact p8 j c d
theorem GM.cp {V : Mm} (h : GM V) {a b : Int} (a0 : 0 ≤ a) (a6 : a ≤ 6) : GM (cpM V a b) := fun i c d => by
  by_cases e : i = b
  · subst e; rw [cp_7 (by unfold cpS; omega), cp_7 (by unfold cpS; omega)]; exact h a a0 a6
  · rw [cpM_ne e, cpM_ne e]; exact h i c d
theorem GI.kp {V : Mm} (h : GI V) (l x : Int) : GI (kpM V l x) := by
  unfold kpM
  split
  · rename_i q
    obtain ⟨⟨⟨ql0, ql3⟩, q1⟩, q2, q3⟩ := q
    obtain ⟨hc, hj, hm⟩ := h
    have hk := GK.cp (b := x + 4) hj.gk ql0 (by omega) (fun _ => by rw [hc.1 l ql0 ql3]; omega)
    have e7 : ∀ m y : Int, m ≤ 3 → cpM V l (x + 4) 7 m y = V 7 m y := fun m y hm3 => cpM_ne (by omega)
    refine ⟨hc.cp ql0 (by omega) (fun _ => by omega), ⟨hk.1, hk.2.1, hk.2.2.1, hk.2.2.2.1, hk.2.2.2.2.1, fun i a b => ?_, fun w a b => ?_, hk.2.2.2.2.2⟩, hm.cp ql0 (by omega)⟩
    · rw [cp_ot (by decide), cp_ot (by decide), cp_ot (by decide)]
      rcases hj.2.2.2.2.2.1 i a b with z | ⟨z1, z2, z3, z4, z5⟩
      · exact Or.inl z
      · refine Or.inr ⟨⟨z1.1, ?_⟩, ⟨z2.1, ?_⟩, z3, z4, ?_⟩
        · rw [e7 i 1 b]; exact z1.2
        · rw [e7 _ 1 z2.1.2]; exact z2.2
        · rw [e7 i 2 b]; exact z5
    · have c12 : ∀ y : Int, cpM V l (x + 4) 12 w y = V 12 w y := fun y => cp_ot (by decide)
      rw [c12 0, c12 1, c12 3]
      refine ⟨?_, (hj.2.2.2.2.2.2.1 w a b).2⟩
      rcases (hj.2.2.2.2.2.2.1 w a b).1 with z | ⟨z1, z2⟩
      · exact Or.inl z
      · refine Or.inr ⟨⟨z1.1, ?_⟩, ?_⟩
        · rw [e7 _ 1 z1.1.2]; exact z1.2
        · rw [e7 _ 2 z1.1.2]; exact z2
  · exact h
theorem GI.bk {V : Mm} (h : GI V) (x : Int) : GI (bkM V x) := by
  unfold bkM
  split
  · rename_i q
    obtain ⟨⟨q1, q2⟩, q3⟩ := q
    obtain ⟨hc, hj, hm⟩ := h
    have hr := hj.2.2.2.2.1 (x + 4) (by omega) (by omega) q3
    refine ⟨CI.et (hc.cp (by omega) (by omega) (fun _ => rfl)) hr.1, GK.et (V := V) (hj.gk.cp (by omega) (by omega) (fun z => by omega)) hj hr.1 (fun m y e _ _ => cpM_ne e) (fun m y => cp_ot (by decide)) (fun m y => cp_ot (by decide)), GM.et (hm.cp (by omega) (by omega))⟩
  · exact h
-- ties
theorem GJ.w12 {V W : Mm} (h : GJ V) (e : ∀ (c : Nat) (x y : Int), c ≠ 12 → W c x y = V c x y) (p7 : ∀ w : Int, 0 ≤ w → w ≤ 7 → (W 12 w 0 = -1 ∨ (opV V (W 12 w 0) ∧ 0 ≤ W 12 w 1 ∧ W 12 w 1 < numF (V 7 (W 12 w 0) 2))) ∧ (W 12 w 3 = 0 ∨ W 12 w 3 = 1)) : GJ W := by
  have e7 : W 7 = V 7 := funext fun x => funext fun y => e 7 x y (by decide)
  have e8 : W 8 = V 8 := funext fun x => funext fun y => e 8 x y (by decide)
  have e9 : W 9 = V 9 := funext fun x => funext fun y => e 9 x y (by decide)
  have e13 : W 13 = V 13 := funext fun x => funext fun y => e 13 x y (by decide)
  have e15 : W 15 = V 15 := funext fun x => funext fun y => e 15 x y (by decide)
  obtain ⟨q1, q2, q3, q4, q5, q6, q7, q8⟩ := h
  unfold GJ opV
  rw [e7, e8, e9, e13, e15]
  exact ⟨q1, q2, q3, q4, q5, q6, p7, q8⟩
theorem GJ.w13 {V W : Mm} (h : GJ V) (e : ∀ (c : Nat) (x y : Int), c ≠ 13 → W c x y = V c x y) (p6 : ∀ i : Int, 0 ≤ i → i ≤ 3 → W 13 i 0 = -1 ∨ (opV V i ∧ opV V (W 13 i 0) ∧ W 13 i 0 ≠ i ∧ W 13 (W 13 i 0) 0 = -1 ∧ 0 ≤ W 13 i 2 ∧ W 13 i 2 < numF (V 7 i 2))) : GJ W := by
  have e7 : W 7 = V 7 := funext fun x => funext fun y => e 7 x y (by decide)
  have e8 : W 8 = V 8 := funext fun x => funext fun y => e 8 x y (by decide)
  have e9 : W 9 = V 9 := funext fun x => funext fun y => e 9 x y (by decide)
  have e12 : W 12 = V 12 := funext fun x => funext fun y => e 12 x y (by decide)
  have e15 : W 15 = V 15 := funext fun x => funext fun y => e 15 x y (by decide)
  obtain ⟨q1, q2, q3, q4, q5, q6, q7, q8⟩ := h
  unfold GJ opV
  rw [e7, e8, e9, e12, e15]
  exact ⟨q1, q2, q3, q4, q5, p6, q7, q8⟩
theorem GI.wt {V : Mm} (h : GI V) (v l w b : Int) : GI (wtM V v l w b) := by
  unfold wtM
  split
  · rename_i q
    obtain ⟨⟨q1, q2⟩, q3⟩ := q
    obtain ⟨hc, hj, hm⟩ := h
    have e : ∀ (c : Nat) (x y : Int), ¬ (c = 12 ∧ x = v) → (mu (mu (mu (mu (mu (mu V 12 v 0 l) 12 v 1 w) 12 v 2 b) 12 v 3 (rc1 V l w b)) 12 v 4 0) 12 v 5 (-1)) c x y = V c x y := fun c x y z => by
      rw [mu_ne (by omega), mu_ne (by omega), mu_ne (by omega), mu_ne (by omega), mu_ne (by omega), mu_ne (by omega)]
    refine ⟨hc.to (fun c x y z => e c x y (by omega)), hj.w12 (fun c x y z => e c x y (by omega)) (fun j a c => ?_), fun i a c => ?_⟩
    · by_cases g : j = v
      · subst g
        rw [mu_ne (by omega), mu_ne (by omega), mu_ne (by omega), mu_ne (by omega), mu_ne (by omega), mu_self, mu_ne (by omega), mu_ne (by omega), mu_ne (by omega), mu_ne (by omega), mu_self, mu_ne (by omega), mu_ne (by omega), mu_self]
        exact ⟨Or.inr ⟨q1, q2⟩, rc1_01 V l w b⟩
      · rw [e _ _ _ (by omega), e _ _ _ (by omega), e _ _ _ (by omega)]; exact hj.2.2.2.2.2.2.1 j a c
    · rw [e _ _ _ (by omega), e _ _ _ (by omega)]; exact hm i a c
  · exact h
theorem GI.lk {V : Mm} (h : GI V) {l o z w : Int} (q : lkC V l o z w) : GI (lkM V l o z w) := by
  obtain ⟨⟨q1, q2⟩, q3, q4, q5, q6, q7⟩ := q
  obtain ⟨hc, hj, hm⟩ := h
  have e : ∀ (c : Nat) (x y : Int), ¬ (c = 13 ∧ x = l) → lkM V l o z w c x y = V c x y := fun c x y g => by
    unfold lkM
    rw [mu_ne (by omega), mu_ne (by omega), mu_ne (by omega), mu_ne (by omega)]
  have e0 : lkM V l o z w 13 l 0 = o := by
    unfold lkM
    rw [mu_ne (by omega), mu_ne (by omega), mu_ne (by omega), mu_self]
  have e2 : lkM V l o z w 13 l 2 = w := by
    unfold lkM
    rw [mu_ne (by omega), mu_self]
  refine ⟨⟨fun i a b => ?_, fun i a b => ?_, fun i a b => ?_, fun i a b => ?_⟩, hj.w13 (fun c x y g => e c x y (by omega)) (fun i a b => ?_), fun i a b => ?_⟩
  · rw [e _ _ _ (by omega)]; exact hc.1 i a b
  · rw [e _ _ _ (by omega), show lkM V l o z w 11 i = V 11 i from funext fun y => e _ _ _ (by omega)]; exact hc.2.1 i a b
  · rw [e _ _ _ (by omega), e _ _ _ (by omega), e _ _ _ (by omega)]; exact hc.2.2.1 i a b
  · by_cases g : i = l
    · subst g; rw [e0]; omega
    · rw [e _ _ _ (by omega)]; exact hc.2.2.2 i a b
  · by_cases g : i = l
    · subst g
      rw [e0, e2, e 13 o 0 (by omega)]
      exact Or.inr ⟨q1, q3, by omega, q6, q2⟩
    · rw [e 13 i 0 (by omega), e 13 i 2 (by omega)]
      rcases hj.2.2.2.2.2.1 i a b with y | ⟨z1, z2, z3, z4, z5⟩
      · exact Or.inl y
      · refine Or.inr ⟨z1, z2, z3, ?_, z5⟩
        have := q7 i a (by omega)
        rw [e 13 _ 0 (by omega)]; exact z4
  · rw [e _ _ _ (by omega), e _ _ _ (by omega)]; exact hm i a b
theorem GI.ul {V : Mm} (h : GI V) (l : Int) : GI (ulM V l) := by
  unfold ulM
  split
  · rename_i q
    obtain ⟨⟨ql0, ql3⟩, q1⟩ := q
    obtain ⟨hc, hj, hm⟩ := h
    refine ⟨⟨fun i a b => ?_, fun i a b => ?_, fun i a b => ?_, fun i a b => ?_⟩, hj.w13 (fun c x y g => mu_ne (by omega)) (fun i a b => ?_), fun i a b => ?_⟩
    · rw [mu_ne (by omega)]; exact hc.1 i a b
    · rw [mu_ne (by omega), show mu V 13 l 0 (-1) 11 i = V 11 i from funext fun y => mu_ne (by omega)]; exact hc.2.1 i a b
    · rw [mu_ne (by omega), mu_ne (by omega), mu_ne (by omega)]; exact hc.2.2.1 i a b
    · by_cases g : i = l
      · subst g; rw [mu_self]; omega
      · rw [mu_ne (by omega)]; exact hc.2.2.2 i a b
    · by_cases g : i = l
      · subst g; exact Or.inl (mu_self _ _ _ _ _)
      · rw [show mu V 13 l 0 (-1) 13 i 0 = V 13 i 0 from mu_ne (by omega), show mu V 13 l 0 (-1) 13 i 2 = V 13 i 2 from mu_ne (by omega)]
        rcases hj.2.2.2.2.2.1 i a b with y | ⟨z1, z2, z3, z4, z5⟩
        · exact Or.inl y
        · refine Or.inr ⟨z1, z2, z3, ?_, z5⟩
          by_cases k : V 13 i 0 = l
          · rw [k]; exact mu_self _ _ _ _ _
          · rw [mu_ne (by omega)]; exact z4
    · rw [mu_ne (by omega), mu_ne (by omega)]; exact hm i a b
  · exact h
theorem GI.tb {V : Mm} (h : GI V) {x y : Int} (hy : 0 ≤ y ∧ y ≤ 3) : GI (mu V 15 0 x y) := by
  obtain ⟨hc, hj, hm⟩ := h
  refine ⟨hc.to (fun c a b z => mu_ne (by omega)), ?_, fun i a b => ?_⟩
  · have e7 : mu V 15 0 x y 7 = V 7 := funext fun a => funext fun b => mu_ne (by omega)
    have e8 : mu V 15 0 x y 8 = V 8 := funext fun a => funext fun b => mu_ne (by omega)
    have e9 : mu V 15 0 x y 9 = V 9 := funext fun a => funext fun b => mu_ne (by omega)
    have e12 : mu V 15 0 x y 12 = V 12 := funext fun a => funext fun b => mu_ne (by omega)
    have e13 : mu V 15 0 x y 13 = V 13 := funext fun a => funext fun b => mu_ne (by omega)
    obtain ⟨q1, q2, q3, q4, q5, q6, q7, q8⟩ := hj
    unfold GJ opV
    rw [e7, e8, e9, e12, e13]
    refine ⟨q1, q2, q3, q4, q5, q6, q7, fun j a b => ?_⟩
    by_cases g : j = x
    · subst g; rw [mu_self]; exact hy
    · rw [mu_ne (by omega)]; exact q8 j a b
  · rw [mu_ne (by omega), mu_ne (by omega)]; exact hm i a b
theorem GI.lt {V : Mm} (h : GI V) {x y : Int} : GI (mu V 16 0 x y) := by
  obtain ⟨hc, hj, hm⟩ := h
  refine ⟨hc.to (fun c a b z => mu_ne (by omega)), hj.to (fun c a b z => mu_ne (by omega)), fun i a b => ?_⟩
  rw [mu_ne (by omega), mu_ne (by omega)]; exact hm i a b
-- what is let go
theorem GI_dpN {i : Int} (h0 : 0 ≤ i) (h1 : i ≤ 3) : ∀ (n : Nat) {V : Mm}, GI V → (n : Int) ≤ V 7 i 6 → GI (dpN i n V)
  | 0, _, h, _ => h
  | n + 1, V, h, hn => by
    have h6 := h.1.h7 h0 (show i ≤ 6 by omega)
    show GI (dpN i n (dpM V i))
    refine GI_dpN h0 h1 n ⟨h.1.dp h0 h1 (by omega), h.2.1.dp h0 (by omega) (by omega), fun l a b => ?_⟩ (by rw [dpM_6]; omega)
    by_cases hl : l = i
    · subst hl
      rw [dpM_6, dpM_ne (by omega)]
      have := h.2.2 l a b
      omega
    · rw [dpM_ne (by omega), dpM_ne (by omega)]; exact h.2.2 l a b
theorem GI.le {V : Mm} (h : GI V) (l m : Int) : GI (leM V l m) := by
  unfold leM
  split
  · rename_i q
    exact GI_dpN q.1.1.1 q.1.1.2 _ h (by have := q.2; omega)
  · exact h
theorem GI.un {V : Mm} (h : GI V) (l t : Int) : GI (unM V l t) := by
  unfold unM
  split
  · rename_i q
    have h6 := h.1.h7 (l := l) q.1.1 (by omega)
    have hb := hU_b (V := V) (i := l) (t := t) h6.1
    exact GI_dpN q.1.1 q.1.2 _ h (by omega)
  · exact h
theorem GI.ta {V : Mm} (h : GI V) (l x : Int) : GI (taM V l x) := by
  unfold taM
  split
  · rename_i q
    obtain ⟨⟨⟨ql0, ql3⟩, q1⟩, q2, q3⟩ := q
    obtain ⟨hc, hj, hm⟩ := h
    have h6 := hc.h7 ql0 (show l ≤ 6 by omega)
    refine ⟨CI.rg ⟨fun i a b => ?_, fun i a b => ?_, fun i a b => ?_, fun i a b => ?_⟩, GJ.rg (GJ.su (hj.rem ql0 (by omega) (by omega) q2)), fun i a b => ?_⟩
    · rw [lyM_ne (by omega), remM_ne (by omega)]; exact hc.1 i a b
    · rw [lyM_ne (by omega)]
      by_cases hl : i = l
      · subst hl
        rw [remM_6, show lyM (remM V i x) i (V 7 i 6 - 1) 11 i = lyR (V 7 i 6 - 1) (remM V i x 11 i) from funext fun y => su_at]
        exact FI_ly (by omega)
      · rw [remM_ne (by omega), show lyM (remM V l x) l (V 7 l 6 - 1) 11 i = V 11 i from funext fun y => (lyM_ne (by omega)).trans (remM_ne (by omega))]; exact hc.2.1 i a b
    · rw [lyM_ne (by omega), lyM_ne (by omega), lyM_ne (by omega)]
      by_cases hl : i = l
      · subst hl
        rw [remM_6, remM_ne (by omega), remM_ne (by omega)]
        have := hc.2.2.1 i a b
        unfold Rst at this ⊢
        omega
      · rw [remM_ne (by omega), remM_ne (by omega), remM_ne (by omega)]; exact hc.2.2.1 i a b
    · rw [lyM_ne (by omega), remM_ne (by omega)]; exact hc.2.2.2 i a b
    · rw [rgM_ne (by omega), rgM_ne (by omega), lyM_ne (by omega), lyM_ne (by omega)]
      by_cases hl : i = l
      · subst hl
        rw [remM_6, remM_ne (by omega)]
        have := hm i a b
        omega
      · rw [remM_ne (by omega), remM_ne (by omega)]; exact hm i a b
  · exact h
theorem GI.al {V : Mm} (h : GI V) (l x v : Int) : GI (alM V l x v) := by
  unfold alM
  split
  · rename_i q
    obtain ⟨⟨⟨⟨ql0, ql3⟩, q1⟩, q2, q3⟩, q4⟩ := q
    obtain ⟨hc, hj, hm⟩ := h
    have hl := CI.lay (V := mu V 9 l x v) (i := l) (hc.to fun c a b z => mu_ne (by omega)) ql0 ql3
    rw [show mu V 9 l x v 7 l 6 = V 7 l 6 from mu_ne (by omega)] at hl
    refine ⟨hl.rg, GJ.rg (GJ.su (hj.lane l (fun c a b z => mu_ne (by omega)) (fun c a b z1 z2 => mu_ne (by omega)) (fun a b => ?_) (fun a b => ?_) (fun y a b c d => ?_))), fun i a b => ?_⟩
    · rw [mu_ne (by omega), show mu V 9 l x v 8 l = V 8 l from funext fun y => mu_ne (by omega)]; exact hj.1 l a b
    · rw [mu_ne (by omega)]; exact (hj.2.1 l a b).1
    · rw [show mu V 9 l x v 8 l y = V 8 l y from mu_ne (by omega)]
      refine ⟨(hj.2.2.1 l y a b c d).1, ?_⟩
      by_cases g : y = x
      · subst g; rw [mu_self]; exact q4
      · rw [mu_ne (by omega)]; exact (hj.2.2.1 l y a b c d).2
    · rw [rgM_ne (by omega), rgM_ne (by omega), lyM_ne (by omega), lyM_ne (by omega), mu_ne (by omega), mu_ne (by omega)]; exact hm i a b
  · exact h
-- what comes
theorem GI.k13 {V : Mm} (h : GI V) {l : Int} (h0 : 0 ≤ l) (h1 : l ≤ 3) : V 13 l 0 ≤ 3 := by
  rcases h.2.1.2.2.2.2.2.1 l h0 h1 with q | q
  · omega
  · exact q.2.1.1.2
theorem GJ.k13 {V : Mm} (h : GJ V) {l : Int} (h0 : 0 ≤ l) (h1 : l ≤ 3) : V 13 l 0 ≤ 3 := by
  rcases h.2.2.2.2.2.1 l h0 h1 with q | q
  · omega
  · exact q.2.1.1.2
/-- one that comes, with its gift -/
theorem GI_cm {V : Mm} {l t v : Int} (hc : CI V) (hj : GJ V) (h0 : 0 ≤ l) (h1 : l ≤ 3) (hf : ¬ fuV V l) (ht : 0 ≤ t ∧ t ≤ 100000) (hv : -1000 ≤ v ∧ v ≤ 1000) : CI (plM (gvM V l t) l t v) ∧ GJ (plM (gvM V l t) l t v) ∧ ∀ m y : Int, 4 ≤ m → plM (gvM V l t) l t v 7 m y = V 7 m y := by
  have hk := hj.k13 h0 h1
  have hg := hc.gv (i := l) (t := t)
  have e3 : gvM V l t 7 l 3 = V 7 l 3 := gv_7 hc h0 h1
  have e6 : gvM V l t 7 l 6 = V 7 l 6 := gv_7 hc h0 h1
  have hf2 : ¬ fuV (gvM V l t) l := by
    unfold fuV at hf ⊢
    rw [e3, e6]
    exact hf
  refine ⟨hg.pl h0 h1 hf2, (hj.gv hc h0 h1).pl h0 (by omega) (hg.h7 h0 (by omega)) ht hv, fun m y a => ?_⟩
  rw [plM_nx (by unfold PS; omega), gvM_nx (by unfold PS; omega) (by omega)]
theorem GI.co {V : Mm} (h : GI V) (l t v : Int) : GI (coM V l t v) := by
  unfold coM
  split
  · rename_i q
    obtain ⟨⟨⟨⟨ql0, ql3⟩, q1⟩, q2, q3⟩, q4, q5⟩ := q
    obtain ⟨hc, hj, hm⟩ := h
    have g := GI_cm hc hj ql0 ql3 q5 q2 q3
    refine ⟨g.1.nt, g.2.1.nt, GM.nt (fun m a b => ?_)⟩
    rw [g.2.2 m 6 a, g.2.2 m 15 a]
    exact hm m (by omega) b
  · exact h
theorem GI_bst {l s : Int} (h0 : 0 ≤ l) (h1 : l ≤ 3) : ∀ (n : Nat) {V : Mm} (v : Int), CI V → GJ V → V 7 l 10 + n ≤ 100000 → (V 7 l 3 = 1 ∨ V 7 l 6 + n ≤ 120) → (∀ i : Int, 0 ≤ i → i < n → -1000 ≤ v + i * s ∧ v + i * s ≤ 1000) → CI (bst l s n v V) ∧ GJ (bst l s n v V) ∧ ∀ m y : Int, 4 ≤ m → bst l s n v V 7 m y = V 7 m y
  | 0, _, _, hc, hj, _, _, _ => ⟨hc, hj, fun _ _ _ => rfl⟩
  | n + 1, V, v, hc, hj, ht, hh, hv => by
    have h10 := (hj.2.1 l h0 (by omega)).1
    have et : wr (V 7 l 10 + 1) = V 7 l 10 + 1 := wr_id ⟨by omega, by omega⟩
    have hv0 := hv 0 (by omega) (by omega)
    rw [Int.zero_mul, Int.add_zero] at hv0
    have g := GI_cm (t := V 7 l 10 + 1) (v := v) hc hj h0 h1 (by unfold fuV; omega) (by omega) hv0
    have hg := hc.gv (i := l) (t := V 7 l 10 + 1)
    have e10 : plM (gvM V l (V 7 l 10 + 1)) l (V 7 l 10 + 1) v 7 l 10 = V 7 l 10 + 1 := by
      rw [pl_10, gv_7 hc h0 h1]
      omega
    have e3 : plM (gvM V l (V 7 l 10 + 1)) l (V 7 l 10 + 1) v 7 l 3 = V 7 l 3 := (plM_nx (by unfold PS; omega)).trans (gv_7 hc h0 h1)
    have e6 := pl_6 hg (i := l) (t := V 7 l 10 + 1) (v := v) h0 h1
    rw [gv_7 hc h0 h1] at e6
    have ih := GI_bst (s := s) h0 h1 n (v + s) g.1 g.2.1 (by rw [e10]; omega) (by rw [e3]; omega) (fun i a b => by
      have := hv (i + 1) (by omega) (by omega)
      rw [Int.add_mul, Int.one_mul] at this
      omega)
    rw [bst_s, et]
    exact ⟨ih.1, ih.2.1, fun m y a => (ih.2.2 m y a).trans (g.2.2 m y a)⟩
theorem GI.bu {V : Mm} (h : GI V) (l m v s : Int) : GI (buM V l m v s) := by
  unfold buM
  split
  · rename_i q
    obtain ⟨⟨⟨ql0, ql3⟩, q1⟩, q2, q3, q4, q5, q6, q7⟩ := q
    obtain ⟨hc, hj, hm⟩ := h
    have h10 := (hj.2.1 l ql0 (by omega)).1
    rw [wr_id ⟨by omega, by omega⟩] at q6
    have g := GI_bst (s := s) ql0 ql3 m.toNat v hc hj (by omega) (by omega) (fun i a b => lin_btw (m := m - 1) a (by omega) q4 q5)
    refine ⟨g.1.nt, g.2.1.nt, GM.nt (fun i a b => ?_)⟩
    rw [g.2.2 i 6 a, g.2.2 i 15 a]
    exact hm i (by omega) b
  · exact h
