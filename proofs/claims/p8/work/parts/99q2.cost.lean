-- B: moves that are never made
def cst (f : Int → Int) : Nat → Int → Int
  | 0 => f
  | n + 1 => adR (cst f n)
def cs0 (V : Mm) (l : Int) : Int → Int := r7 (V 11 l 0) (V 11 l 1) (V 11 l 2) (V 11 l 3) (V 11 l 4) 0 0 (fun _ => 0)
abbrev csC (V : Mm) (l m w : Int) : Prop := opV V l ∧ (0 ≤ m ∧ m ≤ 200) ∧ 0 ≤ w ∧ w ≤ 1
def csR (V : Mm) (l m w : Int) : Int := if csC V l m w then (if w = 0 then cst (cs0 V l) m.toNat 5 else cst (cs0 V l) m.toNat 6) else -1
theorem r7_4 {a0 a1 a2 a3 a4 a5 a6 : Int} {g : Int → Int} : r7 a0 a1 a2 a3 a4 a5 a6 g 4 = a4 := rfl
theorem r7_5 {a0 a1 a2 a3 a4 a5 a6 : Int} {g : Int → Int} : r7 a0 a1 a2 a3 a4 a5 a6 g 5 = a5 := rfl
theorem r7_6 {a0 a1 a2 a3 a4 a5 a6 : Int} {g : Int → Int} : r7 a0 a1 a2 a3 a4 a5 a6 g 6 = a6 := rfl
theorem emL_cg {f g : Int → Int} (h : ∀ y : Int, 0 ≤ y → y ≤ 3 → g y = f y) : emL g = emL f := by
  unfold emL
  rw [h 0 (by omega) (by omega), h 1 (by omega) (by omega), h 2 (by omega) (by omega), h 3 (by omega) (by omega)]
theorem emM_cg {f g : Int → Int} (h : ∀ y : Int, 0 ≤ y → y ≤ 3 → g y = f y) : emM g = emM f := by
  unfold emM
  rw [h 0 (by omega) (by omega), h 1 (by omega) (by omega), h 2 (by omega) (by omega)]
theorem emT_cg {f g : Int → Int} (c : Int) (h : ∀ y : Int, 0 ≤ y → y ≤ 3 → g y = f y) : emT c g = emT c f := by
  unfold emT
  rw [emL_cg h, h 0 (by omega) (by omega), h 1 (by omega) (by omega), h 2 (by omega) (by omega)]
theorem emR_cg {f g : Int → Int} (c : Int) (h : ∀ y : Int, 0 ≤ y → y ≤ 3 → g y = f y) : ∀ y : Int, 0 ≤ y → y ≤ 4 → emR c g y = emR c f y := fun y a b => by
  unfold emR
  rw [emL_cg h, emM_cg h, emT_cg c h, h 0 (by omega) (by omega), h 1 (by omega) (by omega), h 2 (by omega) (by omega)]
  rcases (by omega : y = 0 ∨ y = 1 ∨ y = 2 ∨ y = 3 ∨ y = 4) with rfl | rfl | rfl | rfl | rfl <;> rfl
theorem ft_cg {f g : Int → Int} {j a : Int} {n : Int} (h : ∀ y : Int, 0 ≤ y → y ≤ n → g y = f y) : ∀ y : Int, 0 ≤ y → y ≤ n → ft g j a y = ft f j a y := fun y p q => by
  unfold ft
  rw [h y p q]
theorem adR_cg {f g : Int → Int} (h : ∀ y : Int, 0 ≤ y → y ≤ 3 → g y = f y) : ∀ y : Int, 0 ≤ y → y ≤ 4 → adR g y = adR f y := by
  unfold adR
  rw [h 2 (by omega) (by omega)]
  exact emR_cg _ (ft_cg h)
theorem adR_5 (f : Int → Int) : adR f 5 = wr (f 5 + adR f 4) := by
  unfold adR emR
  rw [r7_5, r7_4]
  rfl
theorem adR_6 (f : Int → Int) : adR f 6 = max (f 6) (adR f 4) := by
  unfold adR emR
  rw [r7_6, r7_4]
  rfl
theorem cst_s (f : Int → Int) {i : Int} (h : 0 ≤ i) : cst f (i + 1).toNat = adR (cst f i.toNat) := by
  rw [show (i + 1).toNat = i.toNat + 1 from by omega]
  rfl
theorem cst_FI {f : Int → Int} {h : Int} (p : FI f h) : ∀ n : Nat, FI (cst f n) (h + n)
  | 0 => by
    rw [show h + ((0 : Nat) : Int) = h from by omega]
    exact p
  | n + 1 => by
    rw [show h + ((n + 1 : Nat) : Int) = h + n + 1 from by omega]
    exact FI_ad (cst_FI p n)
theorem FIW {f : Int → Int} {h : Int} (p : FI f h) (hh : h ≤ 320) : (0 ≤ f 0 ∧ f 0 ≤ 320) ∧ (0 ≤ f 1 ∧ f 1 ≤ 320) ∧ (0 ≤ f 2 ∧ f 2 ≤ 320) ∧ 0 ≤ f 3 ∧ f 3 ≤ 700 := by
  unfold FI at p
  omega
theorem adT {f : Int → Int} {h : Int} (p : FI f h) : 0 ≤ adR f 4 ∧ adR f 4 ≤ 4 := by
  have a0 : ft f 2 (f 2 + 1) 0 = f 0 := if_neg (by decide)
  have a1 : ft f 2 (f 2 + 1) 1 = f 1 := if_neg (by decide)
  have a2 : ft f 2 (f 2 + 1) 2 = f 2 + 1 := if_pos rfl
  have a3 : ft f 2 (f 2 + 1) 3 = f 3 := if_neg (by decide)
  unfold FI at p
  unfold adR emR
  rw [r7_4]
  unfold emT emL
  simp only [a0, a1, a2, a3]
  (repeat' split) <;> omega
theorem cs0_FI {V : Mm} {l h : Int} (p : FI (V 11 l) h) : FI (cs0 V l) h := FI_c p (fun y a b => by
  unfold cs0
  rcases (by omega : y = 0 ∨ y = 1 ∨ y = 2 ∨ y = 3) with rfl | rfl | rfl | rfl <;> rfl)
theorem adR_cg6 {f g : Int → Int} (h : ∀ y : Int, 0 ≤ y → y ≤ 6 → g y = f y) : ∀ y : Int, 0 ≤ y → y ≤ 6 → adR g y = adR f y := fun y a b => by
  have q := adR_cg (f := f) (g := g) (fun y a b => h y a (by omega))
  by_cases h5 : y = 5
  · subst h5
    rw [adR_5, adR_5, q 4 (by omega) (by omega), h 5 (by omega) (by omega)]
  by_cases h6 : y = 6
  · subst h6
    rw [adR_6, adR_6, q 4 (by omega) (by omega), h 6 (by omega) (by omega)]
  exact q y a (by omega)
-- the LANE tried, held against nothing of the class's
theorem SB.dn7 {σ0 V W ρ : Mm} (h : SB 7 σ0 W ρ) (e : ∀ (c : Nat) (x y : Int), c < 30 → ¬ (x = 7 ∧ (c = 7 ∨ c = 8 ∨ c = 9 ∨ c = 10 ∨ c = 11)) → W c x y = V c x y) : SB 6 σ0 V ρ := by
  obtain ⟨q1, q2, q3, q4, q5, q6, q7, q8⟩ := h
  refine ⟨fun m u g x y z => ?_, fun m u g x y z => ?_, fun m u x y z k => ?_, fun k x y => ?_, fun k x y => ?_, fun k x y => ?_, fun k x y => ?_, fun c x y z => ?_⟩
  · rw [← e 7 m u (by omega) (by omega)]; exact q1 m u g x (by omega) z
  · rw [← e 11 m u (by omega) (by omega)]; exact q2 m u g x (by omega) z
  · rw [← e 8 m u (by omega) (by omega), ← e 9 m u (by omega) (by omega), ← e 10 m u (by omega) (by omega)]; exact q3 m u x (by omega) z k
  · rw [← e 12 k 0 (by omega) (by omega), ← e 12 k 1 (by omega) (by omega), ← e 12 k 2 (by omega) (by omega), ← e 12 k 3 (by omega) (by omega), ← e 12 k 4 (by omega) (by omega), ← e 12 k 5 (by omega) (by omega)]; exact q4 k x y
  · rw [← e 13 k 0 (by omega) (by omega), ← e 13 k 1 (by omega) (by omega), ← e 13 k 2 (by omega) (by omega), ← e 13 k 3 (by omega) (by omega)]; exact q5 k x y
  · rw [← e 15 0 k (by omega) (by omega)]; exact q6 k x y
  · rw [← e 16 0 k (by omega) (by omega)]; exact q7 k x y
  · exact q8 c x y z
theorem RS.dn7 {σ0 V W ρ : Mm} (h : RS 7 σ0 W ρ) (e : ∀ (c : Nat) (x y : Int), c < 30 → ¬ (x = 7 ∧ (c = 7 ∨ c = 8 ∨ c = 9 ∨ c = 10 ∨ c = 11)) → W c x y = V c x y) : RS 6 σ0 V ρ :=
  ⟨h.1.dn7 e, fun l a b => by rw [← e 11 l 3 (by omega) (by omega)]; exact h.2.1 l a (by omega), fun l a b c => by rw [← e 7 l 0 (by omega) (by omega)]; exact h.2.2 l a b (by rw [e 7 l 1 (by omega) (by omega)]; exact c)⟩
/-- as V, but LANE 7 as the reference's own LANE 7 -/
def up7 (V ρ : Mm) : Mm := fun c x y => if x = 7 then (if c = 7 then ρ 31 0 (154 + (if y = 1 then 0 else if y = 2 then 1 else if y = 3 then 2 else if y = 4 then 3 else if y = 5 then 4 else if y = 6 then 5 else if y = 10 then 6 else if y = 12 then 8 else if y = 13 then 9 else if y = 14 then 10 else 11)) else if c = 11 then ρ 31 0 (154 + (if y = 0 then 12 else if y = 1 then 13 else if y = 2 then 14 else if y = 3 then 15 else if y = 4 then 18 else if y = 5 then 19 else 20)) else if c = 8 then ρ 32 0 (847 + y) else if c = 9 then ρ 33 0 (847 + y) else if c = 10 then ρ 34 0 (847 + y) else V c x y) else V c x y
theorem up7_ne {V ρ : Mm} {c : Nat} {x y : Int} (h : ¬ (x = 7 ∧ (c = 7 ∨ c = 8 ∨ c = 9 ∨ c = 10 ∨ c = 11))) : up7 V ρ c x y = V c x y := by
  unfold up7
  by_cases hx : x = 7
  · rw [if_pos hx, if_neg (by omega), if_neg (by omega), if_neg (by omega), if_neg (by omega), if_neg (by omega)]
  · rw [if_neg hx]
theorem up7_7 {V ρ : Mm} {y : Int} : up7 V ρ 7 7 y = ρ 31 0 (154 + (if y = 1 then 0 else if y = 2 then 1 else if y = 3 then 2 else if y = 4 then 3 else if y = 5 then 4 else if y = 6 then 5 else if y = 10 then 6 else if y = 12 then 8 else if y = 13 then 9 else if y = 14 then 10 else 11)) := by
  unfold up7
  rw [if_pos rfl, if_pos rfl]
theorem up7_11 {V ρ : Mm} {y : Int} : up7 V ρ 11 7 y = ρ 31 0 (154 + (if y = 0 then 12 else if y = 1 then 13 else if y = 2 then 14 else if y = 3 then 15 else if y = 4 then 18 else if y = 5 then 19 else 20)) := by
  unfold up7
  rw [if_pos rfl, if_neg (by decide), if_pos rfl]
theorem SB.up7 {σ0 V ρ : Mm} (h : SB 6 σ0 V ρ) : SB 7 σ0 (up7 V ρ) ρ := by
  obtain ⟨q1, q2, q3, q4, q5, q6, q7, q8⟩ := h
  refine ⟨fun m u g x y z => ?_, fun m u g x y z => ?_, fun m u x y z k => ?_, fun k x y => ?_, fun k x y => ?_, fun k x y => ?_, fun k x y => ?_, fun c x y z => ?_⟩
  · by_cases e : m = 7
    · subst e
      rw [up7_7]
      unfold P7 at z
      rcases z with ⟨rfl, rfl⟩ | ⟨rfl, rfl⟩ | ⟨rfl, rfl⟩ | ⟨rfl, rfl⟩ | ⟨rfl, rfl⟩ | ⟨rfl, rfl⟩ | ⟨rfl, rfl⟩ | ⟨rfl, rfl⟩ | ⟨rfl, rfl⟩ | ⟨rfl, rfl⟩ | ⟨rfl, rfl⟩ <;> rfl
    · rw [up7_ne (by omega)]; exact q1 m u g x (by omega) z
  · by_cases e : m = 7
    · subst e
      rw [up7_11]
      unfold P11 at z
      rcases z with ⟨rfl, rfl⟩ | ⟨rfl, rfl⟩ | ⟨rfl, rfl⟩ | ⟨rfl, rfl⟩ | ⟨rfl, rfl⟩ | ⟨rfl, rfl⟩ | ⟨rfl, rfl⟩ <;> rfl
    · rw [up7_ne (by omega)]; exact q2 m u g x (by omega) z
  · by_cases e : m = 7
    · subst e
      exact ⟨rfl, rfl, rfl⟩
    · rw [up7_ne (by omega), up7_ne (by omega), up7_ne (by omega)]; exact q3 m u x (by omega) z k
  · rw [up7_ne (by omega), up7_ne (by omega), up7_ne (by omega), up7_ne (by omega), up7_ne (by omega), up7_ne (by omega)]; exact q4 k x y
  · rw [up7_ne (by omega), up7_ne (by omega), up7_ne (by omega), up7_ne (by omega)]; exact q5 k x y
  · rw [up7_ne (by omega)]; exact q6 k x y
  · rw [up7_ne (by omega)]; exact q7 k x y
  · exact q8 c x y z
theorem RS.up7 {σ0 V ρ : Mm} (h : RS 6 σ0 V ρ) : SB 7 σ0 (up7 V ρ) ρ ∧ KX 7 7 (up7 V ρ) ρ ∧ FB (up7 V ρ) ρ :=
  ⟨h.1.up7, fun m a b c => by rw [up7_ne (by omega)]; exact h.2.1 m a (by omega), fun l a b c => by
    rw [up7_ne (by omega)] at c
    rw [up7_ne (by omega)]
    exact h.2.2 l a b c⟩
theorem LK_drps {l : Int} : ∀ (n : Nat) {V : Mm}, LK V l → (V 7 l 3 = 1 → 0 ≤ V 7 l 4) → LK (drps l n V) l
  | 0, _, h, _ => h
  | n + 1, V, h, hz => by
    show LK (if goV V l then drps l n (dpM V l) else V) l
    split
    · rename_i hg
      exact LK_drps n (LK_dp h (by rcases hg with q | q <;> omega)) (by rw [dpM_ne (by omega), dpM_ne (by omega)]; exact hz)
    · exact h
theorem LK_pl {V : Mm} {l t v : Int} (h : LK V l) (h6 : V 7 l 6 ≤ 120) (hv : -1000 ≤ v ∧ v ≤ 1000) (hz : V 7 l 3 = 1 → 0 ≤ V 7 l 4) : LK (plM V l t v) l :=
  LK_drps _ (LK_en h h6 hv) (by rw [enM_nx (by unfold PS; omega), enM_nx (by unfold PS; omega)]; exact hz)
