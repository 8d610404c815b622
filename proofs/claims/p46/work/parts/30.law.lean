-- B: what ties both sides between calls
abbrev eT : Ev := (true, false, false)
def RB (S0 : Int → Int → Int) (σ : Mm) : Prop := (∀ i j : Int, σ 0 i j = S0 i j) ∧ GI σ ∧ RS 6 σ σ σ
theorem RB.hl {S0 : Int → Int → Int} {σ : Mm} (h : RB S0 σ) : HL σ := fun i a b => h.2.1.1.h7 a b
theorem RB.hm {S0 : Int → Int → Int} {σ : Mm} (h : RB S0 σ) : HM σ := fun l a b => by
  rw [h.2.2.1.a7 (s := 6) (f := 5) a (by omega) (by omega)]
  exact h.2.1.1.h7 a (by omega)
theorem RB.hh {S0 : Int → Int → Int} {σ : Mm} (h : RB S0 σ) : ∀ l : Int, 0 ≤ l → l ≤ 3 → 0 ≤ σ 7 l 6 ∧ σ 7 l 6 ≤ 120 := fun l a b => h.2.1.1.h7 a (by omega)
theorem tk31 {l f : Int} (h0 : 0 ≤ l) (h1 : l ≤ 6) (hf : 0 ≤ f ∧ f ≤ 20 ∧ f ≠ 7) : Tk eT 31 (22 * l + f) := Or.inl (by simp only [Tb]; omega)
theorem RS.tk {σ0 V ρ ρ2 : Mm} (h : RS 6 σ0 V ρ) (e : ∀ (c : Nat) (i j : Int), Tk eT c j → ρ2 c i j = ρ c i j) : RS 6 ρ2 V ρ2 := by
  obtain ⟨⟨q1, q2, q3, q4, q5, q6, q7, q8⟩, k, f⟩ := h
  have e31 : ∀ (l g : Int), 0 ≤ l → l ≤ 6 → 0 ≤ g ∧ g ≤ 20 ∧ g ≠ 7 → ρ2 31 0 (22 * l + g) = ρ 31 0 (22 * l + g) := fun l g a b c => e 31 0 _ (tk31 a b c)
  refine ⟨⟨fun m u g x y z => ?_, fun m u g x y z => ?_, fun m u x y z w => ?_, fun w x y => ?_, fun w x y => ?_, fun w x y => ?_, fun w x y => ?_, fun c x y z => rfl⟩, fun l a b => ?_, fun l a b c => ?_⟩
  · rw [e31 m g x y (by unfold P7 at z; omega)]; exact q1 m u g x y z
  · rw [e31 m g x y (by unfold P11 at z; omega)]; exact q2 m u g x y z
  · rw [e 32 0 _ (Or.inl trivial), e 33 0 _ (Or.inl trivial), e 34 0 _ (Or.inl trivial)]; exact q3 m u x y z w
  · rw [e 39 0 w (Or.inl trivial), e 40 0 w (Or.inl trivial), e 41 0 w (Or.inl trivial), e 42 0 w (Or.inl trivial), e 43 0 w (Or.inl trivial), e 44 0 w (Or.inl trivial)]; exact q4 w x y
  · rw [e 45 0 w (Or.inl trivial), e 46 0 w (Or.inl trivial), e 47 0 w (Or.inl trivial), e 48 0 w (Or.inl trivial)]; exact q5 w x y
  · rw [e 35 0 w (Or.inl trivial)]; exact q6 w x y
  · rw [e 36 0 w (Or.inl trivial)]; exact q7 w x y
  · rw [e31 l 16 a b (by omega), e31 l 17 a b (by omega)]; exact k l a b
  · rw [e 31 0 (22 * l + 21) (Or.inl (by simp only [Tb]; omega))]; exact f l a b c
theorem RS.cl {σ0 V ρ ρ2 : Mm} (h : RS 6 σ0 V ρ) (e : ∀ (c : Nat) (x y : Int), 30 ≤ c → ρ2 c x y = ρ c x y) : RS 6 ρ2 V ρ2 := by
  refine ⟨?_, fun l a b => by rw [e 31 0 _ (by decide), e 31 0 _ (by decide)]; exact h.2.1 l a b, fun l a b c => by rw [e 31 0 _ (by decide)]; exact h.2.2 l a b c⟩
  obtain ⟨⟨q1, q2, q3, q4, q5, q6, q7, q8⟩, k, f⟩ := h
  refine ⟨fun m u g x y z => ?_, fun m u g x y z => ?_, fun m u x y z w => ?_, fun w x y => ?_, fun w x y => ?_, fun w x y => ?_, fun w x y => ?_, fun c x y z => rfl⟩
  · rw [e 31 _ _ (by decide)]; exact q1 m u g x y z
  · rw [e 31 _ _ (by decide)]; exact q2 m u g x y z
  · rw [e 32 _ _ (by decide), e 33 _ _ (by decide), e 34 _ _ (by decide)]; exact q3 m u x y z w
  · rw [e 39 _ _ (by decide), e 40 _ _ (by decide), e 41 _ _ (by decide), e 42 _ _ (by decide), e 43 _ _ (by decide), e 44 _ _ (by decide)]; exact q4 w x y
  · rw [e 45 _ _ (by decide), e 46 _ _ (by decide), e 47 _ _ (by decide), e 48 _ _ (by decide)]; exact q5 w x y
  · rw [e 35 _ _ (by decide)]; exact q6 w x y
  · rw [e 36 _ _ (by decide)]; exact q7 w x y
/-- the class's places in other words -/
theorem RS.vt {σ0 V W ρ : Mm} (h : RS 6 σ0 V ρ) (e : ∀ (c : Nat) (x y : Int), c < 30 → Tb c y → ¬ (c = 11 ∧ x = 7) → W c x y = V c x y) : RS 6 ρ W ρ := by
  obtain ⟨⟨q1, q2, q3, q4, q5, q6, q7, q8⟩, k, f⟩ := h
  have t7 : ∀ y : Int, y ≠ 11 → Tb 7 y := fun y z => z
  refine ⟨⟨fun m u g x y z => ?_, fun m u g x y z => ?_, fun m u x y z w => ?_, fun w x y => ?_, fun w x y => ?_, fun w x y => ?_, fun w x y => ?_, fun c x y z => rfl⟩, fun l a b => ?_, fun l a b c => ?_⟩
  · rw [e 7 m u (by decide) (t7 u (by unfold P7 at z; omega)) (by omega)]; exact q1 m u g x y z
  · rw [e 11 m u (by decide) trivial (by omega)]; exact q2 m u g x y z
  · rw [e 8 m u (by decide) trivial (by omega), e 9 m u (by decide) trivial (by omega), e 10 m u (by decide) trivial (by omega)]; exact q3 m u x y z w
  · rw [e 12 w 0 (by decide) trivial (by omega), e 12 w 1 (by decide) trivial (by omega), e 12 w 2 (by decide) trivial (by omega), e 12 w 3 (by decide) trivial (by omega), e 12 w 4 (by decide) trivial (by omega), e 12 w 5 (by decide) trivial (by omega)]; exact q4 w x y
  · rw [e 13 w 0 (by decide) trivial (by omega), e 13 w 1 (by decide) trivial (by omega), e 13 w 2 (by decide) trivial (by omega), e 13 w 3 (by decide) trivial (by omega)]; exact q5 w x y
  · rw [e 15 0 w (by decide) trivial (by omega)]; exact q6 w x y
  · rw [e 16 0 w (by decide) trivial (by omega)]; exact q7 w x y
  · rw [e 11 l 3 (by decide) trivial (by omega)]; exact k l a b
  · rw [e 7 l 1 (by decide) (t7 1 (by omega)) (by omega)] at c
    rw [e 7 l 0 (by decide) (t7 0 (by omega)) (by omega)]; exact f l a b c
theorem GI.tk {V W : Mm} (h : GI V) (e : ∀ (c : Nat) (x y : Int), c < 30 → Tb c y → ¬ (c = 11 ∧ x = 7) → W c x y = V c x y) : GI W := by
  have t7 : ∀ x y : Int, y ≠ 11 → W 7 x y = V 7 x y := fun x y z => e 7 x y (by decide) z (by omega)
  have t8 : ∀ x y : Int, W 8 x y = V 8 x y := fun x y => e 8 x y (by decide) trivial (by omega)
  have t9 : ∀ x y : Int, W 9 x y = V 9 x y := fun x y => e 9 x y (by decide) trivial (by omega)
  have t12 : ∀ x y : Int, W 12 x y = V 12 x y := fun x y => e 12 x y (by decide) trivial (by omega)
  have t13 : ∀ x y : Int, W 13 x y = V 13 x y := fun x y => e 13 x y (by decide) trivial (by omega)
  have t15 : ∀ x y : Int, W 15 x y = V 15 x y := fun x y => e 15 x y (by decide) trivial (by omega)
  obtain ⟨⟨c1, c2, c3, c4⟩, hj, hm⟩ := h
  refine ⟨⟨fun l a b => ?_, fun l a b => ?_, fun l a b => ?_, fun l a b => ?_⟩, hj.to (fun c x y q => ?_), fun l a b => ?_⟩
  · rw [t7 l 0 (by omega)]; exact c1 l a b
  · rw [t7 l 6 (by omega), show W 11 l = V 11 l from funext fun y => e 11 l y (by decide) trivial (by omega)]; exact c2 l a b
  · rw [t7 l 3 (by omega), t7 l 4 (by omega), t7 l 6 (by omega)]; exact c3 l a b
  · rw [t13]; exact c4 l a b
  · rcases q with q | q
    · rcases q with ⟨rfl, q⟩ | ⟨rfl, q⟩ | ⟨rfl, q⟩ | rfl
      · exact t7 x y (by omega)
      · exact t13 x y
      · exact t12 x y
      · exact t15 x y
    · rcases q with rfl | rfl | ⟨rfl, q⟩
      · exact t8 x y
      · exact t9 x y
      · exact t7 x y (by omega)
  · rw [t7 l 6 (by omega), t7 l 15 (by omega)]; exact hm l a b
/-- behind both calls -/
theorem RB.mk {S0 : Int → Int → Int} {V ρ1 ρ2 ρ3 : Mm} (h0 : ∀ i j : Int, ρ1 0 i j = S0 i j) (hG : GI ρ1) (e2 : ∀ (c : Nat) (i j : Int), Tk eT c j → ρ2 c i j = ρ1 c i j) (h : RS 6 ρ2 V ρ3) (hV : ∀ (c : Nat) (x y : Int), c < 30 → Tb c y → ¬ (c = 11 ∧ x = 7) → ρ1 c x y = V c x y) : RB S0 ρ3 := by
  have k : ∀ (c : Nat) (x y : Int), c < 30 → Tb c y → ρ3 c x y = ρ1 c x y := fun c x y a b => (h.1.cl x y a).trans (e2 c x y (Or.inl b))
  exact ⟨fun i j => (k 0 i j (by decide) trivial).trans (h0 i j), hG.tk (fun c x y a b _ => k c x y a b), h.vt (fun c x y a b z => (k c x y a b).trans (hV c x y a b z))⟩
-- what a call leaves as it is
abbrev Fz (c : Nat) : Prop := c = 0 ∨ 30 ≤ c
theorem nt_fz {V : Mm} {c : Nat} {x y : Int} (h : Fz c) : ntM V c x y = V c x y := if_neg (by omega)
theorem gv_fz {V : Mm} {i t : Int} {c : Nat} {x y : Int} (h : Fz c) : gvM V i t c x y = V c x y := gvM_nx (by unfold PS; omega) (by omega)
theorem pl_fz {V : Mm} {i t v : Int} {c : Nat} {x y : Int} (h : Fz c) : plM V i t v c x y = V c x y := plM_nx (by unfold PS; omega)
theorem co_fz {V : Mm} {l t v : Int} {c : Nat} {x y : Int} (h : Fz c) : coM V l t v c x y = V c x y := by
  unfold coM
  split
  · rw [nt_fz h, pl_fz h, gv_fz h]
  · rfl
theorem bst_fz {l s : Int} {c : Nat} {x y : Int} (h : Fz c) : ∀ (n : Nat) (v : Int) (V : Mm), bst l s n v V c x y = V c x y
  | 0, _, _ => rfl
  | n + 1, v, V => by rw [bst_s, bst_fz h n, pl_fz h, gv_fz h]
theorem bu_fz {V : Mm} {l m v s : Int} {c : Nat} {x y : Int} (h : Fz c) : buM V l m v s c x y = V c x y := by
  unfold buM
  split
  · rw [nt_fz h, bst_fz h]
  · rfl
theorem le_fz {V : Mm} {l m : Int} {c : Nat} {x y : Int} (h : Fz c) : leM V l m c x y = V c x y := by
  unfold leM
  split
  · exact dpN_nx (by unfold PS; omega) _ _
  · rfl
theorem un_fz {V : Mm} {l t : Int} {c : Nat} {x y : Int} (h : Fz c) : unM V l t c x y = V c x y := by
  unfold unM
  split
  · exact dpN_nx (by unfold PS; omega) _ _
  · rfl
theorem ta_fz {V : Mm} {l z : Int} {c : Nat} {x y : Int} (h : Fz c) : taM V l z c x y = V c x y := by
  unfold taM
  split
  · rw [rgM_ne (by omega), lyM_ne (by omega), remM_ne (by omega)]
  · rfl
theorem al_fz {V : Mm} {l z v : Int} {c : Nat} {x y : Int} (h : Fz c) : alM V l z v c x y = V c x y := by
  unfold alM
  split
  · rw [rgM_ne (by omega), lyM_ne (by omega), mu_ne (by omega)]
  · rfl
theorem on_fz {V : Mm} {l o b z s : Int} {c : Nat} {x y : Int} (h : Fz c) : onM V l o b z s c x y = V c x y := by
  unfold onM
  split
  · rw [etM_ne (by omega)]
    unfold bgM
    by_cases hx : x = l
    · rw [if_pos hx, if_neg (by omega), if_neg (by omega)]
    · rw [if_neg hx]
  · rfl
theorem sh_fz {V : Mm} {l : Int} {c : Nat} {x y : Int} (h : Fz c) : shM V l c x y = V c x y := by
  unfold shM
  split
  · rw [etM_ne (by omega), mu_ne (by omega)]
  · rfl
theorem cp_fz {V : Mm} {a b : Int} {c : Nat} {x y : Int} (h : Fz c) : cpM V a b c x y = V c x y := by
  unfold cpM
  by_cases hx : x = b
  · rw [if_pos hx, if_neg (by omega), if_neg (by omega), if_neg (by omega)]
  · rw [if_neg hx]
theorem kp_fz {V : Mm} {l z : Int} {c : Nat} {x y : Int} (h : Fz c) : kpM V l z c x y = V c x y := by
  unfold kpM
  split
  · exact cp_fz h
  · rfl
theorem bk_fz {V : Mm} {z : Int} {c : Nat} {x y : Int} (h : Fz c) : bkM V z c x y = V c x y := by
  unfold bkM
  split
  · rw [etM_ne (by omega), cp_fz h]
  · rfl
theorem wt_fz {V : Mm} {v l w b : Int} {c : Nat} {x y : Int} (h : Fz c) : wtM V v l w b c x y = V c x y := by
  unfold wtM
  split
  · rw [mu_ne (by omega), mu_ne (by omega), mu_ne (by omega), mu_ne (by omega), mu_ne (by omega), mu_ne (by omega)]
  · rfl
theorem ul_fz {V : Mm} {l : Int} {c : Nat} {x y : Int} (h : Fz c) : ulM V l c x y = V c x y := by
  unfold ulM
  split
  · rw [mu_ne (by omega)]
  · rfl
theorem lk_fz {V : Mm} {l o z w : Int} {c : Nat} {x y : Int} (h : Fz c) : lkM V l o z w c x y = V c x y := by
  unfold lkM
  rw [mu_ne (by omega), mu_ne (by omega), mu_ne (by omega), mu_ne (by omega)]
-- the law, case by case
theorem qs_peakAt2 {eb : Bool} {d : Nat} {P : Option Vl → Mm → Prop} {σ : Mm} {l m w : Int} (k : ∀ r : Int, True → P (some (vI r)) σ) : WT (false, false, eb) (d + 6) 80 [vR 2 0, vI l, vI m, vI w] σ P := qs_peakAt (k _ trivial) (fun r _ => k r trivial)
theorem law_c0 {K : Nat → Lc → List Vl → Mm → Prop} {d : Nat} {S0 : Int → Int → Int} {σ : Mm} {i : Int} (hM : StpZ eT cL_law RL (WT eT (d + 11)) (KA eT K)) (h0 : 0 ≤ i) (h6 : i + 6 ≤ S0 0 (-1)) (hN : S0 0 (-1) ≤ 3072) (hR : RB S0 σ) (ih : ∀ ρ : Mm, RB S0 ρ → KA eT K 18 [some (vR 0 0), some (vR 2 0), some (vR 30 0), some (vI (i + 6))] [] ρ) : KA eT K 252 [some (vR 0 0), some (vR 2 0), some (vR 30 0), some (vI i)] [] σ := by
  have hC := hM.1
  have hG := hR.2.1
  refine r_aload_n hC dL_law_252 rfl ?_
  refine r_aload_n hC dL_law_253 rfl ?_
  refine r_iload_n hC dL_law_254 rfl ?_
  refine r_iconst hC dL_law_255 rfl ?_
  refine r_iaddE hC ((i + 1)) dL_law_256 (by omega) (by unfold inR; omega) ?_
  refine z_sald hM dL_law_257 (by omega) (by rw [hR.1 0 (-1)]; omega) ?_
  rw [hR.1 0 (i + 1)]
  refine r_aload_n hC dL_law_258 rfl ?_
  refine r_iload_n hC dL_law_259 rfl ?_
  refine r_iconst hC dL_law_260 rfl ?_
  refine r_iaddE hC ((i + 2)) dL_law_261 (by omega) (by unfold inR; omega) ?_
  refine z_sald hM dL_law_262 (by omega) (by rw [hR.1 0 (-1)]; omega) ?_
  rw [hR.1 0 (i + 2)]
  refine z_inv2 hM dL_law_263 vl_RL_13 rfl rfl rfl (Nat.le_of_ble_eq_true rfl) (Nat.le_of_ble_eq_true rfl) ?_
  refine x_table (fun c1 => ?_) (fun c0 => ?_)
  · obtain ⟨ρ2, e1⟩ : ∃ z : Mm, z = mu σ 15 0 ((S0 0 (i + 1))) ((S0 0 (i + 2))) := ⟨_, rfl⟩
    rw [← e1]
    have hG1 : GI ρ2 := by rw [e1]; exact hG.tb (by omega)
    have f1 : ∀ (c : Nat) (x y : Int), Fz c → ρ2 c x y = σ c x y := fun c x y q => by rw [e1]; exact mu_ne (by omega)
    have h01 : ∀ i j : Int, ρ2 0 i j = S0 i j := fun i j => (f1 0 i j (Or.inl rfl)).trans (hR.1 i j)
    have hS1 : RS 6 ρ2 σ ρ2 := hR.2.2.cl (fun c x y q => f1 c x y (Or.inr q))
    refine r_pop hC dL_law_266 rfl ?_
    refine r_aload_n hC dL_law_267 rfl ?_
    refine r_aload_n hC dL_law_268 rfl ?_
    refine r_iload_n hC dL_law_269 rfl ?_
    refine r_iconst hC dL_law_270 rfl ?_
    refine r_iaddE hC ((i + 1)) dL_law_271 (by omega) (by unfold inR; omega) ?_
    refine z_sald hM dL_law_272 (by omega) (by rw [h01 0 (-1)]; omega) ?_
    rw [h01 0 (i + 1)]
    refine r_aload_n hC dL_law_273 rfl ?_
    refine r_iload_n hC dL_law_274 rfl ?_
    refine r_iconst hC dL_law_275 rfl ?_
    refine r_iaddE hC ((i + 2)) dL_law_276 (by omega) (by unfold inR; omega) ?_
    refine z_sald hM dL_law_277 (by omega) (by rw [h01 0 (-1)]; omega) ?_
    rw [h01 0 (i + 2)]
    refine z_inv2 hM dL_law_278 vl_RL_17 rfl rfl rfl (Nat.le_of_ble_eq_true rfl) (Nat.le_of_ble_eq_true rfl) ?_
    refine WT_dn (fun ρd ed => ?_)
    have hSd : RS 6 ρd σ ρd := hS1.tk ed
    refine y_table (V := σ) ⟨by omega, by omega⟩ hSd (fun d1 ρ9 R9 => ?_) (fun d0 ρ9 R9 => ?_)
    · have hp : RB S0 ρ9 := RB.mk (ρ1 := ρ2) h01 hG1 ed R9 (fun c x y _ _ _ => by rw [e1])
      refine r_pop hC dL_law_281 rfl ?_
      refine r_goto (tgt := 2215) hC dL_law_282 rfl ?_
      refine r_iincE hC (i + 6) dL_law_2215 rfl rfl (by omega) (by unfold inR; omega) ?_
      refine r_goto (tgt := 18) hC dL_law_2218 rfl ?_
      exact ih _ hp
    · exact absurd c1 d0
  · refine r_pop hC dL_law_266 rfl ?_
    refine r_aload_n hC dL_law_267 rfl ?_
    refine r_aload_n hC dL_law_268 rfl ?_
    refine r_iload_n hC dL_law_269 rfl ?_
    refine r_iconst hC dL_law_270 rfl ?_
    refine r_iaddE hC ((i + 1)) dL_law_271 (by omega) (by unfold inR; omega) ?_
    refine z_sald hM dL_law_272 (by omega) (by rw [hR.1 0 (-1)]; omega) ?_
    rw [hR.1 0 (i + 1)]
    refine r_aload_n hC dL_law_273 rfl ?_
    refine r_iload_n hC dL_law_274 rfl ?_
    refine r_iconst hC dL_law_275 rfl ?_
    refine r_iaddE hC ((i + 2)) dL_law_276 (by omega) (by unfold inR; omega) ?_
    refine z_sald hM dL_law_277 (by omega) (by rw [hR.1 0 (-1)]; omega) ?_
    rw [hR.1 0 (i + 2)]
    refine z_inv2 hM dL_law_278 vl_RL_17 rfl rfl rfl (Nat.le_of_ble_eq_true rfl) (Nat.le_of_ble_eq_true rfl) ?_
    refine WT_dn (fun ρd ed => ?_)
    have hSd : RS 6 ρd σ ρd := hR.2.2.tk ed
    refine y_table (V := σ) ⟨by omega, by omega⟩ hSd (fun d1 ρ9 R9 => ?_) (fun d0 ρ9 R9 => ?_)
    · exact absurd d1 c0
    · have hp : RB S0 ρ9 := RB.mk (ρ1 := σ) hR.1 hG ed R9 (fun _ _ _ _ _ _ => rfl)
      refine r_pop hC dL_law_281 rfl ?_
      refine r_goto (tgt := 2215) hC dL_law_282 rfl ?_
      refine r_iincE hC (i + 6) dL_law_2215 rfl rfl (by omega) (by unfold inR; omega) ?_
      refine r_goto (tgt := 18) hC dL_law_2218 rfl ?_
      exact ih _ hp
theorem law_c1 {K : Nat → Lc → List Vl → Mm → Prop} {d : Nat} {S0 : Int → Int → Int} {σ : Mm} {i : Int} (hM : StpZ eT cL_law RL (WT eT (d + 11)) (KA eT K)) (h0 : 0 ≤ i) (h6 : i + 6 ≤ S0 0 (-1)) (hN : S0 0 (-1) ≤ 3072) (hR : RB S0 σ) (ih : ∀ ρ : Mm, RB S0 ρ → KA eT K 18 [some (vR 0 0), some (vR 2 0), some (vR 30 0), some (vI (i + 6))] [] ρ) : KA eT K 285 [some (vR 0 0), some (vR 2 0), some (vR 30 0), some (vI i)] [] σ := by
  have hC := hM.1
  have hG := hR.2.1
  refine r_aload_n hC dL_law_285 rfl ?_
  refine r_aload_n hC dL_law_286 rfl ?_
  refine r_iload_n hC dL_law_287 rfl ?_
  refine r_iconst hC dL_law_288 rfl ?_
  refine r_iaddE hC ((i + 1)) dL_law_289 (by omega) (by unfold inR; omega) ?_
  refine z_sald hM dL_law_290 (by omega) (by rw [hR.1 0 (-1)]; omega) ?_
  rw [hR.1 0 (i + 1)]
  refine r_aload_n hC dL_law_291 rfl ?_
  refine r_iload_n hC dL_law_292 rfl ?_
  refine r_iconst hC dL_law_293 rfl ?_
  refine r_iaddE hC ((i + 2)) dL_law_294 (by omega) (by unfold inR; omega) ?_
  refine z_sald hM dL_law_295 (by omega) (by rw [hR.1 0 (-1)]; omega) ?_
  rw [hR.1 0 (i + 2)]
  refine z_inv2 hM dL_law_296 vl_RL_18 rfl rfl rfl (Nat.le_of_ble_eq_true rfl) (Nat.le_of_ble_eq_true rfl) ?_
  refine x_letter (fun c1 => ?_) (fun c0 => ?_)
  · obtain ⟨ρ2, e1⟩ : ∃ z : Mm, z = mu σ 16 0 ((S0 0 (i + 1))) ((S0 0 (i + 2))) := ⟨_, rfl⟩
    rw [← e1]
    have hG1 : GI ρ2 := by rw [e1]; exact hG.lt
    have f1 : ∀ (c : Nat) (x y : Int), Fz c → ρ2 c x y = σ c x y := fun c x y q => by rw [e1]; exact mu_ne (by omega)
    have h01 : ∀ i j : Int, ρ2 0 i j = S0 i j := fun i j => (f1 0 i j (Or.inl rfl)).trans (hR.1 i j)
    have hS1 : RS 6 ρ2 σ ρ2 := hR.2.2.cl (fun c x y q => f1 c x y (Or.inr q))
    refine r_pop hC dL_law_299 rfl ?_
    refine r_aload_n hC dL_law_300 rfl ?_
    refine r_aload_n hC dL_law_301 rfl ?_
    refine r_iload_n hC dL_law_302 rfl ?_
    refine r_iconst hC dL_law_303 rfl ?_
    refine r_iaddE hC ((i + 1)) dL_law_304 (by omega) (by unfold inR; omega) ?_
    refine z_sald hM dL_law_305 (by omega) (by rw [h01 0 (-1)]; omega) ?_
    rw [h01 0 (i + 1)]
    refine r_aload_n hC dL_law_306 rfl ?_
    refine r_iload_n hC dL_law_307 rfl ?_
    refine r_iconst hC dL_law_308 rfl ?_
    refine r_iaddE hC ((i + 2)) dL_law_309 (by omega) (by unfold inR; omega) ?_
    refine z_sald hM dL_law_310 (by omega) (by rw [h01 0 (-1)]; omega) ?_
    rw [h01 0 (i + 2)]
    refine z_inv2 hM dL_law_311 vl_RL_21 rfl rfl rfl (Nat.le_of_ble_eq_true rfl) (Nat.le_of_ble_eq_true rfl) ?_
    refine WT_dn (fun ρd ed => ?_)
    have hSd : RS 6 ρd σ ρd := hS1.tk ed
    refine y_letter (V := σ) ⟨by omega, by omega⟩ hSd (fun d1 ρ9 R9 => ?_) (fun d0 ρ9 R9 => ?_)
    · have hp : RB S0 ρ9 := RB.mk (ρ1 := ρ2) h01 hG1 ed R9 (fun c x y _ _ _ => by rw [e1])
      refine r_pop hC dL_law_314 rfl ?_
      refine r_goto (tgt := 2215) hC dL_law_315 rfl ?_
      refine r_iincE hC (i + 6) dL_law_2215 rfl rfl (by omega) (by unfold inR; omega) ?_
      refine r_goto (tgt := 18) hC dL_law_2218 rfl ?_
      exact ih _ hp
    · exact absurd c1 d0
  · refine r_pop hC dL_law_299 rfl ?_
    refine r_aload_n hC dL_law_300 rfl ?_
    refine r_aload_n hC dL_law_301 rfl ?_
    refine r_iload_n hC dL_law_302 rfl ?_
    refine r_iconst hC dL_law_303 rfl ?_
    refine r_iaddE hC ((i + 1)) dL_law_304 (by omega) (by unfold inR; omega) ?_
    refine z_sald hM dL_law_305 (by omega) (by rw [hR.1 0 (-1)]; omega) ?_
    rw [hR.1 0 (i + 1)]
    refine r_aload_n hC dL_law_306 rfl ?_
    refine r_iload_n hC dL_law_307 rfl ?_
    refine r_iconst hC dL_law_308 rfl ?_
    refine r_iaddE hC ((i + 2)) dL_law_309 (by omega) (by unfold inR; omega) ?_
    refine z_sald hM dL_law_310 (by omega) (by rw [hR.1 0 (-1)]; omega) ?_
    rw [hR.1 0 (i + 2)]
    refine z_inv2 hM dL_law_311 vl_RL_21 rfl rfl rfl (Nat.le_of_ble_eq_true rfl) (Nat.le_of_ble_eq_true rfl) ?_
    refine WT_dn (fun ρd ed => ?_)
    have hSd : RS 6 ρd σ ρd := hR.2.2.tk ed
    refine y_letter (V := σ) ⟨by omega, by omega⟩ hSd (fun d1 ρ9 R9 => ?_) (fun d0 ρ9 R9 => ?_)
    · exact absurd d1 c0
    · have hp : RB S0 ρ9 := RB.mk (ρ1 := σ) hR.1 hG ed R9 (fun _ _ _ _ _ _ => rfl)
      refine r_pop hC dL_law_314 rfl ?_
      refine r_goto (tgt := 2215) hC dL_law_315 rfl ?_
      refine r_iincE hC (i + 6) dL_law_2215 rfl rfl (by omega) (by unfold inR; omega) ?_
      refine r_goto (tgt := 18) hC dL_law_2218 rfl ?_
      exact ih _ hp
theorem law_c2 {K : Nat → Lc → List Vl → Mm → Prop} {d : Nat} {S0 : Int → Int → Int} {σ : Mm} {i : Int} (hM : StpZ eT cL_law RL (WT eT (d + 11)) (KA eT K)) (h0 : 0 ≤ i) (h6 : i + 6 ≤ S0 0 (-1)) (hN : S0 0 (-1) ≤ 3072) (hR : RB S0 σ) (ih : ∀ ρ : Mm, RB S0 ρ → KA eT K 18 [some (vR 0 0), some (vR 2 0), some (vR 30 0), some (vI (i + 6))] [] ρ) : KA eT K 318 [some (vR 0 0), some (vR 2 0), some (vR 30 0), some (vI i)] [] σ := by
  have hC := hM.1
  have hG := hR.2.1
  refine r_aload_n hC dL_law_318 rfl ?_
  refine r_aload_n hC dL_law_319 rfl ?_
  refine r_iload_n hC dL_law_320 rfl ?_
  refine r_iconst hC dL_law_321 rfl ?_
  refine r_iaddE hC ((i + 1)) dL_law_322 (by omega) (by unfold inR; omega) ?_
  refine z_sald hM dL_law_323 (by omega) (by rw [hR.1 0 (-1)]; omega) ?_
  rw [hR.1 0 (i + 1)]
  refine z_inv1 hM dL_law_324 vl_RL_22 rfl rfl rfl (Nat.le_of_ble_eq_true rfl) (Nat.le_of_ble_eq_true rfl) ?_
  refine qs_triple (fun r1 h_r1 => ?_)
  refine r_pop hC dL_law_327 rfl ?_
  refine r_aload_n hC dL_law_328 rfl ?_
  refine r_aload_n hC dL_law_329 rfl ?_
  refine r_iload_n hC dL_law_330 rfl ?_
  refine r_iconst hC dL_law_331 rfl ?_
  refine r_iaddE hC ((i + 1)) dL_law_332 (by omega) (by unfold inR; omega) ?_
  refine z_sald hM dL_law_333 (by omega) (by rw [hR.1 0 (-1)]; omega) ?_
  rw [hR.1 0 (i + 1)]
  refine z_inv1 hM dL_law_334 vl_RL_26 rfl rfl rfl (Nat.le_of_ble_eq_true rfl) (Nat.le_of_ble_eq_true rfl) ?_
  refine qm_triple (fun r2 h_r2 => ?_)
  refine r_pop hC dL_law_337 rfl ?_
  refine r_goto (tgt := 2215) hC dL_law_338 rfl ?_
  refine r_iincE hC (i + 6) dL_law_2215 rfl rfl (by omega) (by unfold inR; omega) ?_
  refine r_goto (tgt := 18) hC dL_law_2218 rfl ?_
  exact ih _ hR
theorem law_c3 {K : Nat → Lc → List Vl → Mm → Prop} {d : Nat} {S0 : Int → Int → Int} {σ : Mm} {i : Int} (hM : StpZ eT cL_law RL (WT eT (d + 11)) (KA eT K)) (h0 : 0 ≤ i) (h6 : i + 6 ≤ S0 0 (-1)) (hN : S0 0 (-1) ≤ 3072) (hR : RB S0 σ) (ih : ∀ ρ : Mm, RB S0 ρ → KA eT K 18 [some (vR 0 0), some (vR 2 0), some (vR 30 0), some (vI (i + 6))] [] ρ) : KA eT K 341 [some (vR 0 0), some (vR 2 0), some (vR 30 0), some (vI i)] [] σ := by
  have hC := hM.1
  have hG := hR.2.1
  refine r_aload_n hC dL_law_341 rfl ?_
  refine r_aload_n hC dL_law_342 rfl ?_
  refine r_iload_n hC dL_law_343 rfl ?_
  refine r_iconst hC dL_law_344 rfl ?_
  refine r_iaddE hC ((i + 1)) dL_law_345 (by omega) (by unfold inR; omega) ?_
  refine z_sald hM dL_law_346 (by omega) (by rw [hR.1 0 (-1)]; omega) ?_
  rw [hR.1 0 (i + 1)]
  refine z_inv1 hM dL_law_347 vl_RL_27 rfl rfl rfl (Nat.le_of_ble_eq_true rfl) (Nat.le_of_ble_eq_true rfl) ?_
  refine qs_element (fun r1 h_r1 => ?_)
  refine r_pop hC dL_law_350 rfl ?_
  refine r_aload_n hC dL_law_351 rfl ?_
  refine r_aload_n hC dL_law_352 rfl ?_
  refine r_iload_n hC dL_law_353 rfl ?_
  refine r_iconst hC dL_law_354 rfl ?_
  refine r_iaddE hC ((i + 1)) dL_law_355 (by omega) (by unfold inR; omega) ?_
  refine z_sald hM dL_law_356 (by omega) (by rw [hR.1 0 (-1)]; omega) ?_
  rw [hR.1 0 (i + 1)]
  refine z_inv1 hM dL_law_357 vl_RL_30 rfl rfl rfl (Nat.le_of_ble_eq_true rfl) (Nat.le_of_ble_eq_true rfl) ?_
  refine qm_element (fun r2 h_r2 => ?_)
  refine r_pop hC dL_law_360 rfl ?_
  refine r_goto (tgt := 2215) hC dL_law_361 rfl ?_
  refine r_iincE hC (i + 6) dL_law_2215 rfl rfl (by omega) (by unfold inR; omega) ?_
  refine r_goto (tgt := 18) hC dL_law_2218 rfl ?_
  exact ih _ hR
theorem law_c4 {K : Nat → Lc → List Vl → Mm → Prop} {d : Nat} {S0 : Int → Int → Int} {σ : Mm} {i : Int} (hM : StpZ eT cL_law RL (WT eT (d + 11)) (KA eT K)) (h0 : 0 ≤ i) (h6 : i + 6 ≤ S0 0 (-1)) (hN : S0 0 (-1) ≤ 3072) (hR : RB S0 σ) (ih : ∀ ρ : Mm, RB S0 ρ → KA eT K 18 [some (vR 0 0), some (vR 2 0), some (vR 30 0), some (vI (i + 6))] [] ρ) : KA eT K 364 [some (vR 0 0), some (vR 2 0), some (vR 30 0), some (vI i)] [] σ := by
  have hC := hM.1
  have hG := hR.2.1
  refine r_aload_n hC dL_law_364 rfl ?_
  refine r_aload_n hC dL_law_365 rfl ?_
  refine r_iload_n hC dL_law_366 rfl ?_
  refine r_iconst hC dL_law_367 rfl ?_
  refine r_iaddE hC ((i + 1)) dL_law_368 (by omega) (by unfold inR; omega) ?_
  refine z_sald hM dL_law_369 (by omega) (by rw [hR.1 0 (-1)]; omega) ?_
  rw [hR.1 0 (i + 1)]
  refine r_aload_n hC dL_law_370 rfl ?_
  refine r_iload_n hC dL_law_371 rfl ?_
  refine r_iconst hC dL_law_372 rfl ?_
  refine r_iaddE hC ((i + 2)) dL_law_373 (by omega) (by unfold inR; omega) ?_
  refine z_sald hM dL_law_374 (by omega) (by rw [hR.1 0 (-1)]; omega) ?_
  rw [hR.1 0 (i + 2)]
  refine r_aload_n hC dL_law_375 rfl ?_
  refine r_iload_n hC dL_law_376 rfl ?_
  refine r_iconst hC dL_law_377 rfl ?_
  refine r_iaddE hC ((i + 3)) dL_law_378 (by omega) (by unfold inR; omega) ?_
  refine z_sald hM dL_law_379 (by omega) (by rw [hR.1 0 (-1)]; omega) ?_
  rw [hR.1 0 (i + 3)]
  refine r_aload_n hC dL_law_380 rfl ?_
  refine r_iload_n hC dL_law_381 rfl ?_
  refine r_iconst hC dL_law_382 rfl ?_
  refine r_iaddE hC ((i + 4)) dL_law_383 (by omega) (by unfold inR; omega) ?_
  refine z_sald hM dL_law_384 (by omega) (by rw [hR.1 0 (-1)]; omega) ?_
  rw [hR.1 0 (i + 4)]
  refine r_aload_n hC dL_law_385 rfl ?_
  refine r_iload_n hC dL_law_386 rfl ?_
  refine r_iconst hC dL_law_387 rfl ?_
  refine r_iaddE hC ((i + 5)) dL_law_388 (by omega) (by unfold inR; omega) ?_
  refine z_sald hM dL_law_389 (by omega) (by rw [hR.1 0 (-1)]; omega) ?_
  rw [hR.1 0 (i + 5)]
  refine z_inv5 hM dL_law_390 vl_RL_31 rfl rfl rfl (Nat.le_of_ble_eq_true rfl) (Nat.le_of_ble_eq_true rfl) ?_
  refine x_open ?_
  obtain ⟨ρ2, e1⟩ : ∃ z : Mm, z = onM σ ((S0 0 (i + 1))) ((S0 0 (i + 2))) ((S0 0 (i + 3))) ((S0 0 (i + 4))) ((S0 0 (i + 5))) := ⟨_, rfl⟩
  rw [← e1]
  have hG1 : GI ρ2 := by rw [e1]; exact hG.on _ _ _ _ _
  have f1 : ∀ (c : Nat) (x y : Int), Fz c → ρ2 c x y = σ c x y := fun c x y q => by rw [e1]; exact on_fz q
  have h01 : ∀ i j : Int, ρ2 0 i j = S0 i j := fun i j => (f1 0 i j (Or.inl rfl)).trans (hR.1 i j)
  have hS1 : RS 6 ρ2 σ ρ2 := hR.2.2.cl (fun c x y q => f1 c x y (Or.inr q))
  refine r_pop hC dL_law_393 rfl ?_
  refine r_aload_n hC dL_law_394 rfl ?_
  refine r_aload_n hC dL_law_395 rfl ?_
  refine r_iload_n hC dL_law_396 rfl ?_
  refine r_iconst hC dL_law_397 rfl ?_
  refine r_iaddE hC ((i + 1)) dL_law_398 (by omega) (by unfold inR; omega) ?_
  refine z_sald hM dL_law_399 (by omega) (by rw [h01 0 (-1)]; omega) ?_
  rw [h01 0 (i + 1)]
  refine r_aload_n hC dL_law_400 rfl ?_
  refine r_iload_n hC dL_law_401 rfl ?_
  refine r_iconst hC dL_law_402 rfl ?_
  refine r_iaddE hC ((i + 2)) dL_law_403 (by omega) (by unfold inR; omega) ?_
  refine z_sald hM dL_law_404 (by omega) (by rw [h01 0 (-1)]; omega) ?_
  rw [h01 0 (i + 2)]
  refine r_aload_n hC dL_law_405 rfl ?_
  refine r_iload_n hC dL_law_406 rfl ?_
  refine r_iconst hC dL_law_407 rfl ?_
  refine r_iaddE hC ((i + 3)) dL_law_408 (by omega) (by unfold inR; omega) ?_
  refine z_sald hM dL_law_409 (by omega) (by rw [h01 0 (-1)]; omega) ?_
  rw [h01 0 (i + 3)]
  refine r_aload_n hC dL_law_410 rfl ?_
  refine r_iload_n hC dL_law_411 rfl ?_
  refine r_iconst hC dL_law_412 rfl ?_
  refine r_iaddE hC ((i + 4)) dL_law_413 (by omega) (by unfold inR; omega) ?_
  refine z_sald hM dL_law_414 (by omega) (by rw [h01 0 (-1)]; omega) ?_
  rw [h01 0 (i + 4)]
  refine r_aload_n hC dL_law_415 rfl ?_
  refine r_iload_n hC dL_law_416 rfl ?_
  refine r_iconst hC dL_law_417 rfl ?_
  refine r_iaddE hC ((i + 5)) dL_law_418 (by omega) (by unfold inR; omega) ?_
  refine z_sald hM dL_law_419 (by omega) (by rw [h01 0 (-1)]; omega) ?_
  rw [h01 0 (i + 5)]
  refine z_inv5 hM dL_law_420 vl_RL_35 rfl rfl rfl (Nat.le_of_ble_eq_true rfl) (Nat.le_of_ble_eq_true rfl) ?_
  refine WT_dn (fun ρd ed => ?_)
  have hSd : RS 6 ρd σ ρd := hS1.tk ed
  refine y_open (V := σ) ⟨by omega, by omega⟩ hSd hG (fun ρ9 R9 => ?_)
  have hp : RB S0 ρ9 := RB.mk (ρ1 := ρ2) h01 hG1 ed R9 (fun c x y _ _ _ => by rw [e1])
  refine r_pop hC dL_law_423 rfl ?_
  refine r_goto (tgt := 2215) hC dL_law_424 rfl ?_
  refine r_iincE hC (i + 6) dL_law_2215 rfl rfl (by omega) (by unfold inR; omega) ?_
  refine r_goto (tgt := 18) hC dL_law_2218 rfl ?_
  exact ih _ hp
theorem law_c5 {K : Nat → Lc → List Vl → Mm → Prop} {d : Nat} {S0 : Int → Int → Int} {σ : Mm} {i : Int} (hM : StpZ eT cL_law RL (WT eT (d + 11)) (KA eT K)) (h0 : 0 ≤ i) (h6 : i + 6 ≤ S0 0 (-1)) (hN : S0 0 (-1) ≤ 3072) (hR : RB S0 σ) (ih : ∀ ρ : Mm, RB S0 ρ → KA eT K 18 [some (vR 0 0), some (vR 2 0), some (vR 30 0), some (vI (i + 6))] [] ρ) : KA eT K 427 [some (vR 0 0), some (vR 2 0), some (vR 30 0), some (vI i)] [] σ := by
  have hC := hM.1
  have hG := hR.2.1
  refine r_aload_n hC dL_law_427 rfl ?_
  refine r_aload_n hC dL_law_428 rfl ?_
  refine r_iload_n hC dL_law_429 rfl ?_
  refine r_iconst hC dL_law_430 rfl ?_
  refine r_iaddE hC ((i + 1)) dL_law_431 (by omega) (by unfold inR; omega) ?_
  refine z_sald hM dL_law_432 (by omega) (by rw [hR.1 0 (-1)]; omega) ?_
  rw [hR.1 0 (i + 1)]
  refine z_inv1 hM dL_law_433 vl_RL_36 rfl rfl rfl (Nat.le_of_ble_eq_true rfl) (Nat.le_of_ble_eq_true rfl) ?_
  refine x_shut ?_
  obtain ⟨ρ2, e1⟩ : ∃ z : Mm, z = shM σ ((S0 0 (i + 1))) := ⟨_, rfl⟩
  rw [← e1]
  have hG1 : GI ρ2 := by rw [e1]; exact hG.sh _
  have f1 : ∀ (c : Nat) (x y : Int), Fz c → ρ2 c x y = σ c x y := fun c x y q => by rw [e1]; exact sh_fz q
  have h01 : ∀ i j : Int, ρ2 0 i j = S0 i j := fun i j => (f1 0 i j (Or.inl rfl)).trans (hR.1 i j)
  have hS1 : RS 6 ρ2 σ ρ2 := hR.2.2.cl (fun c x y q => f1 c x y (Or.inr q))
  refine r_pop hC dL_law_436 rfl ?_
  refine r_aload_n hC dL_law_437 rfl ?_
  refine r_aload_n hC dL_law_438 rfl ?_
  refine r_iload_n hC dL_law_439 rfl ?_
  refine r_iconst hC dL_law_440 rfl ?_
  refine r_iaddE hC ((i + 1)) dL_law_441 (by omega) (by unfold inR; omega) ?_
  refine z_sald hM dL_law_442 (by omega) (by rw [h01 0 (-1)]; omega) ?_
  rw [h01 0 (i + 1)]
  refine z_inv1 hM dL_law_443 vl_RL_40 rfl rfl rfl (Nat.le_of_ble_eq_true rfl) (Nat.le_of_ble_eq_true rfl) ?_
  refine WT_dn (fun ρd ed => ?_)
  have hSd : RS 6 ρd σ ρd := hS1.tk ed
  refine y_shut (V := σ) ⟨by omega, by omega⟩ hSd hG (fun ρ9 R9 => ?_)
  have hp : RB S0 ρ9 := RB.mk (ρ1 := ρ2) h01 hG1 ed R9 (fun c x y _ _ _ => by rw [e1])
  refine r_pop hC dL_law_446 rfl ?_
  refine r_goto (tgt := 2215) hC dL_law_447 rfl ?_
  refine r_iincE hC (i + 6) dL_law_2215 rfl rfl (by omega) (by unfold inR; omega) ?_
  refine r_goto (tgt := 18) hC dL_law_2218 rfl ?_
  exact ih _ hp
theorem law_c6 {K : Nat → Lc → List Vl → Mm → Prop} {d : Nat} {S0 : Int → Int → Int} {σ : Mm} {i : Int} (hM : StpZ eT cL_law RL (WT eT (d + 11)) (KA eT K)) (h0 : 0 ≤ i) (h6 : i + 6 ≤ S0 0 (-1)) (hN : S0 0 (-1) ≤ 3072) (hR : RB S0 σ) (ih : ∀ ρ : Mm, RB S0 ρ → KA eT K 18 [some (vR 0 0), some (vR 2 0), some (vR 30 0), some (vI (i + 6))] [] ρ) : KA eT K 450 [some (vR 0 0), some (vR 2 0), some (vR 30 0), some (vI i)] [] σ := by
  have hC := hM.1
  have hG := hR.2.1
  refine r_aload_n hC dL_law_450 rfl ?_
  refine r_aload_n hC dL_law_451 rfl ?_
  refine r_iload_n hC dL_law_452 rfl ?_
  refine r_iconst hC dL_law_453 rfl ?_
  refine r_iaddE hC ((i + 1)) dL_law_454 (by omega) (by unfold inR; omega) ?_
  refine z_sald hM dL_law_455 (by omega) (by rw [hR.1 0 (-1)]; omega) ?_
  rw [hR.1 0 (i + 1)]
  refine r_aload_n hC dL_law_456 rfl ?_
  refine r_iload_n hC dL_law_457 rfl ?_
  refine r_iconst hC dL_law_458 rfl ?_
  refine r_iaddE hC ((i + 2)) dL_law_459 (by omega) (by unfold inR; omega) ?_
  refine z_sald hM dL_law_460 (by omega) (by rw [hR.1 0 (-1)]; omega) ?_
  rw [hR.1 0 (i + 2)]
  refine r_aload_n hC dL_law_461 rfl ?_
  refine r_iload_n hC dL_law_462 rfl ?_
  refine r_iconst hC dL_law_463 rfl ?_
  refine r_iaddE hC ((i + 3)) dL_law_464 (by omega) (by unfold inR; omega) ?_
  refine z_sald hM dL_law_465 (by omega) (by rw [hR.1 0 (-1)]; omega) ?_
  rw [hR.1 0 (i + 3)]
  refine z_inv3 hM dL_law_466 vl_RL_41 rfl rfl rfl (Nat.le_of_ble_eq_true rfl) (Nat.le_of_ble_eq_true rfl) ?_
  refine x_come hG.1 ?_
  obtain ⟨ρ2, e1⟩ : ∃ z : Mm, z = coM σ ((S0 0 (i + 1))) ((S0 0 (i + 2))) ((S0 0 (i + 3))) := ⟨_, rfl⟩
  rw [← e1]
  have hG1 : GI ρ2 := by rw [e1]; exact hG.co _ _ _
  have f1 : ∀ (c : Nat) (x y : Int), Fz c → ρ2 c x y = σ c x y := fun c x y q => by rw [e1]; exact co_fz q
  have h01 : ∀ i j : Int, ρ2 0 i j = S0 i j := fun i j => (f1 0 i j (Or.inl rfl)).trans (hR.1 i j)
  have hS1 : RS 6 ρ2 σ ρ2 := hR.2.2.cl (fun c x y q => f1 c x y (Or.inr q))
  refine r_pop hC dL_law_469 rfl ?_
  refine r_aload_n hC dL_law_470 rfl ?_
  refine r_aload_n hC dL_law_471 rfl ?_
  refine r_iload_n hC dL_law_472 rfl ?_
  refine r_iconst hC dL_law_473 rfl ?_
  refine r_iaddE hC ((i + 1)) dL_law_474 (by omega) (by unfold inR; omega) ?_
  refine z_sald hM dL_law_475 (by omega) (by rw [h01 0 (-1)]; omega) ?_
  rw [h01 0 (i + 1)]
  refine r_aload_n hC dL_law_476 rfl ?_
  refine r_iload_n hC dL_law_477 rfl ?_
  refine r_iconst hC dL_law_478 rfl ?_
  refine r_iaddE hC ((i + 2)) dL_law_479 (by omega) (by unfold inR; omega) ?_
  refine z_sald hM dL_law_480 (by omega) (by rw [h01 0 (-1)]; omega) ?_
  rw [h01 0 (i + 2)]
  refine r_aload_n hC dL_law_481 rfl ?_
  refine r_iload_n hC dL_law_482 rfl ?_
  refine r_iconst hC dL_law_483 rfl ?_
  refine r_iaddE hC ((i + 3)) dL_law_484 (by omega) (by unfold inR; omega) ?_
  refine z_sald hM dL_law_485 (by omega) (by rw [h01 0 (-1)]; omega) ?_
  rw [h01 0 (i + 3)]
  refine z_inv3 hM dL_law_486 vl_RL_45 rfl rfl rfl (Nat.le_of_ble_eq_true rfl) (Nat.le_of_ble_eq_true rfl) ?_
  refine WT_dn (fun ρd ed => ?_)
  have hSd : RS 6 ρd σ ρd := hS1.tk ed
  refine y_come (V := σ) ⟨by omega, by omega⟩ hSd hG (fun ρ9 R9 => ?_)
  have hp : RB S0 ρ9 := RB.mk (ρ1 := ρ2) h01 hG1 ed R9 (fun c x y _ _ _ => by rw [e1])
  refine r_pop hC dL_law_489 rfl ?_
  refine r_goto (tgt := 2215) hC dL_law_490 rfl ?_
  refine r_iincE hC (i + 6) dL_law_2215 rfl rfl (by omega) (by unfold inR; omega) ?_
  refine r_goto (tgt := 18) hC dL_law_2218 rfl ?_
  exact ih _ hp
theorem law_c7 {K : Nat → Lc → List Vl → Mm → Prop} {d : Nat} {S0 : Int → Int → Int} {σ : Mm} {i : Int} (hM : StpZ eT cL_law RL (WT eT (d + 11)) (KA eT K)) (h0 : 0 ≤ i) (h6 : i + 6 ≤ S0 0 (-1)) (hN : S0 0 (-1) ≤ 3072) (hR : RB S0 σ) (ih : ∀ ρ : Mm, RB S0 ρ → KA eT K 18 [some (vR 0 0), some (vR 2 0), some (vR 30 0), some (vI (i + 6))] [] ρ) : KA eT K 493 [some (vR 0 0), some (vR 2 0), some (vR 30 0), some (vI i)] [] σ := by
  have hC := hM.1
  have hG := hR.2.1
  refine r_aload_n hC dL_law_493 rfl ?_
  refine r_aload_n hC dL_law_494 rfl ?_
  refine r_iload_n hC dL_law_495 rfl ?_
  refine r_iconst hC dL_law_496 rfl ?_
  refine r_iaddE hC ((i + 1)) dL_law_497 (by omega) (by unfold inR; omega) ?_
  refine z_sald hM dL_law_498 (by omega) (by rw [hR.1 0 (-1)]; omega) ?_
  rw [hR.1 0 (i + 1)]
  refine r_aload_n hC dL_law_499 rfl ?_
  refine r_iload_n hC dL_law_500 rfl ?_
  refine r_iconst hC dL_law_501 rfl ?_
  refine r_iaddE hC ((i + 2)) dL_law_502 (by omega) (by unfold inR; omega) ?_
  refine z_sald hM dL_law_503 (by omega) (by rw [hR.1 0 (-1)]; omega) ?_
  rw [hR.1 0 (i + 2)]
  refine r_aload_n hC dL_law_504 rfl ?_
  refine r_iload_n hC dL_law_505 rfl ?_
  refine r_iconst hC dL_law_506 rfl ?_
  refine r_iaddE hC ((i + 3)) dL_law_507 (by omega) (by unfold inR; omega) ?_
  refine z_sald hM dL_law_508 (by omega) (by rw [hR.1 0 (-1)]; omega) ?_
  rw [hR.1 0 (i + 3)]
  refine r_aload_n hC dL_law_509 rfl ?_
  refine r_iload_n hC dL_law_510 rfl ?_
  refine r_iconst hC dL_law_511 rfl ?_
  refine r_iaddE hC ((i + 4)) dL_law_512 (by omega) (by unfold inR; omega) ?_
  refine z_sald hM dL_law_513 (by omega) (by rw [hR.1 0 (-1)]; omega) ?_
  rw [hR.1 0 (i + 4)]
  refine z_inv4 hM dL_law_514 vl_RL_46 rfl rfl rfl (Nat.le_of_ble_eq_true rfl) (Nat.le_of_ble_eq_true rfl) ?_
  refine x_burst hG.1 ?_
  obtain ⟨ρ2, e1⟩ : ∃ z : Mm, z = buM σ ((S0 0 (i + 1))) ((S0 0 (i + 2))) ((S0 0 (i + 3))) ((S0 0 (i + 4))) := ⟨_, rfl⟩
  rw [← e1]
  have hG1 : GI ρ2 := by rw [e1]; exact hG.bu _ _ _ _
  have f1 : ∀ (c : Nat) (x y : Int), Fz c → ρ2 c x y = σ c x y := fun c x y q => by rw [e1]; exact bu_fz q
  have h01 : ∀ i j : Int, ρ2 0 i j = S0 i j := fun i j => (f1 0 i j (Or.inl rfl)).trans (hR.1 i j)
  have hS1 : RS 6 ρ2 σ ρ2 := hR.2.2.cl (fun c x y q => f1 c x y (Or.inr q))
  refine r_pop hC dL_law_517 rfl ?_
  refine r_aload_n hC dL_law_518 rfl ?_
  refine r_aload_n hC dL_law_519 rfl ?_
  refine r_iload_n hC dL_law_520 rfl ?_
  refine r_iconst hC dL_law_521 rfl ?_
  refine r_iaddE hC ((i + 1)) dL_law_522 (by omega) (by unfold inR; omega) ?_
  refine z_sald hM dL_law_523 (by omega) (by rw [h01 0 (-1)]; omega) ?_
  rw [h01 0 (i + 1)]
  refine r_aload_n hC dL_law_524 rfl ?_
  refine r_iload_n hC dL_law_525 rfl ?_
  refine r_iconst hC dL_law_526 rfl ?_
  refine r_iaddE hC ((i + 2)) dL_law_527 (by omega) (by unfold inR; omega) ?_
  refine z_sald hM dL_law_528 (by omega) (by rw [h01 0 (-1)]; omega) ?_
  rw [h01 0 (i + 2)]
  refine r_aload_n hC dL_law_529 rfl ?_
  refine r_iload_n hC dL_law_530 rfl ?_
  refine r_iconst hC dL_law_531 rfl ?_
  refine r_iaddE hC ((i + 3)) dL_law_532 (by omega) (by unfold inR; omega) ?_
  refine z_sald hM dL_law_533 (by omega) (by rw [h01 0 (-1)]; omega) ?_
  rw [h01 0 (i + 3)]
  refine r_aload_n hC dL_law_534 rfl ?_
  refine r_iload_n hC dL_law_535 rfl ?_
  refine r_iconst hC dL_law_536 rfl ?_
  refine r_iaddE hC ((i + 4)) dL_law_537 (by omega) (by unfold inR; omega) ?_
  refine z_sald hM dL_law_538 (by omega) (by rw [h01 0 (-1)]; omega) ?_
  rw [h01 0 (i + 4)]
  refine z_inv4 hM dL_law_539 vl_RL_50 rfl rfl rfl (Nat.le_of_ble_eq_true rfl) (Nat.le_of_ble_eq_true rfl) ?_
  refine WT_dn (fun ρd ed => ?_)
  have hSd : RS 6 ρd σ ρd := hS1.tk ed
  refine y_burst (V := σ) ⟨by omega, by omega⟩ hSd hG (fun ρ9 R9 => ?_)
  have hp : RB S0 ρ9 := RB.mk (ρ1 := ρ2) h01 hG1 ed R9 (fun c x y _ _ _ => by rw [e1])
  refine r_pop hC dL_law_542 rfl ?_
  refine r_goto (tgt := 2215) hC dL_law_543 rfl ?_
  refine r_iincE hC (i + 6) dL_law_2215 rfl rfl (by omega) (by unfold inR; omega) ?_
  refine r_goto (tgt := 18) hC dL_law_2218 rfl ?_
  exact ih _ hp
theorem law_c8 {K : Nat → Lc → List Vl → Mm → Prop} {d : Nat} {S0 : Int → Int → Int} {σ : Mm} {i : Int} (hM : StpZ eT cL_law RL (WT eT (d + 11)) (KA eT K)) (h0 : 0 ≤ i) (h6 : i + 6 ≤ S0 0 (-1)) (hN : S0 0 (-1) ≤ 3072) (hR : RB S0 σ) (ih : ∀ ρ : Mm, RB S0 ρ → KA eT K 18 [some (vR 0 0), some (vR 2 0), some (vR 30 0), some (vI (i + 6))] [] ρ) : KA eT K 546 [some (vR 0 0), some (vR 2 0), some (vR 30 0), some (vI i)] [] σ := by
  have hC := hM.1
  have hG := hR.2.1
  refine r_aload_n hC dL_law_546 rfl ?_
  refine r_aload_n hC dL_law_547 rfl ?_
  refine r_iload_n hC dL_law_548 rfl ?_
  refine r_iconst hC dL_law_549 rfl ?_
  refine r_iaddE hC ((i + 1)) dL_law_550 (by omega) (by unfold inR; omega) ?_
  refine z_sald hM dL_law_551 (by omega) (by rw [hR.1 0 (-1)]; omega) ?_
  rw [hR.1 0 (i + 1)]
  refine r_aload_n hC dL_law_552 rfl ?_
  refine r_iload_n hC dL_law_553 rfl ?_
  refine r_iconst hC dL_law_554 rfl ?_
  refine r_iaddE hC ((i + 2)) dL_law_555 (by omega) (by unfold inR; omega) ?_
  refine z_sald hM dL_law_556 (by omega) (by rw [hR.1 0 (-1)]; omega) ?_
  rw [hR.1 0 (i + 2)]
  refine z_inv2 hM dL_law_557 vl_RL_51 rfl rfl rfl (Nat.le_of_ble_eq_true rfl) (Nat.le_of_ble_eq_true rfl) ?_
  refine x_leave hG.1 ?_
  obtain ⟨ρ2, e1⟩ : ∃ z : Mm, z = leM σ ((S0 0 (i + 1))) ((S0 0 (i + 2))) := ⟨_, rfl⟩
  rw [← e1]
  have hG1 : GI ρ2 := by rw [e1]; exact hG.le _ _
  have f1 : ∀ (c : Nat) (x y : Int), Fz c → ρ2 c x y = σ c x y := fun c x y q => by rw [e1]; exact le_fz q
  have h01 : ∀ i j : Int, ρ2 0 i j = S0 i j := fun i j => (f1 0 i j (Or.inl rfl)).trans (hR.1 i j)
  have hS1 : RS 6 ρ2 σ ρ2 := hR.2.2.cl (fun c x y q => f1 c x y (Or.inr q))
  refine r_pop hC dL_law_560 rfl ?_
  refine r_aload_n hC dL_law_561 rfl ?_
  refine r_aload_n hC dL_law_562 rfl ?_
  refine r_iload_n hC dL_law_563 rfl ?_
  refine r_iconst hC dL_law_564 rfl ?_
  refine r_iaddE hC ((i + 1)) dL_law_565 (by omega) (by unfold inR; omega) ?_
  refine z_sald hM dL_law_566 (by omega) (by rw [h01 0 (-1)]; omega) ?_
  rw [h01 0 (i + 1)]
  refine r_aload_n hC dL_law_567 rfl ?_
  refine r_iload_n hC dL_law_568 rfl ?_
  refine r_iconst hC dL_law_569 rfl ?_
  refine r_iaddE hC ((i + 2)) dL_law_570 (by omega) (by unfold inR; omega) ?_
  refine z_sald hM dL_law_571 (by omega) (by rw [h01 0 (-1)]; omega) ?_
  rw [h01 0 (i + 2)]
  refine z_inv2 hM dL_law_572 vl_RL_55 rfl rfl rfl (Nat.le_of_ble_eq_true rfl) (Nat.le_of_ble_eq_true rfl) ?_
  refine WT_dn (fun ρd ed => ?_)
  have hSd : RS 6 ρd σ ρd := hS1.tk ed
  refine y_leave (V := σ) ⟨by omega, by omega⟩ hSd hG (fun ρ9 R9 => ?_)
  have hp : RB S0 ρ9 := RB.mk (ρ1 := ρ2) h01 hG1 ed R9 (fun c x y _ _ _ => by rw [e1])
  refine r_pop hC dL_law_575 rfl ?_
  refine r_goto (tgt := 2215) hC dL_law_576 rfl ?_
  refine r_iincE hC (i + 6) dL_law_2215 rfl rfl (by omega) (by unfold inR; omega) ?_
  refine r_goto (tgt := 18) hC dL_law_2218 rfl ?_
  exact ih _ hp
theorem law_c9 {K : Nat → Lc → List Vl → Mm → Prop} {d : Nat} {S0 : Int → Int → Int} {σ : Mm} {i : Int} (hM : StpZ eT cL_law RL (WT eT (d + 11)) (KA eT K)) (h0 : 0 ≤ i) (h6 : i + 6 ≤ S0 0 (-1)) (hN : S0 0 (-1) ≤ 3072) (hR : RB S0 σ) (ih : ∀ ρ : Mm, RB S0 ρ → KA eT K 18 [some (vR 0 0), some (vR 2 0), some (vR 30 0), some (vI (i + 6))] [] ρ) : KA eT K 579 [some (vR 0 0), some (vR 2 0), some (vR 30 0), some (vI i)] [] σ := by
  have hC := hM.1
  have hG := hR.2.1
  refine r_aload_n hC dL_law_579 rfl ?_
  refine r_aload_n hC dL_law_580 rfl ?_
  refine r_iload_n hC dL_law_581 rfl ?_
  refine r_iconst hC dL_law_582 rfl ?_
  refine r_iaddE hC ((i + 1)) dL_law_583 (by omega) (by unfold inR; omega) ?_
  refine z_sald hM dL_law_584 (by omega) (by rw [hR.1 0 (-1)]; omega) ?_
  rw [hR.1 0 (i + 1)]
  refine r_aload_n hC dL_law_585 rfl ?_
  refine r_iload_n hC dL_law_586 rfl ?_
  refine r_iconst hC dL_law_587 rfl ?_
  refine r_iaddE hC ((i + 2)) dL_law_588 (by omega) (by unfold inR; omega) ?_
  refine z_sald hM dL_law_589 (by omega) (by rw [hR.1 0 (-1)]; omega) ?_
  rw [hR.1 0 (i + 2)]
  refine z_inv2 hM dL_law_590 vl_RL_56 rfl rfl rfl (Nat.le_of_ble_eq_true rfl) (Nat.le_of_ble_eq_true rfl) ?_
  refine x_until hG.1 ?_
  obtain ⟨ρ2, e1⟩ : ∃ z : Mm, z = unM σ ((S0 0 (i + 1))) ((S0 0 (i + 2))) := ⟨_, rfl⟩
  rw [← e1]
  have hG1 : GI ρ2 := by rw [e1]; exact hG.un _ _
  have f1 : ∀ (c : Nat) (x y : Int), Fz c → ρ2 c x y = σ c x y := fun c x y q => by rw [e1]; exact un_fz q
  have h01 : ∀ i j : Int, ρ2 0 i j = S0 i j := fun i j => (f1 0 i j (Or.inl rfl)).trans (hR.1 i j)
  have hS1 : RS 6 ρ2 σ ρ2 := hR.2.2.cl (fun c x y q => f1 c x y (Or.inr q))
  refine r_pop hC dL_law_593 rfl ?_
  refine r_aload_n hC dL_law_594 rfl ?_
  refine r_aload_n hC dL_law_595 rfl ?_
  refine r_iload_n hC dL_law_596 rfl ?_
  refine r_iconst hC dL_law_597 rfl ?_
  refine r_iaddE hC ((i + 1)) dL_law_598 (by omega) (by unfold inR; omega) ?_
  refine z_sald hM dL_law_599 (by omega) (by rw [h01 0 (-1)]; omega) ?_
  rw [h01 0 (i + 1)]
  refine r_aload_n hC dL_law_600 rfl ?_
  refine r_iload_n hC dL_law_601 rfl ?_
  refine r_iconst hC dL_law_602 rfl ?_
  refine r_iaddE hC ((i + 2)) dL_law_603 (by omega) (by unfold inR; omega) ?_
  refine z_sald hM dL_law_604 (by omega) (by rw [h01 0 (-1)]; omega) ?_
  rw [h01 0 (i + 2)]
  refine z_inv2 hM dL_law_605 vl_RL_59 rfl rfl rfl (Nat.le_of_ble_eq_true rfl) (Nat.le_of_ble_eq_true rfl) ?_
  refine WT_dn (fun ρd ed => ?_)
  have hSd : RS 6 ρd σ ρd := hS1.tk ed
  refine y_until (V := σ) ⟨by omega, by omega⟩ hSd hG (fun ρ9 R9 => ?_)
  have hp : RB S0 ρ9 := RB.mk (ρ1 := ρ2) h01 hG1 ed R9 (fun c x y _ _ _ => by rw [e1])
  refine r_pop hC dL_law_608 rfl ?_
  refine r_goto (tgt := 2215) hC dL_law_609 rfl ?_
  refine r_iincE hC (i + 6) dL_law_2215 rfl rfl (by omega) (by unfold inR; omega) ?_
  refine r_goto (tgt := 18) hC dL_law_2218 rfl ?_
  exact ih _ hp
theorem law_c10 {K : Nat → Lc → List Vl → Mm → Prop} {d : Nat} {S0 : Int → Int → Int} {σ : Mm} {i : Int} (hM : StpZ eT cL_law RL (WT eT (d + 11)) (KA eT K)) (h0 : 0 ≤ i) (h6 : i + 6 ≤ S0 0 (-1)) (hN : S0 0 (-1) ≤ 3072) (hR : RB S0 σ) (ih : ∀ ρ : Mm, RB S0 ρ → KA eT K 18 [some (vR 0 0), some (vR 2 0), some (vR 30 0), some (vI (i + 6))] [] ρ) : KA eT K 612 [some (vR 0 0), some (vR 2 0), some (vR 30 0), some (vI i)] [] σ := by
  have hC := hM.1
  have hG := hR.2.1
  refine r_aload_n hC dL_law_612 rfl ?_
  refine r_aload_n hC dL_law_613 rfl ?_
  refine r_iload_n hC dL_law_614 rfl ?_
  refine r_iconst hC dL_law_615 rfl ?_
  refine r_iaddE hC ((i + 1)) dL_law_616 (by omega) (by unfold inR; omega) ?_
  refine z_sald hM dL_law_617 (by omega) (by rw [hR.1 0 (-1)]; omega) ?_
  rw [hR.1 0 (i + 1)]
  refine r_aload_n hC dL_law_618 rfl ?_
  refine r_iload_n hC dL_law_619 rfl ?_
  refine r_iconst hC dL_law_620 rfl ?_
  refine r_iaddE hC ((i + 2)) dL_law_621 (by omega) (by unfold inR; omega) ?_
  refine z_sald hM dL_law_622 (by omega) (by rw [hR.1 0 (-1)]; omega) ?_
  rw [hR.1 0 (i + 2)]
  refine z_inv2 hM dL_law_623 vl_RL_60 rfl rfl rfl (Nat.le_of_ble_eq_true rfl) (Nat.le_of_ble_eq_true rfl) ?_
  refine x_take hG.1 ?_
  obtain ⟨ρ2, e1⟩ : ∃ z : Mm, z = taM σ ((S0 0 (i + 1))) ((S0 0 (i + 2))) := ⟨_, rfl⟩
  rw [← e1]
  have hG1 : GI ρ2 := by rw [e1]; exact hG.ta _ _
  have f1 : ∀ (c : Nat) (x y : Int), Fz c → ρ2 c x y = σ c x y := fun c x y q => by rw [e1]; exact ta_fz q
  have h01 : ∀ i j : Int, ρ2 0 i j = S0 i j := fun i j => (f1 0 i j (Or.inl rfl)).trans (hR.1 i j)
  have hS1 : RS 6 ρ2 σ ρ2 := hR.2.2.cl (fun c x y q => f1 c x y (Or.inr q))
  refine r_pop hC dL_law_626 rfl ?_
  refine r_aload_n hC dL_law_627 rfl ?_
  refine r_aload_n hC dL_law_628 rfl ?_
  refine r_iload_n hC dL_law_629 rfl ?_
  refine r_iconst hC dL_law_630 rfl ?_
  refine r_iaddE hC ((i + 1)) dL_law_631 (by omega) (by unfold inR; omega) ?_
  refine z_sald hM dL_law_632 (by omega) (by rw [h01 0 (-1)]; omega) ?_
  rw [h01 0 (i + 1)]
  refine r_aload_n hC dL_law_633 rfl ?_
  refine r_iload_n hC dL_law_634 rfl ?_
  refine r_iconst hC dL_law_635 rfl ?_
  refine r_iaddE hC ((i + 2)) dL_law_636 (by omega) (by unfold inR; omega) ?_
  refine z_sald hM dL_law_637 (by omega) (by rw [h01 0 (-1)]; omega) ?_
  rw [h01 0 (i + 2)]
  refine z_inv2 hM dL_law_638 vl_RL_63 rfl rfl rfl (Nat.le_of_ble_eq_true rfl) (Nat.le_of_ble_eq_true rfl) ?_
  refine WT_dn (fun ρd ed => ?_)
  have hSd : RS 6 ρd σ ρd := hS1.tk ed
  refine y_take (V := σ) ⟨by omega, by omega⟩ hSd hG (fun ρ9 R9 => ?_)
  have hp : RB S0 ρ9 := RB.mk (ρ1 := ρ2) h01 hG1 ed R9 (fun c x y _ _ _ => by rw [e1])
  refine r_pop hC dL_law_641 rfl ?_
  refine r_goto (tgt := 2215) hC dL_law_642 rfl ?_
  refine r_iincE hC (i + 6) dL_law_2215 rfl rfl (by omega) (by unfold inR; omega) ?_
  refine r_goto (tgt := 18) hC dL_law_2218 rfl ?_
  exact ih _ hp
theorem law_c11 {K : Nat → Lc → List Vl → Mm → Prop} {d : Nat} {S0 : Int → Int → Int} {σ : Mm} {i : Int} (hM : StpZ eT cL_law RL (WT eT (d + 11)) (KA eT K)) (h0 : 0 ≤ i) (h6 : i + 6 ≤ S0 0 (-1)) (hN : S0 0 (-1) ≤ 3072) (hR : RB S0 σ) (ih : ∀ ρ : Mm, RB S0 ρ → KA eT K 18 [some (vR 0 0), some (vR 2 0), some (vR 30 0), some (vI (i + 6))] [] ρ) : KA eT K 645 [some (vR 0 0), some (vR 2 0), some (vR 30 0), some (vI i)] [] σ := by
  have hC := hM.1
  have hG := hR.2.1
  refine r_aload_n hC dL_law_645 rfl ?_
  refine r_aload_n hC dL_law_646 rfl ?_
  refine r_iload_n hC dL_law_647 rfl ?_
  refine r_iconst hC dL_law_648 rfl ?_
  refine r_iaddE hC ((i + 1)) dL_law_649 (by omega) (by unfold inR; omega) ?_
  refine z_sald hM dL_law_650 (by omega) (by rw [hR.1 0 (-1)]; omega) ?_
  rw [hR.1 0 (i + 1)]
  refine r_aload_n hC dL_law_651 rfl ?_
  refine r_iload_n hC dL_law_652 rfl ?_
  refine r_iconst hC dL_law_653 rfl ?_
  refine r_iaddE hC ((i + 2)) dL_law_654 (by omega) (by unfold inR; omega) ?_
  refine z_sald hM dL_law_655 (by omega) (by rw [hR.1 0 (-1)]; omega) ?_
  rw [hR.1 0 (i + 2)]
  refine r_aload_n hC dL_law_656 rfl ?_
  refine r_iload_n hC dL_law_657 rfl ?_
  refine r_iconst hC dL_law_658 rfl ?_
  refine r_iaddE hC ((i + 3)) dL_law_659 (by omega) (by unfold inR; omega) ?_
  refine z_sald hM dL_law_660 (by omega) (by rw [hR.1 0 (-1)]; omega) ?_
  rw [hR.1 0 (i + 3)]
  refine z_inv3 hM dL_law_661 vl_RL_64 rfl rfl rfl (Nat.le_of_ble_eq_true rfl) (Nat.le_of_ble_eq_true rfl) ?_
  refine x_alter hG.1 ?_
  obtain ⟨ρ2, e1⟩ : ∃ z : Mm, z = alM σ ((S0 0 (i + 1))) ((S0 0 (i + 2))) ((S0 0 (i + 3))) := ⟨_, rfl⟩
  rw [← e1]
  have hG1 : GI ρ2 := by rw [e1]; exact hG.al _ _ _
  have f1 : ∀ (c : Nat) (x y : Int), Fz c → ρ2 c x y = σ c x y := fun c x y q => by rw [e1]; exact al_fz q
  have h01 : ∀ i j : Int, ρ2 0 i j = S0 i j := fun i j => (f1 0 i j (Or.inl rfl)).trans (hR.1 i j)
  have hS1 : RS 6 ρ2 σ ρ2 := hR.2.2.cl (fun c x y q => f1 c x y (Or.inr q))
  refine r_pop hC dL_law_664 rfl ?_
  refine r_aload_n hC dL_law_665 rfl ?_
  refine r_aload_n hC dL_law_666 rfl ?_
  refine r_iload_n hC dL_law_667 rfl ?_
  refine r_iconst hC dL_law_668 rfl ?_
  refine r_iaddE hC ((i + 1)) dL_law_669 (by omega) (by unfold inR; omega) ?_
  refine z_sald hM dL_law_670 (by omega) (by rw [h01 0 (-1)]; omega) ?_
  rw [h01 0 (i + 1)]
  refine r_aload_n hC dL_law_671 rfl ?_
  refine r_iload_n hC dL_law_672 rfl ?_
  refine r_iconst hC dL_law_673 rfl ?_
  refine r_iaddE hC ((i + 2)) dL_law_674 (by omega) (by unfold inR; omega) ?_
  refine z_sald hM dL_law_675 (by omega) (by rw [h01 0 (-1)]; omega) ?_
  rw [h01 0 (i + 2)]
  refine r_aload_n hC dL_law_676 rfl ?_
  refine r_iload_n hC dL_law_677 rfl ?_
  refine r_iconst hC dL_law_678 rfl ?_
  refine r_iaddE hC ((i + 3)) dL_law_679 (by omega) (by unfold inR; omega) ?_
  refine z_sald hM dL_law_680 (by omega) (by rw [h01 0 (-1)]; omega) ?_
  rw [h01 0 (i + 3)]
  refine z_inv3 hM dL_law_681 vl_RL_68 rfl rfl rfl (Nat.le_of_ble_eq_true rfl) (Nat.le_of_ble_eq_true rfl) ?_
  refine WT_dn (fun ρd ed => ?_)
  have hSd : RS 6 ρd σ ρd := hS1.tk ed
  refine y_alter (V := σ) ⟨by omega, by omega⟩ hSd hG (fun ρ9 R9 => ?_)
  have hp : RB S0 ρ9 := RB.mk (ρ1 := ρ2) h01 hG1 ed R9 (fun c x y _ _ _ => by rw [e1])
  refine r_pop hC dL_law_684 rfl ?_
  refine r_goto (tgt := 2215) hC dL_law_685 rfl ?_
  refine r_iincE hC (i + 6) dL_law_2215 rfl rfl (by omega) (by unfold inR; omega) ?_
  refine r_goto (tgt := 18) hC dL_law_2218 rfl ?_
  exact ih _ hp
theorem law_c12 {K : Nat → Lc → List Vl → Mm → Prop} {d : Nat} {S0 : Int → Int → Int} {σ : Mm} {i : Int} (hM : StpZ eT cL_law RL (WT eT (d + 11)) (KA eT K)) (h0 : 0 ≤ i) (h6 : i + 6 ≤ S0 0 (-1)) (hN : S0 0 (-1) ≤ 3072) (hR : RB S0 σ) (ih : ∀ ρ : Mm, RB S0 ρ → KA eT K 18 [some (vR 0 0), some (vR 2 0), some (vR 30 0), some (vI (i + 6))] [] ρ) : KA eT K 688 [some (vR 0 0), some (vR 2 0), some (vR 30 0), some (vI i)] [] σ := by
  have hC := hM.1
  have hG := hR.2.1
  refine r_aload_n hC dL_law_688 rfl ?_
  refine r_aload_n hC dL_law_689 rfl ?_
  refine r_iload_n hC dL_law_690 rfl ?_
  refine r_iconst hC dL_law_691 rfl ?_
  refine r_iaddE hC ((i + 1)) dL_law_692 (by omega) (by unfold inR; omega) ?_
  refine z_sald hM dL_law_693 (by omega) (by rw [hR.1 0 (-1)]; omega) ?_
  rw [hR.1 0 (i + 1)]
  refine r_aload_n hC dL_law_694 rfl ?_
  refine r_iload_n hC dL_law_695 rfl ?_
  refine r_iconst hC dL_law_696 rfl ?_
  refine r_iaddE hC ((i + 2)) dL_law_697 (by omega) (by unfold inR; omega) ?_
  refine z_sald hM dL_law_698 (by omega) (by rw [hR.1 0 (-1)]; omega) ?_
  rw [hR.1 0 (i + 2)]
  refine r_aload_n hC dL_law_699 rfl ?_
  refine r_iload_n hC dL_law_700 rfl ?_
  refine r_iconst hC dL_law_701 rfl ?_
  refine r_iaddE hC ((i + 3)) dL_law_702 (by omega) (by unfold inR; omega) ?_
  refine z_sald hM dL_law_703 (by omega) (by rw [hR.1 0 (-1)]; omega) ?_
  rw [hR.1 0 (i + 3)]
  refine z_inv3 hM dL_law_704 vl_RL_69 rfl rfl rfl (Nat.le_of_ble_eq_true rfl) (Nat.le_of_ble_eq_true rfl) ?_
  refine qs_event (fun r1 h_r1 => ?_)
  refine r_pop hC dL_law_707 rfl ?_
  refine r_aload_n hC dL_law_708 rfl ?_
  refine r_aload_n hC dL_law_709 rfl ?_
  refine r_iload_n hC dL_law_710 rfl ?_
  refine r_iconst hC dL_law_711 rfl ?_
  refine r_iaddE hC ((i + 1)) dL_law_712 (by omega) (by unfold inR; omega) ?_
  refine z_sald hM dL_law_713 (by omega) (by rw [hR.1 0 (-1)]; omega) ?_
  rw [hR.1 0 (i + 1)]
  refine r_aload_n hC dL_law_714 rfl ?_
  refine r_iload_n hC dL_law_715 rfl ?_
  refine r_iconst hC dL_law_716 rfl ?_
  refine r_iaddE hC ((i + 2)) dL_law_717 (by omega) (by unfold inR; omega) ?_
  refine z_sald hM dL_law_718 (by omega) (by rw [hR.1 0 (-1)]; omega) ?_
  rw [hR.1 0 (i + 2)]
  refine r_aload_n hC dL_law_719 rfl ?_
  refine r_iload_n hC dL_law_720 rfl ?_
  refine r_iconst hC dL_law_721 rfl ?_
  refine r_iaddE hC ((i + 3)) dL_law_722 (by omega) (by unfold inR; omega) ?_
  refine z_sald hM dL_law_723 (by omega) (by rw [hR.1 0 (-1)]; omega) ?_
  rw [hR.1 0 (i + 3)]
  refine z_inv3 hM dL_law_724 vl_RL_72 rfl rfl rfl (Nat.le_of_ble_eq_true rfl) (Nat.le_of_ble_eq_true rfl) ?_
  refine WT_q (qm_event (fun r2 h_r2 => ?_))
  refine r_pop hC dL_law_727 rfl ?_
  refine r_goto (tgt := 2215) hC dL_law_728 rfl ?_
  refine r_iincE hC (i + 6) dL_law_2215 rfl rfl (by omega) (by unfold inR; omega) ?_
  refine r_goto (tgt := 18) hC dL_law_2218 rfl ?_
  exact ih _ hR
theorem law_c13 {K : Nat → Lc → List Vl → Mm → Prop} {d : Nat} {S0 : Int → Int → Int} {σ : Mm} {i : Int} (hM : StpZ eT cL_law RL (WT eT (d + 11)) (KA eT K)) (h0 : 0 ≤ i) (h6 : i + 6 ≤ S0 0 (-1)) (hN : S0 0 (-1) ≤ 3072) (hR : RB S0 σ) (ih : ∀ ρ : Mm, RB S0 ρ → KA eT K 18 [some (vR 0 0), some (vR 2 0), some (vR 30 0), some (vI (i + 6))] [] ρ) : KA eT K 731 [some (vR 0 0), some (vR 2 0), some (vR 30 0), some (vI i)] [] σ := by
  have hC := hM.1
  have hG := hR.2.1
  refine r_aload_n hC dL_law_731 rfl ?_
  refine r_aload_n hC dL_law_732 rfl ?_
  refine r_iload_n hC dL_law_733 rfl ?_
  refine r_iconst hC dL_law_734 rfl ?_
  refine r_iaddE hC ((i + 1)) dL_law_735 (by omega) (by unfold inR; omega) ?_
  refine z_sald hM dL_law_736 (by omega) (by rw [hR.1 0 (-1)]; omega) ?_
  rw [hR.1 0 (i + 1)]
  refine r_aload_n hC dL_law_737 rfl ?_
  refine r_iload_n hC dL_law_738 rfl ?_
  refine r_iconst hC dL_law_739 rfl ?_
  refine r_iaddE hC ((i + 2)) dL_law_740 (by omega) (by unfold inR; omega) ?_
  refine z_sald hM dL_law_741 (by omega) (by rw [hR.1 0 (-1)]; omega) ?_
  rw [hR.1 0 (i + 2)]
  refine z_inv2 hM dL_law_742 vl_RL_73 rfl rfl rfl (Nat.le_of_ble_eq_true rfl) (Nat.le_of_ble_eq_true rfl) ?_
  refine WT_q (qs_total (fun r1 h_r1 => ?_))
  refine r_pop hC dL_law_745 rfl ?_
  refine r_aload_n hC dL_law_746 rfl ?_
  refine r_aload_n hC dL_law_747 rfl ?_
  refine r_iload_n hC dL_law_748 rfl ?_
  refine r_iconst hC dL_law_749 rfl ?_
  refine r_iaddE hC ((i + 1)) dL_law_750 (by omega) (by unfold inR; omega) ?_
  refine z_sald hM dL_law_751 (by omega) (by rw [hR.1 0 (-1)]; omega) ?_
  rw [hR.1 0 (i + 1)]
  refine r_aload_n hC dL_law_752 rfl ?_
  refine r_iload_n hC dL_law_753 rfl ?_
  refine r_iconst hC dL_law_754 rfl ?_
  refine r_iaddE hC ((i + 2)) dL_law_755 (by omega) (by unfold inR; omega) ?_
  refine z_sald hM dL_law_756 (by omega) (by rw [hR.1 0 (-1)]; omega) ?_
  rw [hR.1 0 (i + 2)]
  refine z_inv2 hM dL_law_757 vl_RL_76 rfl rfl rfl (Nat.le_of_ble_eq_true rfl) (Nat.le_of_ble_eq_true rfl) ?_
  refine WT_q (qm_total (fun r2 h_r2 => ?_))
  refine r_pop hC dL_law_760 rfl ?_
  refine r_goto (tgt := 2215) hC dL_law_761 rfl ?_
  refine r_iincE hC (i + 6) dL_law_2215 rfl rfl (by omega) (by unfold inR; omega) ?_
  refine r_goto (tgt := 18) hC dL_law_2218 rfl ?_
  exact ih _ hR
theorem law_c14 {K : Nat → Lc → List Vl → Mm → Prop} {d : Nat} {S0 : Int → Int → Int} {σ : Mm} {i : Int} (hM : StpZ eT cL_law RL (WT eT (d + 11)) (KA eT K)) (h0 : 0 ≤ i) (h6 : i + 6 ≤ S0 0 (-1)) (hN : S0 0 (-1) ≤ 3072) (hR : RB S0 σ) (ih : ∀ ρ : Mm, RB S0 ρ → KA eT K 18 [some (vR 0 0), some (vR 2 0), some (vR 30 0), some (vI (i + 6))] [] ρ) : KA eT K 764 [some (vR 0 0), some (vR 2 0), some (vR 30 0), some (vI i)] [] σ := by
  have hC := hM.1
  have hG := hR.2.1
  refine r_aload_n hC dL_law_764 rfl ?_
  refine r_aload_n hC dL_law_765 rfl ?_
  refine r_iload_n hC dL_law_766 rfl ?_
  refine r_iconst hC dL_law_767 rfl ?_
  refine r_iaddE hC ((i + 1)) dL_law_768 (by omega) (by unfold inR; omega) ?_
  refine z_sald hM dL_law_769 (by omega) (by rw [hR.1 0 (-1)]; omega) ?_
  rw [hR.1 0 (i + 1)]
  refine r_aload_n hC dL_law_770 rfl ?_
  refine r_iload_n hC dL_law_771 rfl ?_
  refine r_iconst hC dL_law_772 rfl ?_
  refine r_iaddE hC ((i + 2)) dL_law_773 (by omega) (by unfold inR; omega) ?_
  refine z_sald hM dL_law_774 (by omega) (by rw [hR.1 0 (-1)]; omega) ?_
  rw [hR.1 0 (i + 2)]
  refine r_aload_n hC dL_law_775 rfl ?_
  refine r_iload_n hC dL_law_776 rfl ?_
  refine r_iconst hC dL_law_777 rfl ?_
  refine r_iaddE hC ((i + 3)) dL_law_778 (by omega) (by unfold inR; omega) ?_
  refine z_sald hM dL_law_779 (by omega) (by rw [hR.1 0 (-1)]; omega) ?_
  rw [hR.1 0 (i + 3)]
  refine r_aload_n hC dL_law_780 rfl ?_
  refine r_iload_n hC dL_law_781 rfl ?_
  refine r_iconst hC dL_law_782 rfl ?_
  refine r_iaddE hC ((i + 4)) dL_law_783 (by omega) (by unfold inR; omega) ?_
  refine z_sald hM dL_law_784 (by omega) (by rw [hR.1 0 (-1)]; omega) ?_
  rw [hR.1 0 (i + 4)]
  refine z_inv4 hM dL_law_785 vl_RL_77 rfl rfl rfl (Nat.le_of_ble_eq_true rfl) (Nat.le_of_ble_eq_true rfl) ?_
  refine WT_q (qs_part (fun r1 h_r1 => ?_))
  refine r_pop hC dL_law_788 rfl ?_
  refine r_aload_n hC dL_law_789 rfl ?_
  refine r_aload_n hC dL_law_790 rfl ?_
  refine r_iload_n hC dL_law_791 rfl ?_
  refine r_iconst hC dL_law_792 rfl ?_
  refine r_iaddE hC ((i + 1)) dL_law_793 (by omega) (by unfold inR; omega) ?_
  refine z_sald hM dL_law_794 (by omega) (by rw [hR.1 0 (-1)]; omega) ?_
  rw [hR.1 0 (i + 1)]
  refine r_aload_n hC dL_law_795 rfl ?_
  refine r_iload_n hC dL_law_796 rfl ?_
  refine r_iconst hC dL_law_797 rfl ?_
  refine r_iaddE hC ((i + 2)) dL_law_798 (by omega) (by unfold inR; omega) ?_
  refine z_sald hM dL_law_799 (by omega) (by rw [hR.1 0 (-1)]; omega) ?_
  rw [hR.1 0 (i + 2)]
  refine r_aload_n hC dL_law_800 rfl ?_
  refine r_iload_n hC dL_law_801 rfl ?_
  refine r_iconst hC dL_law_802 rfl ?_
  refine r_iaddE hC ((i + 3)) dL_law_803 (by omega) (by unfold inR; omega) ?_
  refine z_sald hM dL_law_804 (by omega) (by rw [hR.1 0 (-1)]; omega) ?_
  rw [hR.1 0 (i + 3)]
  refine r_aload_n hC dL_law_805 rfl ?_
  refine r_iload_n hC dL_law_806 rfl ?_
  refine r_iconst hC dL_law_807 rfl ?_
  refine r_iaddE hC ((i + 4)) dL_law_808 (by omega) (by unfold inR; omega) ?_
  refine z_sald hM dL_law_809 (by omega) (by rw [hR.1 0 (-1)]; omega) ?_
  rw [hR.1 0 (i + 4)]
  refine z_inv4 hM dL_law_810 vl_RL_80 rfl rfl rfl (Nat.le_of_ble_eq_true rfl) (Nat.le_of_ble_eq_true rfl) ?_
  refine WT_q (qm_part (fun r2 h_r2 => ?_))
  refine r_pop hC dL_law_813 rfl ?_
  refine r_goto (tgt := 2215) hC dL_law_814 rfl ?_
  refine r_iincE hC (i + 6) dL_law_2215 rfl rfl (by omega) (by unfold inR; omega) ?_
  refine r_goto (tgt := 18) hC dL_law_2218 rfl ?_
  exact ih _ hR
theorem law_c15 {K : Nat → Lc → List Vl → Mm → Prop} {d : Nat} {S0 : Int → Int → Int} {σ : Mm} {i : Int} (hM : StpZ eT cL_law RL (WT eT (d + 11)) (KA eT K)) (h0 : 0 ≤ i) (h6 : i + 6 ≤ S0 0 (-1)) (hN : S0 0 (-1) ≤ 3072) (hR : RB S0 σ) (ih : ∀ ρ : Mm, RB S0 ρ → KA eT K 18 [some (vR 0 0), some (vR 2 0), some (vR 30 0), some (vI (i + 6))] [] ρ) : KA eT K 817 [some (vR 0 0), some (vR 2 0), some (vR 30 0), some (vI i)] [] σ := by
  have hC := hM.1
  have hG := hR.2.1
  refine r_aload_n hC dL_law_817 rfl ?_
  refine r_aload_n hC dL_law_818 rfl ?_
  refine r_iload_n hC dL_law_819 rfl ?_
  refine r_iconst hC dL_law_820 rfl ?_
  refine r_iaddE hC ((i + 1)) dL_law_821 (by omega) (by unfold inR; omega) ?_
  refine z_sald hM dL_law_822 (by omega) (by rw [hR.1 0 (-1)]; omega) ?_
  rw [hR.1 0 (i + 1)]
  refine r_aload_n hC dL_law_823 rfl ?_
  refine r_iload_n hC dL_law_824 rfl ?_
  refine r_iconst hC dL_law_825 rfl ?_
  refine r_iaddE hC ((i + 2)) dL_law_826 (by omega) (by unfold inR; omega) ?_
  refine z_sald hM dL_law_827 (by omega) (by rw [hR.1 0 (-1)]; omega) ?_
  rw [hR.1 0 (i + 2)]
  refine r_aload_n hC dL_law_828 rfl ?_
  refine r_iload_n hC dL_law_829 rfl ?_
  refine r_iconst hC dL_law_830 rfl ?_
  refine r_iaddE hC ((i + 3)) dL_law_831 (by omega) (by unfold inR; omega) ?_
  refine z_sald hM dL_law_832 (by omega) (by rw [hR.1 0 (-1)]; omega) ?_
  rw [hR.1 0 (i + 3)]
  refine r_aload_n hC dL_law_833 rfl ?_
  refine r_iload_n hC dL_law_834 rfl ?_
  refine r_iconst hC dL_law_835 rfl ?_
  refine r_iaddE hC ((i + 4)) dL_law_836 (by omega) (by unfold inR; omega) ?_
  refine z_sald hM dL_law_837 (by omega) (by rw [hR.1 0 (-1)]; omega) ?_
  rw [hR.1 0 (i + 4)]
  refine z_inv4 hM dL_law_838 vl_RL_81 rfl rfl rfl (Nat.le_of_ble_eq_true rfl) (Nat.le_of_ble_eq_true rfl) ?_
  refine WT_q (qs_during (fun r1 h_r1 => ?_))
  refine r_pop hC dL_law_841 rfl ?_
  refine r_aload_n hC dL_law_842 rfl ?_
  refine r_aload_n hC dL_law_843 rfl ?_
  refine r_iload_n hC dL_law_844 rfl ?_
  refine r_iconst hC dL_law_845 rfl ?_
  refine r_iaddE hC ((i + 1)) dL_law_846 (by omega) (by unfold inR; omega) ?_
  refine z_sald hM dL_law_847 (by omega) (by rw [hR.1 0 (-1)]; omega) ?_
  rw [hR.1 0 (i + 1)]
  refine r_aload_n hC dL_law_848 rfl ?_
  refine r_iload_n hC dL_law_849 rfl ?_
  refine r_iconst hC dL_law_850 rfl ?_
  refine r_iaddE hC ((i + 2)) dL_law_851 (by omega) (by unfold inR; omega) ?_
  refine z_sald hM dL_law_852 (by omega) (by rw [hR.1 0 (-1)]; omega) ?_
  rw [hR.1 0 (i + 2)]
  refine r_aload_n hC dL_law_853 rfl ?_
  refine r_iload_n hC dL_law_854 rfl ?_
  refine r_iconst hC dL_law_855 rfl ?_
  refine r_iaddE hC ((i + 3)) dL_law_856 (by omega) (by unfold inR; omega) ?_
  refine z_sald hM dL_law_857 (by omega) (by rw [hR.1 0 (-1)]; omega) ?_
  rw [hR.1 0 (i + 3)]
  refine r_aload_n hC dL_law_858 rfl ?_
  refine r_iload_n hC dL_law_859 rfl ?_
  refine r_iconst hC dL_law_860 rfl ?_
  refine r_iaddE hC ((i + 4)) dL_law_861 (by omega) (by unfold inR; omega) ?_
  refine z_sald hM dL_law_862 (by omega) (by rw [hR.1 0 (-1)]; omega) ?_
  rw [hR.1 0 (i + 4)]
  refine z_inv4 hM dL_law_863 vl_RL_84 rfl rfl rfl (Nat.le_of_ble_eq_true rfl) (Nat.le_of_ble_eq_true rfl) ?_
  refine WT_q (qm_during (fun r2 h_r2 => ?_))
  refine r_pop hC dL_law_866 rfl ?_
  refine r_goto (tgt := 2215) hC dL_law_867 rfl ?_
  refine r_iincE hC (i + 6) dL_law_2215 rfl rfl (by omega) (by unfold inR; omega) ?_
  refine r_goto (tgt := 18) hC dL_law_2218 rfl ?_
  exact ih _ hR
theorem law_c16 {K : Nat → Lc → List Vl → Mm → Prop} {d : Nat} {S0 : Int → Int → Int} {σ : Mm} {i : Int} (hM : StpZ eT cL_law RL (WT eT (d + 11)) (KA eT K)) (h0 : 0 ≤ i) (h6 : i + 6 ≤ S0 0 (-1)) (hN : S0 0 (-1) ≤ 3072) (hR : RB S0 σ) (ih : ∀ ρ : Mm, RB S0 ρ → KA eT K 18 [some (vR 0 0), some (vR 2 0), some (vR 30 0), some (vI (i + 6))] [] ρ) : KA eT K 870 [some (vR 0 0), some (vR 2 0), some (vR 30 0), some (vI i)] [] σ := by
  have hC := hM.1
  have hG := hR.2.1
  refine r_aload_n hC dL_law_870 rfl ?_
  refine r_aload_n hC dL_law_871 rfl ?_
  refine r_iload_n hC dL_law_872 rfl ?_
  refine r_iconst hC dL_law_873 rfl ?_
  refine r_iaddE hC ((i + 1)) dL_law_874 (by omega) (by unfold inR; omega) ?_
  refine z_sald hM dL_law_875 (by omega) (by rw [hR.1 0 (-1)]; omega) ?_
  rw [hR.1 0 (i + 1)]
  refine r_aload_n hC dL_law_876 rfl ?_
  refine r_iload_n hC dL_law_877 rfl ?_
  refine r_iconst hC dL_law_878 rfl ?_
  refine r_iaddE hC ((i + 2)) dL_law_879 (by omega) (by unfold inR; omega) ?_
  refine z_sald hM dL_law_880 (by omega) (by rw [hR.1 0 (-1)]; omega) ?_
  rw [hR.1 0 (i + 2)]
  refine r_aload_n hC dL_law_881 rfl ?_
  refine r_iload_n hC dL_law_882 rfl ?_
  refine r_iconst hC dL_law_883 rfl ?_
  refine r_iaddE hC ((i + 3)) dL_law_884 (by omega) (by unfold inR; omega) ?_
  refine z_sald hM dL_law_885 (by omega) (by rw [hR.1 0 (-1)]; omega) ?_
  rw [hR.1 0 (i + 3)]
  refine z_inv3 hM dL_law_886 vl_RL_85 rfl rfl rfl (Nat.le_of_ble_eq_true rfl) (Nat.le_of_ble_eq_true rfl) ?_
  refine qs_many (fun r1 h_r1 => ?_)
  refine r_pop hC dL_law_889 rfl ?_
  refine r_aload_n hC dL_law_890 rfl ?_
  refine r_aload_n hC dL_law_891 rfl ?_
  refine r_iload_n hC dL_law_892 rfl ?_
  refine r_iconst hC dL_law_893 rfl ?_
  refine r_iaddE hC ((i + 1)) dL_law_894 (by omega) (by unfold inR; omega) ?_
  refine z_sald hM dL_law_895 (by omega) (by rw [hR.1 0 (-1)]; omega) ?_
  rw [hR.1 0 (i + 1)]
  refine r_aload_n hC dL_law_896 rfl ?_
  refine r_iload_n hC dL_law_897 rfl ?_
  refine r_iconst hC dL_law_898 rfl ?_
  refine r_iaddE hC ((i + 2)) dL_law_899 (by omega) (by unfold inR; omega) ?_
  refine z_sald hM dL_law_900 (by omega) (by rw [hR.1 0 (-1)]; omega) ?_
  rw [hR.1 0 (i + 2)]
  refine r_aload_n hC dL_law_901 rfl ?_
  refine r_iload_n hC dL_law_902 rfl ?_
  refine r_iconst hC dL_law_903 rfl ?_
  refine r_iaddE hC ((i + 3)) dL_law_904 (by omega) (by unfold inR; omega) ?_
  refine z_sald hM dL_law_905 (by omega) (by rw [hR.1 0 (-1)]; omega) ?_
  rw [hR.1 0 (i + 3)]
  refine z_inv3 hM dL_law_906 vl_RL_88 rfl rfl rfl (Nat.le_of_ble_eq_true rfl) (Nat.le_of_ble_eq_true rfl) ?_
  refine WT_q (qm_many (fun r2 h_r2 => ?_))
  refine r_pop hC dL_law_909 rfl ?_
  refine r_goto (tgt := 2215) hC dL_law_910 rfl ?_
  refine r_iincE hC (i + 6) dL_law_2215 rfl rfl (by omega) (by unfold inR; omega) ?_
  refine r_goto (tgt := 18) hC dL_law_2218 rfl ?_
  exact ih _ hR
theorem law_c17 {K : Nat → Lc → List Vl → Mm → Prop} {d : Nat} {S0 : Int → Int → Int} {σ : Mm} {i : Int} (hM : StpZ eT cL_law RL (WT eT (d + 11)) (KA eT K)) (h0 : 0 ≤ i) (h6 : i + 6 ≤ S0 0 (-1)) (hN : S0 0 (-1) ≤ 3072) (hR : RB S0 σ) (ih : ∀ ρ : Mm, RB S0 ρ → KA eT K 18 [some (vR 0 0), some (vR 2 0), some (vR 30 0), some (vI (i + 6))] [] ρ) : KA eT K 913 [some (vR 0 0), some (vR 2 0), some (vR 30 0), some (vI i)] [] σ := by
  have hC := hM.1
  have hG := hR.2.1
  refine r_aload_n hC dL_law_913 rfl ?_
  refine r_aload_n hC dL_law_914 rfl ?_
  refine r_iload_n hC dL_law_915 rfl ?_
  refine r_iconst hC dL_law_916 rfl ?_
  refine r_iaddE hC ((i + 1)) dL_law_917 (by omega) (by unfold inR; omega) ?_
  refine z_sald hM dL_law_918 (by omega) (by rw [hR.1 0 (-1)]; omega) ?_
  rw [hR.1 0 (i + 1)]
  refine r_aload_n hC dL_law_919 rfl ?_
  refine r_iload_n hC dL_law_920 rfl ?_
  refine r_iconst hC dL_law_921 rfl ?_
  refine r_iaddE hC ((i + 2)) dL_law_922 (by omega) (by unfold inR; omega) ?_
  refine z_sald hM dL_law_923 (by omega) (by rw [hR.1 0 (-1)]; omega) ?_
  rw [hR.1 0 (i + 2)]
  refine r_aload_n hC dL_law_924 rfl ?_
  refine r_iload_n hC dL_law_925 rfl ?_
  refine r_iconst hC dL_law_926 rfl ?_
  refine r_iaddE hC ((i + 3)) dL_law_927 (by omega) (by unfold inR; omega) ?_
  refine z_sald hM dL_law_928 (by omega) (by rw [hR.1 0 (-1)]; omega) ?_
  rw [hR.1 0 (i + 3)]
  refine z_inv3 hM dL_law_929 vl_RL_89 rfl rfl rfl (Nat.le_of_ble_eq_true rfl) (Nat.le_of_ble_eq_true rfl) ?_
  refine WT_q (qs_reach (fun r1 h_r1 => ?_))
  refine r_pop hC dL_law_932 rfl ?_
  refine r_aload_n hC dL_law_933 rfl ?_
  refine r_aload_n hC dL_law_934 rfl ?_
  refine r_iload_n hC dL_law_935 rfl ?_
  refine r_iconst hC dL_law_936 rfl ?_
  refine r_iaddE hC ((i + 1)) dL_law_937 (by omega) (by unfold inR; omega) ?_
  refine z_sald hM dL_law_938 (by omega) (by rw [hR.1 0 (-1)]; omega) ?_
  rw [hR.1 0 (i + 1)]
  refine r_aload_n hC dL_law_939 rfl ?_
  refine r_iload_n hC dL_law_940 rfl ?_
  refine r_iconst hC dL_law_941 rfl ?_
  refine r_iaddE hC ((i + 2)) dL_law_942 (by omega) (by unfold inR; omega) ?_
  refine z_sald hM dL_law_943 (by omega) (by rw [hR.1 0 (-1)]; omega) ?_
  rw [hR.1 0 (i + 2)]
  refine r_aload_n hC dL_law_944 rfl ?_
  refine r_iload_n hC dL_law_945 rfl ?_
  refine r_iconst hC dL_law_946 rfl ?_
  refine r_iaddE hC ((i + 3)) dL_law_947 (by omega) (by unfold inR; omega) ?_
  refine z_sald hM dL_law_948 (by omega) (by rw [hR.1 0 (-1)]; omega) ?_
  rw [hR.1 0 (i + 3)]
  refine z_inv3 hM dL_law_949 vl_RL_92 rfl rfl rfl (Nat.le_of_ble_eq_true rfl) (Nat.le_of_ble_eq_true rfl) ?_
  refine WT_q (qm_reach (fun r2 h_r2 => ?_))
  refine r_pop hC dL_law_952 rfl ?_
  refine r_goto (tgt := 2215) hC dL_law_953 rfl ?_
  refine r_iincE hC (i + 6) dL_law_2215 rfl rfl (by omega) (by unfold inR; omega) ?_
  refine r_goto (tgt := 18) hC dL_law_2218 rfl ?_
  exact ih _ hR
theorem law_c18 {K : Nat → Lc → List Vl → Mm → Prop} {d : Nat} {S0 : Int → Int → Int} {σ : Mm} {i : Int} (hM : StpZ eT cL_law RL (WT eT (d + 11)) (KA eT K)) (h0 : 0 ≤ i) (h6 : i + 6 ≤ S0 0 (-1)) (hN : S0 0 (-1) ≤ 3072) (hR : RB S0 σ) (ih : ∀ ρ : Mm, RB S0 ρ → KA eT K 18 [some (vR 0 0), some (vR 2 0), some (vR 30 0), some (vI (i + 6))] [] ρ) : KA eT K 956 [some (vR 0 0), some (vR 2 0), some (vR 30 0), some (vI i)] [] σ := by
  have hC := hM.1
  have hG := hR.2.1
  refine r_aload_n hC dL_law_956 rfl ?_
  refine r_aload_n hC dL_law_957 rfl ?_
  refine r_iload_n hC dL_law_958 rfl ?_
  refine r_iconst hC dL_law_959 rfl ?_
  refine r_iaddE hC ((i + 1)) dL_law_960 (by omega) (by unfold inR; omega) ?_
  refine z_sald hM dL_law_961 (by omega) (by rw [hR.1 0 (-1)]; omega) ?_
  rw [hR.1 0 (i + 1)]
  refine r_aload_n hC dL_law_962 rfl ?_
  refine r_iload_n hC dL_law_963 rfl ?_
  refine r_iconst hC dL_law_964 rfl ?_
  refine r_iaddE hC ((i + 2)) dL_law_965 (by omega) (by unfold inR; omega) ?_
  refine z_sald hM dL_law_966 (by omega) (by rw [hR.1 0 (-1)]; omega) ?_
  rw [hR.1 0 (i + 2)]
  refine r_aload_n hC dL_law_967 rfl ?_
  refine r_iload_n hC dL_law_968 rfl ?_
  refine r_iconst hC dL_law_969 rfl ?_
  refine r_iaddE hC ((i + 3)) dL_law_970 (by omega) (by unfold inR; omega) ?_
  refine z_sald hM dL_law_971 (by omega) (by rw [hR.1 0 (-1)]; omega) ?_
  rw [hR.1 0 (i + 3)]
  refine z_inv3 hM dL_law_972 vl_RL_93 rfl rfl rfl (Nat.le_of_ble_eq_true rfl) (Nat.le_of_ble_eq_true rfl) ?_
  refine WT_q (qs_reachBack_S rfl hR.hl (fun r1 h_r1 => ?_))
  refine r_pop hC dL_law_975 rfl ?_
  refine r_aload_n hC dL_law_976 rfl ?_
  refine r_aload_n hC dL_law_977 rfl ?_
  refine r_iload_n hC dL_law_978 rfl ?_
  refine r_iconst hC dL_law_979 rfl ?_
  refine r_iaddE hC ((i + 1)) dL_law_980 (by omega) (by unfold inR; omega) ?_
  refine z_sald hM dL_law_981 (by omega) (by rw [hR.1 0 (-1)]; omega) ?_
  rw [hR.1 0 (i + 1)]
  refine r_aload_n hC dL_law_982 rfl ?_
  refine r_iload_n hC dL_law_983 rfl ?_
  refine r_iconst hC dL_law_984 rfl ?_
  refine r_iaddE hC ((i + 2)) dL_law_985 (by omega) (by unfold inR; omega) ?_
  refine z_sald hM dL_law_986 (by omega) (by rw [hR.1 0 (-1)]; omega) ?_
  rw [hR.1 0 (i + 2)]
  refine r_aload_n hC dL_law_987 rfl ?_
  refine r_iload_n hC dL_law_988 rfl ?_
  refine r_iconst hC dL_law_989 rfl ?_
  refine r_iaddE hC ((i + 3)) dL_law_990 (by omega) (by unfold inR; omega) ?_
  refine z_sald hM dL_law_991 (by omega) (by rw [hR.1 0 (-1)]; omega) ?_
  rw [hR.1 0 (i + 3)]
  refine z_inv3 hM dL_law_992 vl_RL_96 rfl rfl rfl (Nat.le_of_ble_eq_true rfl) (Nat.le_of_ble_eq_true rfl) ?_
  refine WT_q (qm_reachBack_S rfl hR.hm (fun r2 h_r2 => ?_))
  refine r_pop hC dL_law_995 rfl ?_
  refine r_goto (tgt := 2215) hC dL_law_996 rfl ?_
  refine r_iincE hC (i + 6) dL_law_2215 rfl rfl (by omega) (by unfold inR; omega) ?_
  refine r_goto (tgt := 18) hC dL_law_2218 rfl ?_
  exact ih _ hR
theorem law_c19 {K : Nat → Lc → List Vl → Mm → Prop} {d : Nat} {S0 : Int → Int → Int} {σ : Mm} {i : Int} (hM : StpZ eT cL_law RL (WT eT (d + 11)) (KA eT K)) (h0 : 0 ≤ i) (h6 : i + 6 ≤ S0 0 (-1)) (hN : S0 0 (-1) ≤ 3072) (hR : RB S0 σ) (ih : ∀ ρ : Mm, RB S0 ρ → KA eT K 18 [some (vR 0 0), some (vR 2 0), some (vR 30 0), some (vI (i + 6))] [] ρ) : KA eT K 999 [some (vR 0 0), some (vR 2 0), some (vR 30 0), some (vI i)] [] σ := by
  have hC := hM.1
  have hG := hR.2.1
  refine r_aload_n hC dL_law_999 rfl ?_
  refine r_aload_n hC dL_law_1000 rfl ?_
  refine r_iload_n hC dL_law_1001 rfl ?_
  refine r_iconst hC dL_law_1002 rfl ?_
  refine r_iaddE hC ((i + 1)) dL_law_1003 (by omega) (by unfold inR; omega) ?_
  refine z_sald hM dL_law_1004 (by omega) (by rw [hR.1 0 (-1)]; omega) ?_
  rw [hR.1 0 (i + 1)]
  refine r_aload_n hC dL_law_1005 rfl ?_
  refine r_iload_n hC dL_law_1006 rfl ?_
  refine r_iconst hC dL_law_1007 rfl ?_
  refine r_iaddE hC ((i + 2)) dL_law_1008 (by omega) (by unfold inR; omega) ?_
  refine z_sald hM dL_law_1009 (by omega) (by rw [hR.1 0 (-1)]; omega) ?_
  rw [hR.1 0 (i + 2)]
  refine r_aload_n hC dL_law_1010 rfl ?_
  refine r_iload_n hC dL_law_1011 rfl ?_
  refine r_iconst hC dL_law_1012 rfl ?_
  refine r_iaddE hC ((i + 3)) dL_law_1013 (by omega) (by unfold inR; omega) ?_
  refine z_sald hM dL_law_1014 (by omega) (by rw [hR.1 0 (-1)]; omega) ?_
  rw [hR.1 0 (i + 3)]
  refine z_inv3 hM dL_law_1015 vl_RL_97 rfl rfl rfl (Nat.le_of_ble_eq_true rfl) (Nat.le_of_ble_eq_true rfl) ?_
  refine WT_q (qs_peak (fun r1 h_r1 => ?_))
  refine r_pop hC dL_law_1018 rfl ?_
  refine r_aload_n hC dL_law_1019 rfl ?_
  refine r_aload_n hC dL_law_1020 rfl ?_
  refine r_iload_n hC dL_law_1021 rfl ?_
  refine r_iconst hC dL_law_1022 rfl ?_
  refine r_iaddE hC ((i + 1)) dL_law_1023 (by omega) (by unfold inR; omega) ?_
  refine z_sald hM dL_law_1024 (by omega) (by rw [hR.1 0 (-1)]; omega) ?_
  rw [hR.1 0 (i + 1)]
  refine r_aload_n hC dL_law_1025 rfl ?_
  refine r_iload_n hC dL_law_1026 rfl ?_
  refine r_iconst hC dL_law_1027 rfl ?_
  refine r_iaddE hC ((i + 2)) dL_law_1028 (by omega) (by unfold inR; omega) ?_
  refine z_sald hM dL_law_1029 (by omega) (by rw [hR.1 0 (-1)]; omega) ?_
  rw [hR.1 0 (i + 2)]
  refine r_aload_n hC dL_law_1030 rfl ?_
  refine r_iload_n hC dL_law_1031 rfl ?_
  refine r_iconst hC dL_law_1032 rfl ?_
  refine r_iaddE hC ((i + 3)) dL_law_1033 (by omega) (by unfold inR; omega) ?_
  refine z_sald hM dL_law_1034 (by omega) (by rw [hR.1 0 (-1)]; omega) ?_
  rw [hR.1 0 (i + 3)]
  refine z_inv3 hM dL_law_1035 vl_RL_100 rfl rfl rfl (Nat.le_of_ble_eq_true rfl) (Nat.le_of_ble_eq_true rfl) ?_
  refine WT_q (qm_peak (fun r2 h_r2 => ?_))
  refine r_pop hC dL_law_1038 rfl ?_
  refine r_goto (tgt := 2215) hC dL_law_1039 rfl ?_
  refine r_iincE hC (i + 6) dL_law_2215 rfl rfl (by omega) (by unfold inR; omega) ?_
  refine r_goto (tgt := 18) hC dL_law_2218 rfl ?_
  exact ih _ hR
theorem law_c20 {K : Nat → Lc → List Vl → Mm → Prop} {d : Nat} {S0 : Int → Int → Int} {σ : Mm} {i : Int} (hM : StpZ eT cL_law RL (WT eT (d + 11)) (KA eT K)) (h0 : 0 ≤ i) (h6 : i + 6 ≤ S0 0 (-1)) (hN : S0 0 (-1) ≤ 3072) (hR : RB S0 σ) (ih : ∀ ρ : Mm, RB S0 ρ → KA eT K 18 [some (vR 0 0), some (vR 2 0), some (vR 30 0), some (vI (i + 6))] [] ρ) : KA eT K 1042 [some (vR 0 0), some (vR 2 0), some (vR 30 0), some (vI i)] [] σ := by
  have hC := hM.1
  have hG := hR.2.1
  refine r_aload_n hC dL_law_1042 rfl ?_
  refine r_aload_n hC dL_law_1043 rfl ?_
  refine r_iload_n hC dL_law_1044 rfl ?_
  refine r_iconst hC dL_law_1045 rfl ?_
  refine r_iaddE hC ((i + 1)) dL_law_1046 (by omega) (by unfold inR; omega) ?_
  refine z_sald hM dL_law_1047 (by omega) (by rw [hR.1 0 (-1)]; omega) ?_
  rw [hR.1 0 (i + 1)]
  refine r_aload_n hC dL_law_1048 rfl ?_
  refine r_iload_n hC dL_law_1049 rfl ?_
  refine r_iconst hC dL_law_1050 rfl ?_
  refine r_iaddE hC ((i + 2)) dL_law_1051 (by omega) (by unfold inR; omega) ?_
  refine z_sald hM dL_law_1052 (by omega) (by rw [hR.1 0 (-1)]; omega) ?_
  rw [hR.1 0 (i + 2)]
  refine r_aload_n hC dL_law_1053 rfl ?_
  refine r_iload_n hC dL_law_1054 rfl ?_
  refine r_iconst hC dL_law_1055 rfl ?_
  refine r_iaddE hC ((i + 3)) dL_law_1056 (by omega) (by unfold inR; omega) ?_
  refine z_sald hM dL_law_1057 (by omega) (by rw [hR.1 0 (-1)]; omega) ?_
  rw [hR.1 0 (i + 3)]
  refine z_inv3 hM dL_law_1058 vl_RL_101 rfl rfl rfl (Nat.le_of_ble_eq_true rfl) (Nat.le_of_ble_eq_true rfl) ?_
  refine WT_q (qs_peakAt2 (fun r1 h_r1 => ?_))
  refine r_pop hC dL_law_1061 rfl ?_
  refine r_aload_n hC dL_law_1062 rfl ?_
  refine r_aload_n hC dL_law_1063 rfl ?_
  refine r_iload_n hC dL_law_1064 rfl ?_
  refine r_iconst hC dL_law_1065 rfl ?_
  refine r_iaddE hC ((i + 1)) dL_law_1066 (by omega) (by unfold inR; omega) ?_
  refine z_sald hM dL_law_1067 (by omega) (by rw [hR.1 0 (-1)]; omega) ?_
  rw [hR.1 0 (i + 1)]
  refine r_aload_n hC dL_law_1068 rfl ?_
  refine r_iload_n hC dL_law_1069 rfl ?_
  refine r_iconst hC dL_law_1070 rfl ?_
  refine r_iaddE hC ((i + 2)) dL_law_1071 (by omega) (by unfold inR; omega) ?_
  refine z_sald hM dL_law_1072 (by omega) (by rw [hR.1 0 (-1)]; omega) ?_
  rw [hR.1 0 (i + 2)]
  refine r_aload_n hC dL_law_1073 rfl ?_
  refine r_iload_n hC dL_law_1074 rfl ?_
  refine r_iconst hC dL_law_1075 rfl ?_
  refine r_iaddE hC ((i + 3)) dL_law_1076 (by omega) (by unfold inR; omega) ?_
  refine z_sald hM dL_law_1077 (by omega) (by rw [hR.1 0 (-1)]; omega) ?_
  rw [hR.1 0 (i + 3)]
  refine z_inv3 hM dL_law_1078 vl_RL_104 rfl rfl rfl (Nat.le_of_ble_eq_true rfl) (Nat.le_of_ble_eq_true rfl) ?_
  refine WT_q (qm_peakAt (fun r2 h_r2 => ?_))
  refine r_pop hC dL_law_1081 rfl ?_
  refine r_goto (tgt := 2215) hC dL_law_1082 rfl ?_
  refine r_iincE hC (i + 6) dL_law_2215 rfl rfl (by omega) (by unfold inR; omega) ?_
  refine r_goto (tgt := 18) hC dL_law_2218 rfl ?_
  exact ih _ hR
theorem law_c21 {K : Nat → Lc → List Vl → Mm → Prop} {d : Nat} {S0 : Int → Int → Int} {σ : Mm} {i : Int} (hM : StpZ eT cL_law RL (WT eT (d + 11)) (KA eT K)) (h0 : 0 ≤ i) (h6 : i + 6 ≤ S0 0 (-1)) (hN : S0 0 (-1) ≤ 3072) (hR : RB S0 σ) (ih : ∀ ρ : Mm, RB S0 ρ → KA eT K 18 [some (vR 0 0), some (vR 2 0), some (vR 30 0), some (vI (i + 6))] [] ρ) : KA eT K 1085 [some (vR 0 0), some (vR 2 0), some (vR 30 0), some (vI i)] [] σ := by
  have hC := hM.1
  have hG := hR.2.1
  refine r_aload_n hC dL_law_1085 rfl ?_
  refine r_aload_n hC dL_law_1086 rfl ?_
  refine r_iload_n hC dL_law_1087 rfl ?_
  refine r_iconst hC dL_law_1088 rfl ?_
  refine r_iaddE hC ((i + 1)) dL_law_1089 (by omega) (by unfold inR; omega) ?_
  refine z_sald hM dL_law_1090 (by omega) (by rw [hR.1 0 (-1)]; omega) ?_
  rw [hR.1 0 (i + 1)]
  refine r_aload_n hC dL_law_1091 rfl ?_
  refine r_iload_n hC dL_law_1092 rfl ?_
  refine r_iconst hC dL_law_1093 rfl ?_
  refine r_iaddE hC ((i + 2)) dL_law_1094 (by omega) (by unfold inR; omega) ?_
  refine z_sald hM dL_law_1095 (by omega) (by rw [hR.1 0 (-1)]; omega) ?_
  rw [hR.1 0 (i + 2)]
  refine r_aload_n hC dL_law_1096 rfl ?_
  refine r_iload_n hC dL_law_1097 rfl ?_
  refine r_iconst hC dL_law_1098 rfl ?_
  refine r_iaddE hC ((i + 3)) dL_law_1099 (by omega) (by unfold inR; omega) ?_
  refine z_sald hM dL_law_1100 (by omega) (by rw [hR.1 0 (-1)]; omega) ?_
  rw [hR.1 0 (i + 3)]
  refine z_inv3 hM dL_law_1101 vl_RL_105 rfl rfl rfl (Nat.le_of_ble_eq_true rfl) (Nat.le_of_ble_eq_true rfl) ?_
  refine WT_q (qs_without (fun r1 h_r1 => ?_))
  refine r_pop hC dL_law_1104 rfl ?_
  refine r_aload_n hC dL_law_1105 rfl ?_
  refine r_aload_n hC dL_law_1106 rfl ?_
  refine r_iload_n hC dL_law_1107 rfl ?_
  refine r_iconst hC dL_law_1108 rfl ?_
  refine r_iaddE hC ((i + 1)) dL_law_1109 (by omega) (by unfold inR; omega) ?_
  refine z_sald hM dL_law_1110 (by omega) (by rw [hR.1 0 (-1)]; omega) ?_
  rw [hR.1 0 (i + 1)]
  refine r_aload_n hC dL_law_1111 rfl ?_
  refine r_iload_n hC dL_law_1112 rfl ?_
  refine r_iconst hC dL_law_1113 rfl ?_
  refine r_iaddE hC ((i + 2)) dL_law_1114 (by omega) (by unfold inR; omega) ?_
  refine z_sald hM dL_law_1115 (by omega) (by rw [hR.1 0 (-1)]; omega) ?_
  rw [hR.1 0 (i + 2)]
  refine r_aload_n hC dL_law_1116 rfl ?_
  refine r_iload_n hC dL_law_1117 rfl ?_
  refine r_iconst hC dL_law_1118 rfl ?_
  refine r_iaddE hC ((i + 3)) dL_law_1119 (by omega) (by unfold inR; omega) ?_
  refine z_sald hM dL_law_1120 (by omega) (by rw [hR.1 0 (-1)]; omega) ?_
  rw [hR.1 0 (i + 3)]
  refine z_inv3 hM dL_law_1121 vl_RL_108 rfl rfl rfl (Nat.le_of_ble_eq_true rfl) (Nat.le_of_ble_eq_true rfl) ?_
  refine WT_q (qm_without (fun r2 h_r2 => ?_))
  refine r_pop hC dL_law_1124 rfl ?_
  refine r_goto (tgt := 2215) hC dL_law_1125 rfl ?_
  refine r_iincE hC (i + 6) dL_law_2215 rfl rfl (by omega) (by unfold inR; omega) ?_
  refine r_goto (tgt := 18) hC dL_law_2218 rfl ?_
  exact ih _ hR
theorem law_c22 {K : Nat → Lc → List Vl → Mm → Prop} {d : Nat} {S0 : Int → Int → Int} {σ : Mm} {i : Int} (hM : StpZ eT cL_law RL (WT eT (d + 11)) (KA eT K)) (h0 : 0 ≤ i) (h6 : i + 6 ≤ S0 0 (-1)) (hN : S0 0 (-1) ≤ 3072) (hR : RB S0 σ) (ih : ∀ ρ : Mm, RB S0 ρ → KA eT K 18 [some (vR 0 0), some (vR 2 0), some (vR 30 0), some (vI (i + 6))] [] ρ) : KA eT K 1128 [some (vR 0 0), some (vR 2 0), some (vR 30 0), some (vI i)] [] σ := by
  have hC := hM.1
  have hG := hR.2.1
  refine r_aload_n hC dL_law_1128 rfl ?_
  refine r_aload_n hC dL_law_1129 rfl ?_
  refine r_iload_n hC dL_law_1130 rfl ?_
  refine r_iconst hC dL_law_1131 rfl ?_
  refine r_iaddE hC ((i + 1)) dL_law_1132 (by omega) (by unfold inR; omega) ?_
  refine z_sald hM dL_law_1133 (by omega) (by rw [hR.1 0 (-1)]; omega) ?_
  rw [hR.1 0 (i + 1)]
  refine r_aload_n hC dL_law_1134 rfl ?_
  refine r_iload_n hC dL_law_1135 rfl ?_
  refine r_iconst hC dL_law_1136 rfl ?_
  refine r_iaddE hC ((i + 2)) dL_law_1137 (by omega) (by unfold inR; omega) ?_
  refine z_sald hM dL_law_1138 (by omega) (by rw [hR.1 0 (-1)]; omega) ?_
  rw [hR.1 0 (i + 2)]
  refine z_inv2 hM dL_law_1139 vl_RL_109 rfl rfl rfl (Nat.le_of_ble_eq_true rfl) (Nat.le_of_ble_eq_true rfl) ?_
  refine WT_q (qs_spare (fun r1 h_r1 => ?_))
  refine r_pop hC dL_law_1142 rfl ?_
  refine r_aload_n hC dL_law_1143 rfl ?_
  refine r_aload_n hC dL_law_1144 rfl ?_
  refine r_iload_n hC dL_law_1145 rfl ?_
  refine r_iconst hC dL_law_1146 rfl ?_
  refine r_iaddE hC ((i + 1)) dL_law_1147 (by omega) (by unfold inR; omega) ?_
  refine z_sald hM dL_law_1148 (by omega) (by rw [hR.1 0 (-1)]; omega) ?_
  rw [hR.1 0 (i + 1)]
  refine r_aload_n hC dL_law_1149 rfl ?_
  refine r_iload_n hC dL_law_1150 rfl ?_
  refine r_iconst hC dL_law_1151 rfl ?_
  refine r_iaddE hC ((i + 2)) dL_law_1152 (by omega) (by unfold inR; omega) ?_
  refine z_sald hM dL_law_1153 (by omega) (by rw [hR.1 0 (-1)]; omega) ?_
  rw [hR.1 0 (i + 2)]
  refine z_inv2 hM dL_law_1154 vl_RL_112 rfl rfl rfl (Nat.le_of_ble_eq_true rfl) (Nat.le_of_ble_eq_true rfl) ?_
  refine WT_q (qm_spare (fun r2 h_r2 => ?_))
  refine r_pop hC dL_law_1157 rfl ?_
  refine r_goto (tgt := 2215) hC dL_law_1158 rfl ?_
  refine r_iincE hC (i + 6) dL_law_2215 rfl rfl (by omega) (by unfold inR; omega) ?_
  refine r_goto (tgt := 18) hC dL_law_2218 rfl ?_
  exact ih _ hR
theorem law_c23 {K : Nat → Lc → List Vl → Mm → Prop} {d : Nat} {S0 : Int → Int → Int} {σ : Mm} {i : Int} (hM : StpZ eT cL_law RL (WT eT (d + 11)) (KA eT K)) (h0 : 0 ≤ i) (h6 : i + 6 ≤ S0 0 (-1)) (hN : S0 0 (-1) ≤ 3072) (hR : RB S0 σ) (ih : ∀ ρ : Mm, RB S0 ρ → KA eT K 18 [some (vR 0 0), some (vR 2 0), some (vR 30 0), some (vI (i + 6))] [] ρ) : KA eT K 1161 [some (vR 0 0), some (vR 2 0), some (vR 30 0), some (vI i)] [] σ := by
  have hC := hM.1
  have hG := hR.2.1
  refine r_aload_n hC dL_law_1161 rfl ?_
  refine r_aload_n hC dL_law_1162 rfl ?_
  refine r_iload_n hC dL_law_1163 rfl ?_
  refine r_iconst hC dL_law_1164 rfl ?_
  refine r_iaddE hC ((i + 1)) dL_law_1165 (by omega) (by unfold inR; omega) ?_
  refine z_sald hM dL_law_1166 (by omega) (by rw [hR.1 0 (-1)]; omega) ?_
  rw [hR.1 0 (i + 1)]
  refine r_aload_n hC dL_law_1167 rfl ?_
  refine r_iload_n hC dL_law_1168 rfl ?_
  refine r_iconst hC dL_law_1169 rfl ?_
  refine r_iaddE hC ((i + 2)) dL_law_1170 (by omega) (by unfold inR; omega) ?_
  refine z_sald hM dL_law_1171 (by omega) (by rw [hR.1 0 (-1)]; omega) ?_
  rw [hR.1 0 (i + 2)]
  refine z_inv2 hM dL_law_1172 vl_RL_113 rfl rfl rfl (Nat.le_of_ble_eq_true rfl) (Nat.le_of_ble_eq_true rfl) ?_
  refine WT_q (qs_turned (fun r1 h_r1 => ?_))
  refine r_pop hC dL_law_1175 rfl ?_
  refine r_aload_n hC dL_law_1176 rfl ?_
  refine r_aload_n hC dL_law_1177 rfl ?_
  refine r_iload_n hC dL_law_1178 rfl ?_
  refine r_iconst hC dL_law_1179 rfl ?_
  refine r_iaddE hC ((i + 1)) dL_law_1180 (by omega) (by unfold inR; omega) ?_
  refine z_sald hM dL_law_1181 (by omega) (by rw [hR.1 0 (-1)]; omega) ?_
  rw [hR.1 0 (i + 1)]
  refine r_aload_n hC dL_law_1182 rfl ?_
  refine r_iload_n hC dL_law_1183 rfl ?_
  refine r_iconst hC dL_law_1184 rfl ?_
  refine r_iaddE hC ((i + 2)) dL_law_1185 (by omega) (by unfold inR; omega) ?_
  refine z_sald hM dL_law_1186 (by omega) (by rw [hR.1 0 (-1)]; omega) ?_
  rw [hR.1 0 (i + 2)]
  refine z_inv2 hM dL_law_1187 vl_RL_116 rfl rfl rfl (Nat.le_of_ble_eq_true rfl) (Nat.le_of_ble_eq_true rfl) ?_
  refine WT_q (qm_turned (fun r2 h_r2 => ?_))
  refine r_pop hC dL_law_1190 rfl ?_
  refine r_goto (tgt := 2215) hC dL_law_1191 rfl ?_
  refine r_iincE hC (i + 6) dL_law_2215 rfl rfl (by omega) (by unfold inR; omega) ?_
  refine r_goto (tgt := 18) hC dL_law_2218 rfl ?_
  exact ih _ hR
theorem law_c24 {K : Nat → Lc → List Vl → Mm → Prop} {d : Nat} {S0 : Int → Int → Int} {σ : Mm} {i : Int} (hM : StpZ eT cL_law RL (WT eT (d + 11)) (KA eT K)) (h0 : 0 ≤ i) (h6 : i + 6 ≤ S0 0 (-1)) (hN : S0 0 (-1) ≤ 3072) (hR : RB S0 σ) (ih : ∀ ρ : Mm, RB S0 ρ → KA eT K 18 [some (vR 0 0), some (vR 2 0), some (vR 30 0), some (vI (i + 6))] [] ρ) : KA eT K 1194 [some (vR 0 0), some (vR 2 0), some (vR 30 0), some (vI i)] [] σ := by
  have hC := hM.1
  have hG := hR.2.1
  refine r_aload_n hC dL_law_1194 rfl ?_
  refine r_aload_n hC dL_law_1195 rfl ?_
  refine r_iload_n hC dL_law_1196 rfl ?_
  refine r_iconst hC dL_law_1197 rfl ?_
  refine r_iaddE hC ((i + 1)) dL_law_1198 (by omega) (by unfold inR; omega) ?_
  refine z_sald hM dL_law_1199 (by omega) (by rw [hR.1 0 (-1)]; omega) ?_
  rw [hR.1 0 (i + 1)]
  refine r_aload_n hC dL_law_1200 rfl ?_
  refine r_iload_n hC dL_law_1201 rfl ?_
  refine r_iconst hC dL_law_1202 rfl ?_
  refine r_iaddE hC ((i + 2)) dL_law_1203 (by omega) (by unfold inR; omega) ?_
  refine z_sald hM dL_law_1204 (by omega) (by rw [hR.1 0 (-1)]; omega) ?_
  rw [hR.1 0 (i + 2)]
  refine z_inv2 hM dL_law_1205 vl_RL_117 rfl rfl rfl (Nat.le_of_ble_eq_true rfl) (Nat.le_of_ble_eq_true rfl) ?_
  refine WT_q (qs_commutes_S rfl hR.hl (fun r1 h_r1 => ?_))
  refine r_pop hC dL_law_1208 rfl ?_
  refine r_aload_n hC dL_law_1209 rfl ?_
  refine r_aload_n hC dL_law_1210 rfl ?_
  refine r_iload_n hC dL_law_1211 rfl ?_
  refine r_iconst hC dL_law_1212 rfl ?_
  refine r_iaddE hC ((i + 1)) dL_law_1213 (by omega) (by unfold inR; omega) ?_
  refine z_sald hM dL_law_1214 (by omega) (by rw [hR.1 0 (-1)]; omega) ?_
  rw [hR.1 0 (i + 1)]
  refine r_aload_n hC dL_law_1215 rfl ?_
  refine r_iload_n hC dL_law_1216 rfl ?_
  refine r_iconst hC dL_law_1217 rfl ?_
  refine r_iaddE hC ((i + 2)) dL_law_1218 (by omega) (by unfold inR; omega) ?_
  refine z_sald hM dL_law_1219 (by omega) (by rw [hR.1 0 (-1)]; omega) ?_
  rw [hR.1 0 (i + 2)]
  refine z_inv2 hM dL_law_1220 vl_RL_120 rfl rfl rfl (Nat.le_of_ble_eq_true rfl) (Nat.le_of_ble_eq_true rfl) ?_
  refine WT_q (qm_commutes hR.hm (fun r2 h_r2 => ?_))
  refine r_pop hC dL_law_1223 rfl ?_
  refine r_goto (tgt := 2215) hC dL_law_1224 rfl ?_
  refine r_iincE hC (i + 6) dL_law_2215 rfl rfl (by omega) (by unfold inR; omega) ?_
  refine r_goto (tgt := 18) hC dL_law_2218 rfl ?_
  exact ih _ hR
theorem law_c25 {K : Nat → Lc → List Vl → Mm → Prop} {d : Nat} {S0 : Int → Int → Int} {σ : Mm} {i : Int} (hM : StpZ eT cL_law RL (WT eT (d + 11)) (KA eT K)) (h0 : 0 ≤ i) (h6 : i + 6 ≤ S0 0 (-1)) (hN : S0 0 (-1) ≤ 3072) (hR : RB S0 σ) (ih : ∀ ρ : Mm, RB S0 ρ → KA eT K 18 [some (vR 0 0), some (vR 2 0), some (vR 30 0), some (vI (i + 6))] [] ρ) : KA eT K 1227 [some (vR 0 0), some (vR 2 0), some (vR 30 0), some (vI i)] [] σ := by
  have hC := hM.1
  have hG := hR.2.1
  refine r_aload_n hC dL_law_1227 rfl ?_
  refine r_aload_n hC dL_law_1228 rfl ?_
  refine r_iload_n hC dL_law_1229 rfl ?_
  refine r_iconst hC dL_law_1230 rfl ?_
  refine r_iaddE hC ((i + 1)) dL_law_1231 (by omega) (by unfold inR; omega) ?_
  refine z_sald hM dL_law_1232 (by omega) (by rw [hR.1 0 (-1)]; omega) ?_
  rw [hR.1 0 (i + 1)]
  refine r_aload_n hC dL_law_1233 rfl ?_
  refine r_iload_n hC dL_law_1234 rfl ?_
  refine r_iconst hC dL_law_1235 rfl ?_
  refine r_iaddE hC ((i + 2)) dL_law_1236 (by omega) (by unfold inR; omega) ?_
  refine z_sald hM dL_law_1237 (by omega) (by rw [hR.1 0 (-1)]; omega) ?_
  rw [hR.1 0 (i + 2)]
  refine r_aload_n hC dL_law_1238 rfl ?_
  refine r_iload_n hC dL_law_1239 rfl ?_
  refine r_iconst hC dL_law_1240 rfl ?_
  refine r_iaddE hC ((i + 3)) dL_law_1241 (by omega) (by unfold inR; omega) ?_
  refine z_sald hM dL_law_1242 (by omega) (by rw [hR.1 0 (-1)]; omega) ?_
  rw [hR.1 0 (i + 3)]
  refine z_inv3 hM dL_law_1243 vl_RL_121 rfl rfl rfl (Nat.le_of_ble_eq_true rfl) (Nat.le_of_ble_eq_true rfl) ?_
  refine WT_q (qs_joined (fun r1 h_r1 => ?_))
  refine r_pop hC dL_law_1246 rfl ?_
  refine r_aload_n hC dL_law_1247 rfl ?_
  refine r_aload_n hC dL_law_1248 rfl ?_
  refine r_iload_n hC dL_law_1249 rfl ?_
  refine r_iconst hC dL_law_1250 rfl ?_
  refine r_iaddE hC ((i + 1)) dL_law_1251 (by omega) (by unfold inR; omega) ?_
  refine z_sald hM dL_law_1252 (by omega) (by rw [hR.1 0 (-1)]; omega) ?_
  rw [hR.1 0 (i + 1)]
  refine r_aload_n hC dL_law_1253 rfl ?_
  refine r_iload_n hC dL_law_1254 rfl ?_
  refine r_iconst hC dL_law_1255 rfl ?_
  refine r_iaddE hC ((i + 2)) dL_law_1256 (by omega) (by unfold inR; omega) ?_
  refine z_sald hM dL_law_1257 (by omega) (by rw [hR.1 0 (-1)]; omega) ?_
  rw [hR.1 0 (i + 2)]
  refine r_aload_n hC dL_law_1258 rfl ?_
  refine r_iload_n hC dL_law_1259 rfl ?_
  refine r_iconst hC dL_law_1260 rfl ?_
  refine r_iaddE hC ((i + 3)) dL_law_1261 (by omega) (by unfold inR; omega) ?_
  refine z_sald hM dL_law_1262 (by omega) (by rw [hR.1 0 (-1)]; omega) ?_
  rw [hR.1 0 (i + 3)]
  refine z_inv3 hM dL_law_1263 vl_RL_124 rfl rfl rfl (Nat.le_of_ble_eq_true rfl) (Nat.le_of_ble_eq_true rfl) ?_
  refine WT_q (qm_joined (fun r2 h_r2 => ?_))
  refine r_pop hC dL_law_1266 rfl ?_
  refine r_goto (tgt := 2215) hC dL_law_1267 rfl ?_
  refine r_iincE hC (i + 6) dL_law_2215 rfl rfl (by omega) (by unfold inR; omega) ?_
  refine r_goto (tgt := 18) hC dL_law_2218 rfl ?_
  exact ih _ hR
theorem law_c26 {K : Nat → Lc → List Vl → Mm → Prop} {d : Nat} {S0 : Int → Int → Int} {σ : Mm} {i : Int} (hM : StpZ eT cL_law RL (WT eT (d + 11)) (KA eT K)) (h0 : 0 ≤ i) (h6 : i + 6 ≤ S0 0 (-1)) (hN : S0 0 (-1) ≤ 3072) (hR : RB S0 σ) (ih : ∀ ρ : Mm, RB S0 ρ → KA eT K 18 [some (vR 0 0), some (vR 2 0), some (vR 30 0), some (vI (i + 6))] [] ρ) : KA eT K 1270 [some (vR 0 0), some (vR 2 0), some (vR 30 0), some (vI i)] [] σ := by
  have hC := hM.1
  have hG := hR.2.1
  refine r_aload_n hC dL_law_1270 rfl ?_
  refine r_aload_n hC dL_law_1271 rfl ?_
  refine r_iload_n hC dL_law_1272 rfl ?_
  refine r_iconst hC dL_law_1273 rfl ?_
  refine r_iaddE hC ((i + 1)) dL_law_1274 (by omega) (by unfold inR; omega) ?_
  refine z_sald hM dL_law_1275 (by omega) (by rw [hR.1 0 (-1)]; omega) ?_
  rw [hR.1 0 (i + 1)]
  refine r_aload_n hC dL_law_1276 rfl ?_
  refine r_iload_n hC dL_law_1277 rfl ?_
  refine r_iconst hC dL_law_1278 rfl ?_
  refine r_iaddE hC ((i + 2)) dL_law_1279 (by omega) (by unfold inR; omega) ?_
  refine z_sald hM dL_law_1280 (by omega) (by rw [hR.1 0 (-1)]; omega) ?_
  rw [hR.1 0 (i + 2)]
  refine r_aload_n hC dL_law_1281 rfl ?_
  refine r_iload_n hC dL_law_1282 rfl ?_
  refine r_iconst hC dL_law_1283 rfl ?_
  refine r_iaddE hC ((i + 3)) dL_law_1284 (by omega) (by unfold inR; omega) ?_
  refine z_sald hM dL_law_1285 (by omega) (by rw [hR.1 0 (-1)]; omega) ?_
  rw [hR.1 0 (i + 3)]
  refine z_inv3 hM dL_law_1286 vl_RL_125 rfl rfl rfl (Nat.le_of_ble_eq_true rfl) (Nat.le_of_ble_eq_true rfl) ?_
  refine WT_q (qs_woven_S rfl rfl hR.hl (fun r1 h_r1 => ?_))
  refine r_pop hC dL_law_1289 rfl ?_
  refine r_aload_n hC dL_law_1290 rfl ?_
  refine r_aload_n hC dL_law_1291 rfl ?_
  refine r_iload_n hC dL_law_1292 rfl ?_
  refine r_iconst hC dL_law_1293 rfl ?_
  refine r_iaddE hC ((i + 1)) dL_law_1294 (by omega) (by unfold inR; omega) ?_
  refine z_sald hM dL_law_1295 (by omega) (by rw [hR.1 0 (-1)]; omega) ?_
  rw [hR.1 0 (i + 1)]
  refine r_aload_n hC dL_law_1296 rfl ?_
  refine r_iload_n hC dL_law_1297 rfl ?_
  refine r_iconst hC dL_law_1298 rfl ?_
  refine r_iaddE hC ((i + 2)) dL_law_1299 (by omega) (by unfold inR; omega) ?_
  refine z_sald hM dL_law_1300 (by omega) (by rw [hR.1 0 (-1)]; omega) ?_
  rw [hR.1 0 (i + 2)]
  refine r_aload_n hC dL_law_1301 rfl ?_
  refine r_iload_n hC dL_law_1302 rfl ?_
  refine r_iconst hC dL_law_1303 rfl ?_
  refine r_iaddE hC ((i + 3)) dL_law_1304 (by omega) (by unfold inR; omega) ?_
  refine z_sald hM dL_law_1305 (by omega) (by rw [hR.1 0 (-1)]; omega) ?_
  rw [hR.1 0 (i + 3)]
  refine z_inv3 hM dL_law_1306 vl_RL_128 rfl rfl rfl (Nat.le_of_ble_eq_true rfl) (Nat.le_of_ble_eq_true rfl) ?_
  refine WT_q (qm_woven (fun r2 h_r2 => ?_))
  refine r_pop hC dL_law_1309 rfl ?_
  refine r_goto (tgt := 2215) hC dL_law_1310 rfl ?_
  refine r_iincE hC (i + 6) dL_law_2215 rfl rfl (by omega) (by unfold inR; omega) ?_
  refine r_goto (tgt := 18) hC dL_law_2218 rfl ?_
  exact ih _ hR
theorem law_c27 {K : Nat → Lc → List Vl → Mm → Prop} {d : Nat} {S0 : Int → Int → Int} {σ : Mm} {i : Int} (hM : StpZ eT cL_law RL (WT eT (d + 11)) (KA eT K)) (h0 : 0 ≤ i) (h6 : i + 6 ≤ S0 0 (-1)) (hN : S0 0 (-1) ≤ 3072) (hR : RB S0 σ) (ih : ∀ ρ : Mm, RB S0 ρ → KA eT K 18 [some (vR 0 0), some (vR 2 0), some (vR 30 0), some (vI (i + 6))] [] ρ) : KA eT K 1313 [some (vR 0 0), some (vR 2 0), some (vR 30 0), some (vI i)] [] σ := by
  have hC := hM.1
  have hG := hR.2.1
  refine r_aload_n hC dL_law_1313 rfl ?_
  refine r_aload_n hC dL_law_1314 rfl ?_
  refine r_iload_n hC dL_law_1315 rfl ?_
  refine r_iconst hC dL_law_1316 rfl ?_
  refine r_iaddE hC ((i + 1)) dL_law_1317 (by omega) (by unfold inR; omega) ?_
  refine z_sald hM dL_law_1318 (by omega) (by rw [hR.1 0 (-1)]; omega) ?_
  rw [hR.1 0 (i + 1)]
  refine r_aload_n hC dL_law_1319 rfl ?_
  refine r_iload_n hC dL_law_1320 rfl ?_
  refine r_iconst hC dL_law_1321 rfl ?_
  refine r_iaddE hC ((i + 2)) dL_law_1322 (by omega) (by unfold inR; omega) ?_
  refine z_sald hM dL_law_1323 (by omega) (by rw [hR.1 0 (-1)]; omega) ?_
  rw [hR.1 0 (i + 2)]
  refine z_inv2 hM dL_law_1324 vl_RL_129 rfl rfl rfl (Nat.le_of_ble_eq_true rfl) (Nat.le_of_ble_eq_true rfl) ?_
  refine WT_q (qs_same (fun r1 h_r1 => ?_))
  refine r_pop hC dL_law_1327 rfl ?_
  refine r_aload_n hC dL_law_1328 rfl ?_
  refine r_aload_n hC dL_law_1329 rfl ?_
  refine r_iload_n hC dL_law_1330 rfl ?_
  refine r_iconst hC dL_law_1331 rfl ?_
  refine r_iaddE hC ((i + 1)) dL_law_1332 (by omega) (by unfold inR; omega) ?_
  refine z_sald hM dL_law_1333 (by omega) (by rw [hR.1 0 (-1)]; omega) ?_
  rw [hR.1 0 (i + 1)]
  refine r_aload_n hC dL_law_1334 rfl ?_
  refine r_iload_n hC dL_law_1335 rfl ?_
  refine r_iconst hC dL_law_1336 rfl ?_
  refine r_iaddE hC ((i + 2)) dL_law_1337 (by omega) (by unfold inR; omega) ?_
  refine z_sald hM dL_law_1338 (by omega) (by rw [hR.1 0 (-1)]; omega) ?_
  rw [hR.1 0 (i + 2)]
  refine z_inv2 hM dL_law_1339 vl_RL_132 rfl rfl rfl (Nat.le_of_ble_eq_true rfl) (Nat.le_of_ble_eq_true rfl) ?_
  refine WT_q (qm_same hR.hm (fun r2 h_r2 => ?_))
  refine r_pop hC dL_law_1342 rfl ?_
  refine r_goto (tgt := 2215) hC dL_law_1343 rfl ?_
  refine r_iincE hC (i + 6) dL_law_2215 rfl rfl (by omega) (by unfold inR; omega) ?_
  refine r_goto (tgt := 18) hC dL_law_2218 rfl ?_
  exact ih _ hR
theorem law_c28 {K : Nat → Lc → List Vl → Mm → Prop} {d : Nat} {S0 : Int → Int → Int} {σ : Mm} {i : Int} (hM : StpZ eT cL_law RL (WT eT (d + 11)) (KA eT K)) (h0 : 0 ≤ i) (h6 : i + 6 ≤ S0 0 (-1)) (hN : S0 0 (-1) ≤ 3072) (hR : RB S0 σ) (ih : ∀ ρ : Mm, RB S0 ρ → KA eT K 18 [some (vR 0 0), some (vR 2 0), some (vR 30 0), some (vI (i + 6))] [] ρ) : KA eT K 1346 [some (vR 0 0), some (vR 2 0), some (vR 30 0), some (vI i)] [] σ := by
  have hC := hM.1
  have hG := hR.2.1
  refine r_aload_n hC dL_law_1346 rfl ?_
  refine r_aload_n hC dL_law_1347 rfl ?_
  refine r_iload_n hC dL_law_1348 rfl ?_
  refine r_iconst hC dL_law_1349 rfl ?_
  refine r_iaddE hC ((i + 1)) dL_law_1350 (by omega) (by unfold inR; omega) ?_
  refine z_sald hM dL_law_1351 (by omega) (by rw [hR.1 0 (-1)]; omega) ?_
  rw [hR.1 0 (i + 1)]
  refine r_aload_n hC dL_law_1352 rfl ?_
  refine r_iload_n hC dL_law_1353 rfl ?_
  refine r_iconst hC dL_law_1354 rfl ?_
  refine r_iaddE hC ((i + 2)) dL_law_1355 (by omega) (by unfold inR; omega) ?_
  refine z_sald hM dL_law_1356 (by omega) (by rw [hR.1 0 (-1)]; omega) ?_
  rw [hR.1 0 (i + 2)]
  refine z_inv2 hM dL_law_1357 vl_RL_133 rfl rfl rfl (Nat.le_of_ble_eq_true rfl) (Nat.le_of_ble_eq_true rfl) ?_
  refine qs_panes (fun r1 h_r1 => ?_)
  refine r_pop hC dL_law_1360 rfl ?_
  refine r_aload_n hC dL_law_1361 rfl ?_
  refine r_aload_n hC dL_law_1362 rfl ?_
  refine r_iload_n hC dL_law_1363 rfl ?_
  refine r_iconst hC dL_law_1364 rfl ?_
  refine r_iaddE hC ((i + 1)) dL_law_1365 (by omega) (by unfold inR; omega) ?_
  refine z_sald hM dL_law_1366 (by omega) (by rw [hR.1 0 (-1)]; omega) ?_
  rw [hR.1 0 (i + 1)]
  refine r_aload_n hC dL_law_1367 rfl ?_
  refine r_iload_n hC dL_law_1368 rfl ?_
  refine r_iconst hC dL_law_1369 rfl ?_
  refine r_iaddE hC ((i + 2)) dL_law_1370 (by omega) (by unfold inR; omega) ?_
  refine z_sald hM dL_law_1371 (by omega) (by rw [hR.1 0 (-1)]; omega) ?_
  rw [hR.1 0 (i + 2)]
  refine z_inv2 hM dL_law_1372 vl_RL_136 rfl rfl rfl (Nat.le_of_ble_eq_true rfl) (Nat.le_of_ble_eq_true rfl) ?_
  refine WT_q (qm_panes (fun r2 h_r2 => ?_))
  refine r_pop hC dL_law_1375 rfl ?_
  refine r_goto (tgt := 2215) hC dL_law_1376 rfl ?_
  refine r_iincE hC (i + 6) dL_law_2215 rfl rfl (by omega) (by unfold inR; omega) ?_
  refine r_goto (tgt := 18) hC dL_law_2218 rfl ?_
  exact ih _ hR
theorem law_c29 {K : Nat → Lc → List Vl → Mm → Prop} {d : Nat} {S0 : Int → Int → Int} {σ : Mm} {i : Int} (hM : StpZ eT cL_law RL (WT eT (d + 11)) (KA eT K)) (h0 : 0 ≤ i) (h6 : i + 6 ≤ S0 0 (-1)) (hN : S0 0 (-1) ≤ 3072) (hR : RB S0 σ) (ih : ∀ ρ : Mm, RB S0 ρ → KA eT K 18 [some (vR 0 0), some (vR 2 0), some (vR 30 0), some (vI (i + 6))] [] ρ) : KA eT K 1379 [some (vR 0 0), some (vR 2 0), some (vR 30 0), some (vI i)] [] σ := by
  have hC := hM.1
  have hG := hR.2.1
  refine r_aload_n hC dL_law_1379 rfl ?_
  refine r_aload_n hC dL_law_1380 rfl ?_
  refine r_iload_n hC dL_law_1381 rfl ?_
  refine r_iconst hC dL_law_1382 rfl ?_
  refine r_iaddE hC ((i + 1)) dL_law_1383 (by omega) (by unfold inR; omega) ?_
  refine z_sald hM dL_law_1384 (by omega) (by rw [hR.1 0 (-1)]; omega) ?_
  rw [hR.1 0 (i + 1)]
  refine r_aload_n hC dL_law_1385 rfl ?_
  refine r_iload_n hC dL_law_1386 rfl ?_
  refine r_iconst hC dL_law_1387 rfl ?_
  refine r_iaddE hC ((i + 2)) dL_law_1388 (by omega) (by unfold inR; omega) ?_
  refine z_sald hM dL_law_1389 (by omega) (by rw [hR.1 0 (-1)]; omega) ?_
  rw [hR.1 0 (i + 2)]
  refine z_inv2 hM dL_law_1390 vl_RL_137 rfl rfl rfl (Nat.le_of_ble_eq_true rfl) (Nat.le_of_ble_eq_true rfl) ?_
  refine qs_fullest (fun r1 h_r1 => ?_)
  refine r_pop hC dL_law_1393 rfl ?_
  refine r_aload_n hC dL_law_1394 rfl ?_
  refine r_aload_n hC dL_law_1395 rfl ?_
  refine r_iload_n hC dL_law_1396 rfl ?_
  refine r_iconst hC dL_law_1397 rfl ?_
  refine r_iaddE hC ((i + 1)) dL_law_1398 (by omega) (by unfold inR; omega) ?_
  refine z_sald hM dL_law_1399 (by omega) (by rw [hR.1 0 (-1)]; omega) ?_
  rw [hR.1 0 (i + 1)]
  refine r_aload_n hC dL_law_1400 rfl ?_
  refine r_iload_n hC dL_law_1401 rfl ?_
  refine r_iconst hC dL_law_1402 rfl ?_
  refine r_iaddE hC ((i + 2)) dL_law_1403 (by omega) (by unfold inR; omega) ?_
  refine z_sald hM dL_law_1404 (by omega) (by rw [hR.1 0 (-1)]; omega) ?_
  rw [hR.1 0 (i + 2)]
  refine z_inv2 hM dL_law_1405 vl_RL_140 rfl rfl rfl (Nat.le_of_ble_eq_true rfl) (Nat.le_of_ble_eq_true rfl) ?_
  refine WT_q (qm_fullest (fun r2 h_r2 => ?_))
  refine r_pop hC dL_law_1408 rfl ?_
  refine r_goto (tgt := 2215) hC dL_law_1409 rfl ?_
  refine r_iincE hC (i + 6) dL_law_2215 rfl rfl (by omega) (by unfold inR; omega) ?_
  refine r_goto (tgt := 18) hC dL_law_2218 rfl ?_
  exact ih _ hR
theorem law_c30 {K : Nat → Lc → List Vl → Mm → Prop} {d : Nat} {S0 : Int → Int → Int} {σ : Mm} {i : Int} (hM : StpZ eT cL_law RL (WT eT (d + 11)) (KA eT K)) (h0 : 0 ≤ i) (h6 : i + 6 ≤ S0 0 (-1)) (hN : S0 0 (-1) ≤ 3072) (hR : RB S0 σ) (ih : ∀ ρ : Mm, RB S0 ρ → KA eT K 18 [some (vR 0 0), some (vR 2 0), some (vR 30 0), some (vI (i + 6))] [] ρ) : KA eT K 1412 [some (vR 0 0), some (vR 2 0), some (vR 30 0), some (vI i)] [] σ := by
  have hC := hM.1
  have hG := hR.2.1
  refine r_aload_n hC dL_law_1412 rfl ?_
  refine r_aload_n hC dL_law_1413 rfl ?_
  refine r_iload_n hC dL_law_1414 rfl ?_
  refine r_iconst hC dL_law_1415 rfl ?_
  refine r_iaddE hC ((i + 1)) dL_law_1416 (by omega) (by unfold inR; omega) ?_
  refine z_sald hM dL_law_1417 (by omega) (by rw [hR.1 0 (-1)]; omega) ?_
  rw [hR.1 0 (i + 1)]
  refine r_aload_n hC dL_law_1418 rfl ?_
  refine r_iload_n hC dL_law_1419 rfl ?_
  refine r_iconst hC dL_law_1420 rfl ?_
  refine r_iaddE hC ((i + 2)) dL_law_1421 (by omega) (by unfold inR; omega) ?_
  refine z_sald hM dL_law_1422 (by omega) (by rw [hR.1 0 (-1)]; omega) ?_
  rw [hR.1 0 (i + 2)]
  refine z_inv2 hM dL_law_1423 vl_RL_141 rfl rfl rfl (Nat.le_of_ble_eq_true rfl) (Nat.le_of_ble_eq_true rfl) ?_
  refine qs_sessions (fun r1 h_r1 => ?_)
  refine r_pop hC dL_law_1426 rfl ?_
  refine r_aload_n hC dL_law_1427 rfl ?_
  refine r_aload_n hC dL_law_1428 rfl ?_
  refine r_iload_n hC dL_law_1429 rfl ?_
  refine r_iconst hC dL_law_1430 rfl ?_
  refine r_iaddE hC ((i + 1)) dL_law_1431 (by omega) (by unfold inR; omega) ?_
  refine z_sald hM dL_law_1432 (by omega) (by rw [hR.1 0 (-1)]; omega) ?_
  rw [hR.1 0 (i + 1)]
  refine r_aload_n hC dL_law_1433 rfl ?_
  refine r_iload_n hC dL_law_1434 rfl ?_
  refine r_iconst hC dL_law_1435 rfl ?_
  refine r_iaddE hC ((i + 2)) dL_law_1436 (by omega) (by unfold inR; omega) ?_
  refine z_sald hM dL_law_1437 (by omega) (by rw [hR.1 0 (-1)]; omega) ?_
  rw [hR.1 0 (i + 2)]
  refine z_inv2 hM dL_law_1438 vl_RL_144 rfl rfl rfl (Nat.le_of_ble_eq_true rfl) (Nat.le_of_ble_eq_true rfl) ?_
  refine WT_q (qm_sessions (fun r2 h_r2 => ?_))
  refine r_pop hC dL_law_1441 rfl ?_
  refine r_goto (tgt := 2215) hC dL_law_1442 rfl ?_
  refine r_iincE hC (i + 6) dL_law_2215 rfl rfl (by omega) (by unfold inR; omega) ?_
  refine r_goto (tgt := 18) hC dL_law_2218 rfl ?_
  exact ih _ hR
theorem law_c31 {K : Nat → Lc → List Vl → Mm → Prop} {d : Nat} {S0 : Int → Int → Int} {σ : Mm} {i : Int} (hM : StpZ eT cL_law RL (WT eT (d + 11)) (KA eT K)) (h0 : 0 ≤ i) (h6 : i + 6 ≤ S0 0 (-1)) (hN : S0 0 (-1) ≤ 3072) (hR : RB S0 σ) (ih : ∀ ρ : Mm, RB S0 ρ → KA eT K 18 [some (vR 0 0), some (vR 2 0), some (vR 30 0), some (vI (i + 6))] [] ρ) : KA eT K 1445 [some (vR 0 0), some (vR 2 0), some (vR 30 0), some (vI i)] [] σ := by
  have hC := hM.1
  have hG := hR.2.1
  refine r_aload_n hC dL_law_1445 rfl ?_
  refine r_aload_n hC dL_law_1446 rfl ?_
  refine r_iload_n hC dL_law_1447 rfl ?_
  refine r_iconst hC dL_law_1448 rfl ?_
  refine r_iaddE hC ((i + 1)) dL_law_1449 (by omega) (by unfold inR; omega) ?_
  refine z_sald hM dL_law_1450 (by omega) (by rw [hR.1 0 (-1)]; omega) ?_
  rw [hR.1 0 (i + 1)]
  refine r_aload_n hC dL_law_1451 rfl ?_
  refine r_iload_n hC dL_law_1452 rfl ?_
  refine r_iconst hC dL_law_1453 rfl ?_
  refine r_iaddE hC ((i + 2)) dL_law_1454 (by omega) (by unfold inR; omega) ?_
  refine z_sald hM dL_law_1455 (by omega) (by rw [hR.1 0 (-1)]; omega) ?_
  rw [hR.1 0 (i + 2)]
  refine r_aload_n hC dL_law_1456 rfl ?_
  refine r_iload_n hC dL_law_1457 rfl ?_
  refine r_iconst hC dL_law_1458 rfl ?_
  refine r_iaddE hC ((i + 3)) dL_law_1459 (by omega) (by unfold inR; omega) ?_
  refine z_sald hM dL_law_1460 (by omega) (by rw [hR.1 0 (-1)]; omega) ?_
  rw [hR.1 0 (i + 3)]
  refine r_aload_n hC dL_law_1461 rfl ?_
  refine r_iload_n hC dL_law_1462 rfl ?_
  refine r_iconst hC dL_law_1463 rfl ?_
  refine r_iaddE hC ((i + 4)) dL_law_1464 (by omega) (by unfold inR; omega) ?_
  refine z_sald hM dL_law_1465 (by omega) (by rw [hR.1 0 (-1)]; omega) ?_
  rw [hR.1 0 (i + 4)]
  refine z_inv4 hM dL_law_1466 vl_RL_145 rfl rfl rfl (Nat.le_of_ble_eq_true rfl) (Nat.le_of_ble_eq_true rfl) ?_
  refine WT_q (qs_session (fun r1 h_r1 => ?_))
  refine r_pop hC dL_law_1469 rfl ?_
  refine r_aload_n hC dL_law_1470 rfl ?_
  refine r_aload_n hC dL_law_1471 rfl ?_
  refine r_iload_n hC dL_law_1472 rfl ?_
  refine r_iconst hC dL_law_1473 rfl ?_
  refine r_iaddE hC ((i + 1)) dL_law_1474 (by omega) (by unfold inR; omega) ?_
  refine z_sald hM dL_law_1475 (by omega) (by rw [hR.1 0 (-1)]; omega) ?_
  rw [hR.1 0 (i + 1)]
  refine r_aload_n hC dL_law_1476 rfl ?_
  refine r_iload_n hC dL_law_1477 rfl ?_
  refine r_iconst hC dL_law_1478 rfl ?_
  refine r_iaddE hC ((i + 2)) dL_law_1479 (by omega) (by unfold inR; omega) ?_
  refine z_sald hM dL_law_1480 (by omega) (by rw [hR.1 0 (-1)]; omega) ?_
  rw [hR.1 0 (i + 2)]
  refine r_aload_n hC dL_law_1481 rfl ?_
  refine r_iload_n hC dL_law_1482 rfl ?_
  refine r_iconst hC dL_law_1483 rfl ?_
  refine r_iaddE hC ((i + 3)) dL_law_1484 (by omega) (by unfold inR; omega) ?_
  refine z_sald hM dL_law_1485 (by omega) (by rw [hR.1 0 (-1)]; omega) ?_
  rw [hR.1 0 (i + 3)]
  refine r_aload_n hC dL_law_1486 rfl ?_
  refine r_iload_n hC dL_law_1487 rfl ?_
  refine r_iconst hC dL_law_1488 rfl ?_
  refine r_iaddE hC ((i + 4)) dL_law_1489 (by omega) (by unfold inR; omega) ?_
  refine z_sald hM dL_law_1490 (by omega) (by rw [hR.1 0 (-1)]; omega) ?_
  rw [hR.1 0 (i + 4)]
  refine z_inv4 hM dL_law_1491 vl_RL_148 rfl rfl rfl (Nat.le_of_ble_eq_true rfl) (Nat.le_of_ble_eq_true rfl) ?_
  refine WT_q (qm_session (fun r2 h_r2 => ?_))
  refine r_pop hC dL_law_1494 rfl ?_
  refine r_goto (tgt := 2215) hC dL_law_1495 rfl ?_
  refine r_iincE hC (i + 6) dL_law_2215 rfl rfl (by omega) (by unfold inR; omega) ?_
  refine r_goto (tgt := 18) hC dL_law_2218 rfl ?_
  exact ih _ hR
theorem law_c32 {K : Nat → Lc → List Vl → Mm → Prop} {d : Nat} {S0 : Int → Int → Int} {σ : Mm} {i : Int} (hM : StpZ eT cL_law RL (WT eT (d + 11)) (KA eT K)) (h0 : 0 ≤ i) (h6 : i + 6 ≤ S0 0 (-1)) (hN : S0 0 (-1) ≤ 3072) (hR : RB S0 σ) (ih : ∀ ρ : Mm, RB S0 ρ → KA eT K 18 [some (vR 0 0), some (vR 2 0), some (vR 30 0), some (vI (i + 6))] [] ρ) : KA eT K 1498 [some (vR 0 0), some (vR 2 0), some (vR 30 0), some (vI i)] [] σ := by
  have hC := hM.1
  have hG := hR.2.1
  refine r_aload_n hC dL_law_1498 rfl ?_
  refine r_aload_n hC dL_law_1499 rfl ?_
  refine r_iload_n hC dL_law_1500 rfl ?_
  refine r_iconst hC dL_law_1501 rfl ?_
  refine r_iaddE hC ((i + 1)) dL_law_1502 (by omega) (by unfold inR; omega) ?_
  refine z_sald hM dL_law_1503 (by omega) (by rw [hR.1 0 (-1)]; omega) ?_
  rw [hR.1 0 (i + 1)]
  refine r_aload_n hC dL_law_1504 rfl ?_
  refine r_iload_n hC dL_law_1505 rfl ?_
  refine r_iconst hC dL_law_1506 rfl ?_
  refine r_iaddE hC ((i + 2)) dL_law_1507 (by omega) (by unfold inR; omega) ?_
  refine z_sald hM dL_law_1508 (by omega) (by rw [hR.1 0 (-1)]; omega) ?_
  rw [hR.1 0 (i + 2)]
  refine z_inv2 hM dL_law_1509 vl_RL_149 rfl rfl rfl (Nat.le_of_ble_eq_true rfl) (Nat.le_of_ble_eq_true rfl) ?_
  refine qs_longest (fun r1 h_r1 => ?_)
  refine r_pop hC dL_law_1512 rfl ?_
  refine r_aload_n hC dL_law_1513 rfl ?_
  refine r_aload_n hC dL_law_1514 rfl ?_
  refine r_iload_n hC dL_law_1515 rfl ?_
  refine r_iconst hC dL_law_1516 rfl ?_
  refine r_iaddE hC ((i + 1)) dL_law_1517 (by omega) (by unfold inR; omega) ?_
  refine z_sald hM dL_law_1518 (by omega) (by rw [hR.1 0 (-1)]; omega) ?_
  rw [hR.1 0 (i + 1)]
  refine r_aload_n hC dL_law_1519 rfl ?_
  refine r_iload_n hC dL_law_1520 rfl ?_
  refine r_iconst hC dL_law_1521 rfl ?_
  refine r_iaddE hC ((i + 2)) dL_law_1522 (by omega) (by unfold inR; omega) ?_
  refine z_sald hM dL_law_1523 (by omega) (by rw [hR.1 0 (-1)]; omega) ?_
  rw [hR.1 0 (i + 2)]
  refine z_inv2 hM dL_law_1524 vl_RL_152 rfl rfl rfl (Nat.le_of_ble_eq_true rfl) (Nat.le_of_ble_eq_true rfl) ?_
  refine WT_q (qm_longest (fun r2 h_r2 => ?_))
  refine r_pop hC dL_law_1527 rfl ?_
  refine r_goto (tgt := 2215) hC dL_law_1528 rfl ?_
  refine r_iincE hC (i + 6) dL_law_2215 rfl rfl (by omega) (by unfold inR; omega) ?_
  refine r_goto (tgt := 18) hC dL_law_2218 rfl ?_
  exact ih _ hR
theorem law_c33 {K : Nat → Lc → List Vl → Mm → Prop} {d : Nat} {S0 : Int → Int → Int} {σ : Mm} {i : Int} (hM : StpZ eT cL_law RL (WT eT (d + 11)) (KA eT K)) (h0 : 0 ≤ i) (h6 : i + 6 ≤ S0 0 (-1)) (hN : S0 0 (-1) ≤ 3072) (hR : RB S0 σ) (ih : ∀ ρ : Mm, RB S0 ρ → KA eT K 18 [some (vR 0 0), some (vR 2 0), some (vR 30 0), some (vI (i + 6))] [] ρ) : KA eT K 1531 [some (vR 0 0), some (vR 2 0), some (vR 30 0), some (vI i)] [] σ := by
  have hC := hM.1
  have hG := hR.2.1
  refine r_aload_n hC dL_law_1531 rfl ?_
  refine r_aload_n hC dL_law_1532 rfl ?_
  refine r_iload_n hC dL_law_1533 rfl ?_
  refine r_iconst hC dL_law_1534 rfl ?_
  refine r_iaddE hC ((i + 1)) dL_law_1535 (by omega) (by unfold inR; omega) ?_
  refine z_sald hM dL_law_1536 (by omega) (by rw [hR.1 0 (-1)]; omega) ?_
  rw [hR.1 0 (i + 1)]
  refine r_aload_n hC dL_law_1537 rfl ?_
  refine r_iload_n hC dL_law_1538 rfl ?_
  refine r_iconst hC dL_law_1539 rfl ?_
  refine r_iaddE hC ((i + 2)) dL_law_1540 (by omega) (by unfold inR; omega) ?_
  refine z_sald hM dL_law_1541 (by omega) (by rw [hR.1 0 (-1)]; omega) ?_
  rw [hR.1 0 (i + 2)]
  refine r_aload_n hC dL_law_1542 rfl ?_
  refine r_iload_n hC dL_law_1543 rfl ?_
  refine r_iconst hC dL_law_1544 rfl ?_
  refine r_iaddE hC ((i + 3)) dL_law_1545 (by omega) (by unfold inR; omega) ?_
  refine z_sald hM dL_law_1546 (by omega) (by rw [hR.1 0 (-1)]; omega) ?_
  rw [hR.1 0 (i + 3)]
  refine z_inv3 hM dL_law_1547 vl_RL_153 rfl rfl rfl (Nat.le_of_ble_eq_true rfl) (Nat.le_of_ble_eq_true rfl) ?_
  refine WT_q (qs_law (fun r1 h_r1 => ?_))
  refine r_pop hC dL_law_1550 rfl ?_
  refine r_aload_n hC dL_law_1551 rfl ?_
  refine r_aload_n hC dL_law_1552 rfl ?_
  refine r_iload_n hC dL_law_1553 rfl ?_
  refine r_iconst hC dL_law_1554 rfl ?_
  refine r_iaddE hC ((i + 1)) dL_law_1555 (by omega) (by unfold inR; omega) ?_
  refine z_sald hM dL_law_1556 (by omega) (by rw [hR.1 0 (-1)]; omega) ?_
  rw [hR.1 0 (i + 1)]
  refine r_aload_n hC dL_law_1557 rfl ?_
  refine r_iload_n hC dL_law_1558 rfl ?_
  refine r_iconst hC dL_law_1559 rfl ?_
  refine r_iaddE hC ((i + 2)) dL_law_1560 (by omega) (by unfold inR; omega) ?_
  refine z_sald hM dL_law_1561 (by omega) (by rw [hR.1 0 (-1)]; omega) ?_
  rw [hR.1 0 (i + 2)]
  refine r_aload_n hC dL_law_1562 rfl ?_
  refine r_iload_n hC dL_law_1563 rfl ?_
  refine r_iconst hC dL_law_1564 rfl ?_
  refine r_iaddE hC ((i + 3)) dL_law_1565 (by omega) (by unfold inR; omega) ?_
  refine z_sald hM dL_law_1566 (by omega) (by rw [hR.1 0 (-1)]; omega) ?_
  rw [hR.1 0 (i + 3)]
  refine z_inv3 hM dL_law_1567 vl_RL_156 rfl rfl rfl (Nat.le_of_ble_eq_true rfl) (Nat.le_of_ble_eq_true rfl) ?_
  refine WT_q (qm_law (fun r2 h_r2 => ?_))
  refine r_pop hC dL_law_1570 rfl ?_
  refine r_goto (tgt := 2215) hC dL_law_1571 rfl ?_
  refine r_iincE hC (i + 6) dL_law_2215 rfl rfl (by omega) (by unfold inR; omega) ?_
  refine r_goto (tgt := 18) hC dL_law_2218 rfl ?_
  exact ih _ hR
theorem law_c34 {K : Nat → Lc → List Vl → Mm → Prop} {d : Nat} {S0 : Int → Int → Int} {σ : Mm} {i : Int} (hM : StpZ eT cL_law RL (WT eT (d + 11)) (KA eT K)) (h0 : 0 ≤ i) (h6 : i + 6 ≤ S0 0 (-1)) (hN : S0 0 (-1) ≤ 3072) (hR : RB S0 σ) (ih : ∀ ρ : Mm, RB S0 ρ → KA eT K 18 [some (vR 0 0), some (vR 2 0), some (vR 30 0), some (vI (i + 6))] [] ρ) : KA eT K 1574 [some (vR 0 0), some (vR 2 0), some (vR 30 0), some (vI i)] [] σ := by
  have hC := hM.1
  have hG := hR.2.1
  refine r_aload_n hC dL_law_1574 rfl ?_
  refine r_aload_n hC dL_law_1575 rfl ?_
  refine r_iload_n hC dL_law_1576 rfl ?_
  refine r_iconst hC dL_law_1577 rfl ?_
  refine r_iaddE hC ((i + 1)) dL_law_1578 (by omega) (by unfold inR; omega) ?_
  refine z_sald hM dL_law_1579 (by omega) (by rw [hR.1 0 (-1)]; omega) ?_
  rw [hR.1 0 (i + 1)]
  refine r_aload_n hC dL_law_1580 rfl ?_
  refine r_iload_n hC dL_law_1581 rfl ?_
  refine r_iconst hC dL_law_1582 rfl ?_
  refine r_iaddE hC ((i + 2)) dL_law_1583 (by omega) (by unfold inR; omega) ?_
  refine z_sald hM dL_law_1584 (by omega) (by rw [hR.1 0 (-1)]; omega) ?_
  rw [hR.1 0 (i + 2)]
  refine z_inv2 hM dL_law_1585 vl_RL_157 rfl rfl rfl (Nat.le_of_ble_eq_true rfl) (Nat.le_of_ble_eq_true rfl) ?_
  refine qs_state (fun r1 h_r1 => ?_)
  refine r_pop hC dL_law_1588 rfl ?_
  refine r_aload_n hC dL_law_1589 rfl ?_
  refine r_aload_n hC dL_law_1590 rfl ?_
  refine r_iload_n hC dL_law_1591 rfl ?_
  refine r_iconst hC dL_law_1592 rfl ?_
  refine r_iaddE hC ((i + 1)) dL_law_1593 (by omega) (by unfold inR; omega) ?_
  refine z_sald hM dL_law_1594 (by omega) (by rw [hR.1 0 (-1)]; omega) ?_
  rw [hR.1 0 (i + 1)]
  refine r_aload_n hC dL_law_1595 rfl ?_
  refine r_iload_n hC dL_law_1596 rfl ?_
  refine r_iconst hC dL_law_1597 rfl ?_
  refine r_iaddE hC ((i + 2)) dL_law_1598 (by omega) (by unfold inR; omega) ?_
  refine z_sald hM dL_law_1599 (by omega) (by rw [hR.1 0 (-1)]; omega) ?_
  rw [hR.1 0 (i + 2)]
  refine z_inv2 hM dL_law_1600 vl_RL_160 rfl rfl rfl (Nat.le_of_ble_eq_true rfl) (Nat.le_of_ble_eq_true rfl) ?_
  refine WT_q (qm_state (fun r2 h_r2 => ?_))
  refine r_pop hC dL_law_1603 rfl ?_
  refine r_goto (tgt := 2215) hC dL_law_1604 rfl ?_
  refine r_iincE hC (i + 6) dL_law_2215 rfl rfl (by omega) (by unfold inR; omega) ?_
  refine r_goto (tgt := 18) hC dL_law_2218 rfl ?_
  exact ih _ hR
theorem law_c35 {K : Nat → Lc → List Vl → Mm → Prop} {d : Nat} {S0 : Int → Int → Int} {σ : Mm} {i : Int} (hM : StpZ eT cL_law RL (WT eT (d + 11)) (KA eT K)) (h0 : 0 ≤ i) (h6 : i + 6 ≤ S0 0 (-1)) (hN : S0 0 (-1) ≤ 3072) (hR : RB S0 σ) (ih : ∀ ρ : Mm, RB S0 ρ → KA eT K 18 [some (vR 0 0), some (vR 2 0), some (vR 30 0), some (vI (i + 6))] [] ρ) : KA eT K 1607 [some (vR 0 0), some (vR 2 0), some (vR 30 0), some (vI i)] [] σ := by
  have hC := hM.1
  have hG := hR.2.1
  refine r_aload_n hC dL_law_1607 rfl ?_
  refine r_aload_n hC dL_law_1608 rfl ?_
  refine r_iload_n hC dL_law_1609 rfl ?_
  refine r_iconst hC dL_law_1610 rfl ?_
  refine r_iaddE hC ((i + 1)) dL_law_1611 (by omega) (by unfold inR; omega) ?_
  refine z_sald hM dL_law_1612 (by omega) (by rw [hR.1 0 (-1)]; omega) ?_
  rw [hR.1 0 (i + 1)]
  refine r_aload_n hC dL_law_1613 rfl ?_
  refine r_iload_n hC dL_law_1614 rfl ?_
  refine r_iconst hC dL_law_1615 rfl ?_
  refine r_iaddE hC ((i + 2)) dL_law_1616 (by omega) (by unfold inR; omega) ?_
  refine z_sald hM dL_law_1617 (by omega) (by rw [hR.1 0 (-1)]; omega) ?_
  rw [hR.1 0 (i + 2)]
  refine z_inv2 hM dL_law_1618 vl_RL_161 rfl rfl rfl (Nat.le_of_ble_eq_true rfl) (Nat.le_of_ble_eq_true rfl) ?_
  refine qs_soon (fun r1 h_r1 => ?_)
  refine r_pop hC dL_law_1621 rfl ?_
  refine r_aload_n hC dL_law_1622 rfl ?_
  refine r_aload_n hC dL_law_1623 rfl ?_
  refine r_iload_n hC dL_law_1624 rfl ?_
  refine r_iconst hC dL_law_1625 rfl ?_
  refine r_iaddE hC ((i + 1)) dL_law_1626 (by omega) (by unfold inR; omega) ?_
  refine z_sald hM dL_law_1627 (by omega) (by rw [hR.1 0 (-1)]; omega) ?_
  rw [hR.1 0 (i + 1)]
  refine r_aload_n hC dL_law_1628 rfl ?_
  refine r_iload_n hC dL_law_1629 rfl ?_
  refine r_iconst hC dL_law_1630 rfl ?_
  refine r_iaddE hC ((i + 2)) dL_law_1631 (by omega) (by unfold inR; omega) ?_
  refine z_sald hM dL_law_1632 (by omega) (by rw [hR.1 0 (-1)]; omega) ?_
  rw [hR.1 0 (i + 2)]
  refine z_inv2 hM dL_law_1633 vl_RL_164 rfl rfl rfl (Nat.le_of_ble_eq_true rfl) (Nat.le_of_ble_eq_true rfl) ?_
  refine WT_q (qm_soon (fun r2 h_r2 => ?_))
  refine r_pop hC dL_law_1636 rfl ?_
  refine r_goto (tgt := 2215) hC dL_law_1637 rfl ?_
  refine r_iincE hC (i + 6) dL_law_2215 rfl rfl (by omega) (by unfold inR; omega) ?_
  refine r_goto (tgt := 18) hC dL_law_2218 rfl ?_
  exact ih _ hR
theorem law_c36 {K : Nat → Lc → List Vl → Mm → Prop} {d : Nat} {S0 : Int → Int → Int} {σ : Mm} {i : Int} (hM : StpZ eT cL_law RL (WT eT (d + 11)) (KA eT K)) (h0 : 0 ≤ i) (h6 : i + 6 ≤ S0 0 (-1)) (hN : S0 0 (-1) ≤ 3072) (hR : RB S0 σ) (ih : ∀ ρ : Mm, RB S0 ρ → KA eT K 18 [some (vR 0 0), some (vR 2 0), some (vR 30 0), some (vI (i + 6))] [] ρ) : KA eT K 1640 [some (vR 0 0), some (vR 2 0), some (vR 30 0), some (vI i)] [] σ := by
  have hC := hM.1
  have hG := hR.2.1
  refine r_aload_n hC dL_law_1640 rfl ?_
  refine r_aload_n hC dL_law_1641 rfl ?_
  refine r_iload_n hC dL_law_1642 rfl ?_
  refine r_iconst hC dL_law_1643 rfl ?_
  refine r_iaddE hC ((i + 1)) dL_law_1644 (by omega) (by unfold inR; omega) ?_
  refine z_sald hM dL_law_1645 (by omega) (by rw [hR.1 0 (-1)]; omega) ?_
  rw [hR.1 0 (i + 1)]
  refine r_aload_n hC dL_law_1646 rfl ?_
  refine r_iload_n hC dL_law_1647 rfl ?_
  refine r_iconst hC dL_law_1648 rfl ?_
  refine r_iaddE hC ((i + 2)) dL_law_1649 (by omega) (by unfold inR; omega) ?_
  refine z_sald hM dL_law_1650 (by omega) (by rw [hR.1 0 (-1)]; omega) ?_
  rw [hR.1 0 (i + 2)]
  refine z_inv2 hM dL_law_1651 vl_RL_165 rfl rfl rfl (Nat.le_of_ble_eq_true rfl) (Nat.le_of_ble_eq_true rfl) ?_
  refine qs_lane (fun r1 h_r1 => ?_)
  refine r_pop hC dL_law_1654 rfl ?_
  refine r_aload_n hC dL_law_1655 rfl ?_
  refine r_aload_n hC dL_law_1656 rfl ?_
  refine r_iload_n hC dL_law_1657 rfl ?_
  refine r_iconst hC dL_law_1658 rfl ?_
  refine r_iaddE hC ((i + 1)) dL_law_1659 (by omega) (by unfold inR; omega) ?_
  refine z_sald hM dL_law_1660 (by omega) (by rw [hR.1 0 (-1)]; omega) ?_
  rw [hR.1 0 (i + 1)]
  refine r_aload_n hC dL_law_1661 rfl ?_
  refine r_iload_n hC dL_law_1662 rfl ?_
  refine r_iconst hC dL_law_1663 rfl ?_
  refine r_iaddE hC ((i + 2)) dL_law_1664 (by omega) (by unfold inR; omega) ?_
  refine z_sald hM dL_law_1665 (by omega) (by rw [hR.1 0 (-1)]; omega) ?_
  rw [hR.1 0 (i + 2)]
  refine z_inv2 hM dL_law_1666 vl_RL_168 rfl rfl rfl (Nat.le_of_ble_eq_true rfl) (Nat.le_of_ble_eq_true rfl) ?_
  refine WT_q (qm_lane (fun r2 h_r2 => ?_))
  refine r_pop hC dL_law_1669 rfl ?_
  refine r_goto (tgt := 2215) hC dL_law_1670 rfl ?_
  refine r_iincE hC (i + 6) dL_law_2215 rfl rfl (by omega) (by unfold inR; omega) ?_
  refine r_goto (tgt := 18) hC dL_law_2218 rfl ?_
  exact ih _ hR
theorem law_c37 {K : Nat → Lc → List Vl → Mm → Prop} {d : Nat} {S0 : Int → Int → Int} {σ : Mm} {i : Int} (hM : StpZ eT cL_law RL (WT eT (d + 11)) (KA eT K)) (h0 : 0 ≤ i) (h6 : i + 6 ≤ S0 0 (-1)) (hN : S0 0 (-1) ≤ 3072) (hR : RB S0 σ) (ih : ∀ ρ : Mm, RB S0 ρ → KA eT K 18 [some (vR 0 0), some (vR 2 0), some (vR 30 0), some (vI (i + 6))] [] ρ) : KA eT K 1673 [some (vR 0 0), some (vR 2 0), some (vR 30 0), some (vI i)] [] σ := by
  have hC := hM.1
  have hG := hR.2.1
  refine r_aload_n hC dL_law_1673 rfl ?_
  refine r_aload_n hC dL_law_1674 rfl ?_
  refine r_iload_n hC dL_law_1675 rfl ?_
  refine r_iconst hC dL_law_1676 rfl ?_
  refine r_iaddE hC ((i + 1)) dL_law_1677 (by omega) (by unfold inR; omega) ?_
  refine z_sald hM dL_law_1678 (by omega) (by rw [hR.1 0 (-1)]; omega) ?_
  rw [hR.1 0 (i + 1)]
  refine r_aload_n hC dL_law_1679 rfl ?_
  refine r_iload_n hC dL_law_1680 rfl ?_
  refine r_iconst hC dL_law_1681 rfl ?_
  refine r_iaddE hC ((i + 2)) dL_law_1682 (by omega) (by unfold inR; omega) ?_
  refine z_sald hM dL_law_1683 (by omega) (by rw [hR.1 0 (-1)]; omega) ?_
  rw [hR.1 0 (i + 2)]
  refine r_aload_n hC dL_law_1684 rfl ?_
  refine r_iload_n hC dL_law_1685 rfl ?_
  refine r_iconst hC dL_law_1686 rfl ?_
  refine r_iaddE hC ((i + 3)) dL_law_1687 (by omega) (by unfold inR; omega) ?_
  refine z_sald hM dL_law_1688 (by omega) (by rw [hR.1 0 (-1)]; omega) ?_
  rw [hR.1 0 (i + 3)]
  refine r_aload_n hC dL_law_1689 rfl ?_
  refine r_iload_n hC dL_law_1690 rfl ?_
  refine r_iconst hC dL_law_1691 rfl ?_
  refine r_iaddE hC ((i + 4)) dL_law_1692 (by omega) (by unfold inR; omega) ?_
  refine z_sald hM dL_law_1693 (by omega) (by rw [hR.1 0 (-1)]; omega) ?_
  rw [hR.1 0 (i + 4)]
  refine z_inv4 hM dL_law_1694 vl_RL_169 rfl rfl rfl (Nat.le_of_ble_eq_true rfl) (Nat.le_of_ble_eq_true rfl) ?_
  refine x_watch hR.hh ?_
  obtain ⟨ρ2, e1⟩ : ∃ z : Mm, z = wtM σ ((S0 0 (i + 1))) ((S0 0 (i + 2))) ((S0 0 (i + 3))) ((S0 0 (i + 4))) := ⟨_, rfl⟩
  rw [← e1]
  have hG1 : GI ρ2 := by rw [e1]; exact hG.wt _ _ _ _
  have f1 : ∀ (c : Nat) (x y : Int), Fz c → ρ2 c x y = σ c x y := fun c x y q => by rw [e1]; exact wt_fz q
  have h01 : ∀ i j : Int, ρ2 0 i j = S0 i j := fun i j => (f1 0 i j (Or.inl rfl)).trans (hR.1 i j)
  have hS1 : RS 6 ρ2 σ ρ2 := hR.2.2.cl (fun c x y q => f1 c x y (Or.inr q))
  refine r_pop hC dL_law_1697 rfl ?_
  refine r_aload_n hC dL_law_1698 rfl ?_
  refine r_aload_n hC dL_law_1699 rfl ?_
  refine r_iload_n hC dL_law_1700 rfl ?_
  refine r_iconst hC dL_law_1701 rfl ?_
  refine r_iaddE hC ((i + 1)) dL_law_1702 (by omega) (by unfold inR; omega) ?_
  refine z_sald hM dL_law_1703 (by omega) (by rw [h01 0 (-1)]; omega) ?_
  rw [h01 0 (i + 1)]
  refine r_aload_n hC dL_law_1704 rfl ?_
  refine r_iload_n hC dL_law_1705 rfl ?_
  refine r_iconst hC dL_law_1706 rfl ?_
  refine r_iaddE hC ((i + 2)) dL_law_1707 (by omega) (by unfold inR; omega) ?_
  refine z_sald hM dL_law_1708 (by omega) (by rw [h01 0 (-1)]; omega) ?_
  rw [h01 0 (i + 2)]
  refine r_aload_n hC dL_law_1709 rfl ?_
  refine r_iload_n hC dL_law_1710 rfl ?_
  refine r_iconst hC dL_law_1711 rfl ?_
  refine r_iaddE hC ((i + 3)) dL_law_1712 (by omega) (by unfold inR; omega) ?_
  refine z_sald hM dL_law_1713 (by omega) (by rw [h01 0 (-1)]; omega) ?_
  rw [h01 0 (i + 3)]
  refine r_aload_n hC dL_law_1714 rfl ?_
  refine r_iload_n hC dL_law_1715 rfl ?_
  refine r_iconst hC dL_law_1716 rfl ?_
  refine r_iaddE hC ((i + 4)) dL_law_1717 (by omega) (by unfold inR; omega) ?_
  refine z_sald hM dL_law_1718 (by omega) (by rw [h01 0 (-1)]; omega) ?_
  rw [h01 0 (i + 4)]
  refine z_inv4 hM dL_law_1719 vl_RL_172 rfl rfl rfl (Nat.le_of_ble_eq_true rfl) (Nat.le_of_ble_eq_true rfl) ?_
  refine WT_dn (fun ρd ed => ?_)
  have hSd : RS 6 ρd σ ρd := hS1.tk ed
  refine y_watch (V := σ) ⟨by omega, by omega⟩ hSd hG (fun ρ9 R9 => ?_)
  have hp : RB S0 ρ9 := RB.mk (ρ1 := ρ2) h01 hG1 ed R9 (fun c x y _ _ _ => by rw [e1])
  refine r_pop hC dL_law_1722 rfl ?_
  refine r_goto (tgt := 2215) hC dL_law_1723 rfl ?_
  refine r_iincE hC (i + 6) dL_law_2215 rfl rfl (by omega) (by unfold inR; omega) ?_
  refine r_goto (tgt := 18) hC dL_law_2218 rfl ?_
  exact ih _ hp
theorem law_c38 {K : Nat → Lc → List Vl → Mm → Prop} {d : Nat} {S0 : Int → Int → Int} {σ : Mm} {i : Int} (hM : StpZ eT cL_law RL (WT eT (d + 11)) (KA eT K)) (h0 : 0 ≤ i) (h6 : i + 6 ≤ S0 0 (-1)) (hN : S0 0 (-1) ≤ 3072) (hR : RB S0 σ) (ih : ∀ ρ : Mm, RB S0 ρ → KA eT K 18 [some (vR 0 0), some (vR 2 0), some (vR 30 0), some (vI (i + 6))] [] ρ) : KA eT K 1726 [some (vR 0 0), some (vR 2 0), some (vR 30 0), some (vI i)] [] σ := by
  have hC := hM.1
  have hG := hR.2.1
  refine r_aload_n hC dL_law_1726 rfl ?_
  refine r_aload_n hC dL_law_1727 rfl ?_
  refine r_iload_n hC dL_law_1728 rfl ?_
  refine r_iconst hC dL_law_1729 rfl ?_
  refine r_iaddE hC ((i + 1)) dL_law_1730 (by omega) (by unfold inR; omega) ?_
  refine z_sald hM dL_law_1731 (by omega) (by rw [hR.1 0 (-1)]; omega) ?_
  rw [hR.1 0 (i + 1)]
  refine z_inv1 hM dL_law_1732 vl_RL_173 rfl rfl rfl (Nat.le_of_ble_eq_true rfl) (Nat.le_of_ble_eq_true rfl) ?_
  refine qs_rings (fun r1 h_r1 => ?_)
  refine r_pop hC dL_law_1735 rfl ?_
  refine r_aload_n hC dL_law_1736 rfl ?_
  refine r_aload_n hC dL_law_1737 rfl ?_
  refine r_iload_n hC dL_law_1738 rfl ?_
  refine r_iconst hC dL_law_1739 rfl ?_
  refine r_iaddE hC ((i + 1)) dL_law_1740 (by omega) (by unfold inR; omega) ?_
  refine z_sald hM dL_law_1741 (by omega) (by rw [hR.1 0 (-1)]; omega) ?_
  rw [hR.1 0 (i + 1)]
  refine z_inv1 hM dL_law_1742 vl_RL_176 rfl rfl rfl (Nat.le_of_ble_eq_true rfl) (Nat.le_of_ble_eq_true rfl) ?_
  refine WT_q (qm_rings (fun r2 h_r2 => ?_))
  refine r_pop hC dL_law_1745 rfl ?_
  refine r_goto (tgt := 2215) hC dL_law_1746 rfl ?_
  refine r_iincE hC (i + 6) dL_law_2215 rfl rfl (by omega) (by unfold inR; omega) ?_
  refine r_goto (tgt := 18) hC dL_law_2218 rfl ?_
  exact ih _ hR
theorem law_c39 {K : Nat → Lc → List Vl → Mm → Prop} {d : Nat} {S0 : Int → Int → Int} {σ : Mm} {i : Int} (hM : StpZ eT cL_law RL (WT eT (d + 11)) (KA eT K)) (h0 : 0 ≤ i) (h6 : i + 6 ≤ S0 0 (-1)) (hN : S0 0 (-1) ≤ 3072) (hR : RB S0 σ) (ih : ∀ ρ : Mm, RB S0 ρ → KA eT K 18 [some (vR 0 0), some (vR 2 0), some (vR 30 0), some (vI (i + 6))] [] ρ) : KA eT K 1749 [some (vR 0 0), some (vR 2 0), some (vR 30 0), some (vI i)] [] σ := by
  have hC := hM.1
  have hG := hR.2.1
  refine r_aload_n hC dL_law_1749 rfl ?_
  refine r_aload_n hC dL_law_1750 rfl ?_
  refine r_iload_n hC dL_law_1751 rfl ?_
  refine r_iconst hC dL_law_1752 rfl ?_
  refine r_iaddE hC ((i + 1)) dL_law_1753 (by omega) (by unfold inR; omega) ?_
  refine z_sald hM dL_law_1754 (by omega) (by rw [hR.1 0 (-1)]; omega) ?_
  rw [hR.1 0 (i + 1)]
  refine z_inv1 hM dL_law_1755 vl_RL_177 rfl rfl rfl (Nat.le_of_ble_eq_true rfl) (Nat.le_of_ble_eq_true rfl) ?_
  refine qs_rang (fun r1 h_r1 => ?_)
  refine r_pop hC dL_law_1758 rfl ?_
  refine r_aload_n hC dL_law_1759 rfl ?_
  refine r_aload_n hC dL_law_1760 rfl ?_
  refine r_iload_n hC dL_law_1761 rfl ?_
  refine r_iconst hC dL_law_1762 rfl ?_
  refine r_iaddE hC ((i + 1)) dL_law_1763 (by omega) (by unfold inR; omega) ?_
  refine z_sald hM dL_law_1764 (by omega) (by rw [hR.1 0 (-1)]; omega) ?_
  rw [hR.1 0 (i + 1)]
  refine z_inv1 hM dL_law_1765 vl_RL_180 rfl rfl rfl (Nat.le_of_ble_eq_true rfl) (Nat.le_of_ble_eq_true rfl) ?_
  refine WT_q (qm_rang (fun r2 h_r2 => ?_))
  refine r_pop hC dL_law_1768 rfl ?_
  refine r_goto (tgt := 2215) hC dL_law_1769 rfl ?_
  refine r_iincE hC (i + 6) dL_law_2215 rfl rfl (by omega) (by unfold inR; omega) ?_
  refine r_goto (tgt := 18) hC dL_law_2218 rfl ?_
  exact ih _ hR
theorem law_c40 {K : Nat → Lc → List Vl → Mm → Prop} {d : Nat} {S0 : Int → Int → Int} {σ : Mm} {i : Int} (hM : StpZ eT cL_law RL (WT eT (d + 11)) (KA eT K)) (h0 : 0 ≤ i) (h6 : i + 6 ≤ S0 0 (-1)) (hN : S0 0 (-1) ≤ 3072) (hR : RB S0 σ) (ih : ∀ ρ : Mm, RB S0 ρ → KA eT K 18 [some (vR 0 0), some (vR 2 0), some (vR 30 0), some (vI (i + 6))] [] ρ) : KA eT K 1772 [some (vR 0 0), some (vR 2 0), some (vR 30 0), some (vI i)] [] σ := by
  have hC := hM.1
  have hG := hR.2.1
  refine r_aload_n hC dL_law_1772 rfl ?_
  refine r_aload_n hC dL_law_1773 rfl ?_
  refine r_iload_n hC dL_law_1774 rfl ?_
  refine r_iconst hC dL_law_1775 rfl ?_
  refine r_iaddE hC ((i + 1)) dL_law_1776 (by omega) (by unfold inR; omega) ?_
  refine z_sald hM dL_law_1777 (by omega) (by rw [hR.1 0 (-1)]; omega) ?_
  rw [hR.1 0 (i + 1)]
  refine r_aload_n hC dL_law_1778 rfl ?_
  refine r_iload_n hC dL_law_1779 rfl ?_
  refine r_iconst hC dL_law_1780 rfl ?_
  refine r_iaddE hC ((i + 2)) dL_law_1781 (by omega) (by unfold inR; omega) ?_
  refine z_sald hM dL_law_1782 (by omega) (by rw [hR.1 0 (-1)]; omega) ?_
  rw [hR.1 0 (i + 2)]
  refine r_aload_n hC dL_law_1783 rfl ?_
  refine r_iload_n hC dL_law_1784 rfl ?_
  refine r_iconst hC dL_law_1785 rfl ?_
  refine r_iaddE hC ((i + 3)) dL_law_1786 (by omega) (by unfold inR; omega) ?_
  refine z_sald hM dL_law_1787 (by omega) (by rw [hR.1 0 (-1)]; omega) ?_
  rw [hR.1 0 (i + 3)]
  refine r_aload_n hC dL_law_1788 rfl ?_
  refine r_iload_n hC dL_law_1789 rfl ?_
  refine r_iconst hC dL_law_1790 rfl ?_
  refine r_iaddE hC ((i + 4)) dL_law_1791 (by omega) (by unfold inR; omega) ?_
  refine z_sald hM dL_law_1792 (by omega) (by rw [hR.1 0 (-1)]; omega) ?_
  rw [hR.1 0 (i + 4)]
  refine z_inv4 hM dL_law_1793 vl_RL_181 rfl rfl rfl (Nat.le_of_ble_eq_true rfl) (Nat.le_of_ble_eq_true rfl) ?_
  refine x_link (fun c1 => ?_) (fun c0 => ?_)
  · obtain ⟨ρ2, e1⟩ : ∃ z : Mm, z = lkM σ ((S0 0 (i + 1))) ((S0 0 (i + 2))) ((S0 0 (i + 3))) ((S0 0 (i + 4))) := ⟨_, rfl⟩
    rw [← e1]
    have hG1 : GI ρ2 := by rw [e1]; exact hG.lk c1
    have f1 : ∀ (c : Nat) (x y : Int), Fz c → ρ2 c x y = σ c x y := fun c x y q => by rw [e1]; exact lk_fz q
    have h01 : ∀ i j : Int, ρ2 0 i j = S0 i j := fun i j => (f1 0 i j (Or.inl rfl)).trans (hR.1 i j)
    have hS1 : RS 6 ρ2 σ ρ2 := hR.2.2.cl (fun c x y q => f1 c x y (Or.inr q))
    refine r_pop hC dL_law_1796 rfl ?_
    refine r_aload_n hC dL_law_1797 rfl ?_
    refine r_aload_n hC dL_law_1798 rfl ?_
    refine r_iload_n hC dL_law_1799 rfl ?_
    refine r_iconst hC dL_law_1800 rfl ?_
    refine r_iaddE hC ((i + 1)) dL_law_1801 (by omega) (by unfold inR; omega) ?_
    refine z_sald hM dL_law_1802 (by omega) (by rw [h01 0 (-1)]; omega) ?_
    rw [h01 0 (i + 1)]
    refine r_aload_n hC dL_law_1803 rfl ?_
    refine r_iload_n hC dL_law_1804 rfl ?_
    refine r_iconst hC dL_law_1805 rfl ?_
    refine r_iaddE hC ((i + 2)) dL_law_1806 (by omega) (by unfold inR; omega) ?_
    refine z_sald hM dL_law_1807 (by omega) (by rw [h01 0 (-1)]; omega) ?_
    rw [h01 0 (i + 2)]
    refine r_aload_n hC dL_law_1808 rfl ?_
    refine r_iload_n hC dL_law_1809 rfl ?_
    refine r_iconst hC dL_law_1810 rfl ?_
    refine r_iaddE hC ((i + 3)) dL_law_1811 (by omega) (by unfold inR; omega) ?_
    refine z_sald hM dL_law_1812 (by omega) (by rw [h01 0 (-1)]; omega) ?_
    rw [h01 0 (i + 3)]
    refine r_aload_n hC dL_law_1813 rfl ?_
    refine r_iload_n hC dL_law_1814 rfl ?_
    refine r_iconst hC dL_law_1815 rfl ?_
    refine r_iaddE hC ((i + 4)) dL_law_1816 (by omega) (by unfold inR; omega) ?_
    refine z_sald hM dL_law_1817 (by omega) (by rw [h01 0 (-1)]; omega) ?_
    rw [h01 0 (i + 4)]
    refine z_inv4 hM dL_law_1818 vl_RL_185 rfl rfl rfl (Nat.le_of_ble_eq_true rfl) (Nat.le_of_ble_eq_true rfl) ?_
    refine WT_dn (fun ρd ed => ?_)
    have hSd : RS 6 ρd σ ρd := hS1.tk ed
    refine y_link (V := σ) ⟨by omega, by omega⟩ hSd hG (fun d1 ρ9 R9 => ?_) (fun d0 ρ9 R9 => ?_)
    · have hp : RB S0 ρ9 := RB.mk (ρ1 := ρ2) h01 hG1 ed R9 (fun c x y _ _ _ => by rw [e1])
      refine r_pop hC dL_law_1821 rfl ?_
      refine r_goto (tgt := 2215) hC dL_law_1822 rfl ?_
      refine r_iincE hC (i + 6) dL_law_2215 rfl rfl (by omega) (by unfold inR; omega) ?_
      refine r_goto (tgt := 18) hC dL_law_2218 rfl ?_
      exact ih _ hp
    · exact absurd c1 d0
  · refine r_pop hC dL_law_1796 rfl ?_
    refine r_aload_n hC dL_law_1797 rfl ?_
    refine r_aload_n hC dL_law_1798 rfl ?_
    refine r_iload_n hC dL_law_1799 rfl ?_
    refine r_iconst hC dL_law_1800 rfl ?_
    refine r_iaddE hC ((i + 1)) dL_law_1801 (by omega) (by unfold inR; omega) ?_
    refine z_sald hM dL_law_1802 (by omega) (by rw [hR.1 0 (-1)]; omega) ?_
    rw [hR.1 0 (i + 1)]
    refine r_aload_n hC dL_law_1803 rfl ?_
    refine r_iload_n hC dL_law_1804 rfl ?_
    refine r_iconst hC dL_law_1805 rfl ?_
    refine r_iaddE hC ((i + 2)) dL_law_1806 (by omega) (by unfold inR; omega) ?_
    refine z_sald hM dL_law_1807 (by omega) (by rw [hR.1 0 (-1)]; omega) ?_
    rw [hR.1 0 (i + 2)]
    refine r_aload_n hC dL_law_1808 rfl ?_
    refine r_iload_n hC dL_law_1809 rfl ?_
    refine r_iconst hC dL_law_1810 rfl ?_
    refine r_iaddE hC ((i + 3)) dL_law_1811 (by omega) (by unfold inR; omega) ?_
    refine z_sald hM dL_law_1812 (by omega) (by rw [hR.1 0 (-1)]; omega) ?_
    rw [hR.1 0 (i + 3)]
    refine r_aload_n hC dL_law_1813 rfl ?_
    refine r_iload_n hC dL_law_1814 rfl ?_
    refine r_iconst hC dL_law_1815 rfl ?_
    refine r_iaddE hC ((i + 4)) dL_law_1816 (by omega) (by unfold inR; omega) ?_
    refine z_sald hM dL_law_1817 (by omega) (by rw [hR.1 0 (-1)]; omega) ?_
    rw [hR.1 0 (i + 4)]
    refine z_inv4 hM dL_law_1818 vl_RL_185 rfl rfl rfl (Nat.le_of_ble_eq_true rfl) (Nat.le_of_ble_eq_true rfl) ?_
    refine WT_dn (fun ρd ed => ?_)
    have hSd : RS 6 ρd σ ρd := hR.2.2.tk ed
    refine y_link (V := σ) ⟨by omega, by omega⟩ hSd hG (fun d1 ρ9 R9 => ?_) (fun d0 ρ9 R9 => ?_)
    · exact absurd d1 c0
    · have hp : RB S0 ρ9 := RB.mk (ρ1 := σ) hR.1 hG ed R9 (fun _ _ _ _ _ _ => rfl)
      refine r_pop hC dL_law_1821 rfl ?_
      refine r_goto (tgt := 2215) hC dL_law_1822 rfl ?_
      refine r_iincE hC (i + 6) dL_law_2215 rfl rfl (by omega) (by unfold inR; omega) ?_
      refine r_goto (tgt := 18) hC dL_law_2218 rfl ?_
      exact ih _ hp
theorem law_c41 {K : Nat → Lc → List Vl → Mm → Prop} {d : Nat} {S0 : Int → Int → Int} {σ : Mm} {i : Int} (hM : StpZ eT cL_law RL (WT eT (d + 11)) (KA eT K)) (h0 : 0 ≤ i) (h6 : i + 6 ≤ S0 0 (-1)) (hN : S0 0 (-1) ≤ 3072) (hR : RB S0 σ) (ih : ∀ ρ : Mm, RB S0 ρ → KA eT K 18 [some (vR 0 0), some (vR 2 0), some (vR 30 0), some (vI (i + 6))] [] ρ) : KA eT K 1825 [some (vR 0 0), some (vR 2 0), some (vR 30 0), some (vI i)] [] σ := by
  have hC := hM.1
  have hG := hR.2.1
  refine r_aload_n hC dL_law_1825 rfl ?_
  refine r_aload_n hC dL_law_1826 rfl ?_
  refine r_iload_n hC dL_law_1827 rfl ?_
  refine r_iconst hC dL_law_1828 rfl ?_
  refine r_iaddE hC ((i + 1)) dL_law_1829 (by omega) (by unfold inR; omega) ?_
  refine z_sald hM dL_law_1830 (by omega) (by rw [hR.1 0 (-1)]; omega) ?_
  rw [hR.1 0 (i + 1)]
  refine z_inv1 hM dL_law_1831 vl_RL_186 rfl rfl rfl (Nat.le_of_ble_eq_true rfl) (Nat.le_of_ble_eq_true rfl) ?_
  refine x_unlink ?_
  obtain ⟨ρ2, e1⟩ : ∃ z : Mm, z = ulM σ ((S0 0 (i + 1))) := ⟨_, rfl⟩
  rw [← e1]
  have hG1 : GI ρ2 := by rw [e1]; exact hG.ul _
  have f1 : ∀ (c : Nat) (x y : Int), Fz c → ρ2 c x y = σ c x y := fun c x y q => by rw [e1]; exact ul_fz q
  have h01 : ∀ i j : Int, ρ2 0 i j = S0 i j := fun i j => (f1 0 i j (Or.inl rfl)).trans (hR.1 i j)
  have hS1 : RS 6 ρ2 σ ρ2 := hR.2.2.cl (fun c x y q => f1 c x y (Or.inr q))
  refine r_pop hC dL_law_1834 rfl ?_
  refine r_aload_n hC dL_law_1835 rfl ?_
  refine r_aload_n hC dL_law_1836 rfl ?_
  refine r_iload_n hC dL_law_1837 rfl ?_
  refine r_iconst hC dL_law_1838 rfl ?_
  refine r_iaddE hC ((i + 1)) dL_law_1839 (by omega) (by unfold inR; omega) ?_
  refine z_sald hM dL_law_1840 (by omega) (by rw [h01 0 (-1)]; omega) ?_
  rw [h01 0 (i + 1)]
  refine z_inv1 hM dL_law_1841 vl_RL_189 rfl rfl rfl (Nat.le_of_ble_eq_true rfl) (Nat.le_of_ble_eq_true rfl) ?_
  refine WT_dn (fun ρd ed => ?_)
  have hSd : RS 6 ρd σ ρd := hS1.tk ed
  refine y_unlink (V := σ) ⟨by omega, by omega⟩ hSd hG (fun ρ9 R9 => ?_)
  have hp : RB S0 ρ9 := RB.mk (ρ1 := ρ2) h01 hG1 ed R9 (fun c x y _ _ _ => by rw [e1])
  refine r_pop hC dL_law_1844 rfl ?_
  refine r_goto (tgt := 2215) hC dL_law_1845 rfl ?_
  refine r_iincE hC (i + 6) dL_law_2215 rfl rfl (by omega) (by unfold inR; omega) ?_
  refine r_goto (tgt := 18) hC dL_law_2218 rfl ?_
  exact ih _ hp
theorem law_c42 {K : Nat → Lc → List Vl → Mm → Prop} {d : Nat} {S0 : Int → Int → Int} {σ : Mm} {i : Int} (hM : StpZ eT cL_law RL (WT eT (d + 11)) (KA eT K)) (h0 : 0 ≤ i) (h6 : i + 6 ≤ S0 0 (-1)) (hN : S0 0 (-1) ≤ 3072) (hR : RB S0 σ) (ih : ∀ ρ : Mm, RB S0 ρ → KA eT K 18 [some (vR 0 0), some (vR 2 0), some (vR 30 0), some (vI (i + 6))] [] ρ) : KA eT K 1848 [some (vR 0 0), some (vR 2 0), some (vR 30 0), some (vI i)] [] σ := by
  have hC := hM.1
  have hG := hR.2.1
  refine r_aload_n hC dL_law_1848 rfl ?_
  refine r_aload_n hC dL_law_1849 rfl ?_
  refine r_iload_n hC dL_law_1850 rfl ?_
  refine r_iconst hC dL_law_1851 rfl ?_
  refine r_iaddE hC ((i + 1)) dL_law_1852 (by omega) (by unfold inR; omega) ?_
  refine z_sald hM dL_law_1853 (by omega) (by rw [hR.1 0 (-1)]; omega) ?_
  rw [hR.1 0 (i + 1)]
  refine r_aload_n hC dL_law_1854 rfl ?_
  refine r_iload_n hC dL_law_1855 rfl ?_
  refine r_iconst hC dL_law_1856 rfl ?_
  refine r_iaddE hC ((i + 2)) dL_law_1857 (by omega) (by unfold inR; omega) ?_
  refine z_sald hM dL_law_1858 (by omega) (by rw [hR.1 0 (-1)]; omega) ?_
  rw [hR.1 0 (i + 2)]
  refine z_inv2 hM dL_law_1859 vl_RL_190 rfl rfl rfl (Nat.le_of_ble_eq_true rfl) (Nat.le_of_ble_eq_true rfl) ?_
  refine qs_linked (fun r1 h_r1 => ?_)
  refine r_pop hC dL_law_1862 rfl ?_
  refine r_aload_n hC dL_law_1863 rfl ?_
  refine r_aload_n hC dL_law_1864 rfl ?_
  refine r_iload_n hC dL_law_1865 rfl ?_
  refine r_iconst hC dL_law_1866 rfl ?_
  refine r_iaddE hC ((i + 1)) dL_law_1867 (by omega) (by unfold inR; omega) ?_
  refine z_sald hM dL_law_1868 (by omega) (by rw [hR.1 0 (-1)]; omega) ?_
  rw [hR.1 0 (i + 1)]
  refine r_aload_n hC dL_law_1869 rfl ?_
  refine r_iload_n hC dL_law_1870 rfl ?_
  refine r_iconst hC dL_law_1871 rfl ?_
  refine r_iaddE hC ((i + 2)) dL_law_1872 (by omega) (by unfold inR; omega) ?_
  refine z_sald hM dL_law_1873 (by omega) (by rw [hR.1 0 (-1)]; omega) ?_
  rw [hR.1 0 (i + 2)]
  refine z_inv2 hM dL_law_1874 vl_RL_193 rfl rfl rfl (Nat.le_of_ble_eq_true rfl) (Nat.le_of_ble_eq_true rfl) ?_
  refine WT_q (qm_linked (fun r2 h_r2 => ?_))
  refine r_pop hC dL_law_1877 rfl ?_
  refine r_goto (tgt := 2215) hC dL_law_1878 rfl ?_
  refine r_iincE hC (i + 6) dL_law_2215 rfl rfl (by omega) (by unfold inR; omega) ?_
  refine r_goto (tgt := 18) hC dL_law_2218 rfl ?_
  exact ih _ hR
theorem law_c43 {K : Nat → Lc → List Vl → Mm → Prop} {d : Nat} {S0 : Int → Int → Int} {σ : Mm} {i : Int} (hM : StpZ eT cL_law RL (WT eT (d + 11)) (KA eT K)) (h0 : 0 ≤ i) (h6 : i + 6 ≤ S0 0 (-1)) (hN : S0 0 (-1) ≤ 3072) (hR : RB S0 σ) (ih : ∀ ρ : Mm, RB S0 ρ → KA eT K 18 [some (vR 0 0), some (vR 2 0), some (vR 30 0), some (vI (i + 6))] [] ρ) : KA eT K 1881 [some (vR 0 0), some (vR 2 0), some (vR 30 0), some (vI i)] [] σ := by
  have hC := hM.1
  have hG := hR.2.1
  refine r_aload_n hC dL_law_1881 rfl ?_
  refine r_aload_n hC dL_law_1882 rfl ?_
  refine r_iload_n hC dL_law_1883 rfl ?_
  refine r_iconst hC dL_law_1884 rfl ?_
  refine r_iaddE hC ((i + 1)) dL_law_1885 (by omega) (by unfold inR; omega) ?_
  refine z_sald hM dL_law_1886 (by omega) (by rw [hR.1 0 (-1)]; omega) ?_
  rw [hR.1 0 (i + 1)]
  refine r_aload_n hC dL_law_1887 rfl ?_
  refine r_iload_n hC dL_law_1888 rfl ?_
  refine r_iconst hC dL_law_1889 rfl ?_
  refine r_iaddE hC ((i + 2)) dL_law_1890 (by omega) (by unfold inR; omega) ?_
  refine z_sald hM dL_law_1891 (by omega) (by rw [hR.1 0 (-1)]; omega) ?_
  rw [hR.1 0 (i + 2)]
  refine r_aload_n hC dL_law_1892 rfl ?_
  refine r_iload_n hC dL_law_1893 rfl ?_
  refine r_iconst hC dL_law_1894 rfl ?_
  refine r_iaddE hC ((i + 3)) dL_law_1895 (by omega) (by unfold inR; omega) ?_
  refine z_sald hM dL_law_1896 (by omega) (by rw [hR.1 0 (-1)]; omega) ?_
  rw [hR.1 0 (i + 3)]
  refine r_aload_n hC dL_law_1897 rfl ?_
  refine r_iload_n hC dL_law_1898 rfl ?_
  refine r_iconst hC dL_law_1899 rfl ?_
  refine r_iaddE hC ((i + 4)) dL_law_1900 (by omega) (by unfold inR; omega) ?_
  refine z_sald hM dL_law_1901 (by omega) (by rw [hR.1 0 (-1)]; omega) ?_
  rw [hR.1 0 (i + 4)]
  refine z_inv4 hM dL_law_1902 vl_RL_194 rfl rfl rfl (Nat.le_of_ble_eq_true rfl) (Nat.le_of_ble_eq_true rfl) ?_
  refine WT_q (qs_shortest (fun r1 h_r1 => ?_))
  refine r_pop hC dL_law_1905 rfl ?_
  refine r_aload_n hC dL_law_1906 rfl ?_
  refine r_aload_n hC dL_law_1907 rfl ?_
  refine r_iload_n hC dL_law_1908 rfl ?_
  refine r_iconst hC dL_law_1909 rfl ?_
  refine r_iaddE hC ((i + 1)) dL_law_1910 (by omega) (by unfold inR; omega) ?_
  refine z_sald hM dL_law_1911 (by omega) (by rw [hR.1 0 (-1)]; omega) ?_
  rw [hR.1 0 (i + 1)]
  refine r_aload_n hC dL_law_1912 rfl ?_
  refine r_iload_n hC dL_law_1913 rfl ?_
  refine r_iconst hC dL_law_1914 rfl ?_
  refine r_iaddE hC ((i + 2)) dL_law_1915 (by omega) (by unfold inR; omega) ?_
  refine z_sald hM dL_law_1916 (by omega) (by rw [hR.1 0 (-1)]; omega) ?_
  rw [hR.1 0 (i + 2)]
  refine r_aload_n hC dL_law_1917 rfl ?_
  refine r_iload_n hC dL_law_1918 rfl ?_
  refine r_iconst hC dL_law_1919 rfl ?_
  refine r_iaddE hC ((i + 3)) dL_law_1920 (by omega) (by unfold inR; omega) ?_
  refine z_sald hM dL_law_1921 (by omega) (by rw [hR.1 0 (-1)]; omega) ?_
  rw [hR.1 0 (i + 3)]
  refine r_aload_n hC dL_law_1922 rfl ?_
  refine r_iload_n hC dL_law_1923 rfl ?_
  refine r_iconst hC dL_law_1924 rfl ?_
  refine r_iaddE hC ((i + 4)) dL_law_1925 (by omega) (by unfold inR; omega) ?_
  refine z_sald hM dL_law_1926 (by omega) (by rw [hR.1 0 (-1)]; omega) ?_
  rw [hR.1 0 (i + 4)]
  refine z_inv4 hM dL_law_1927 vl_RL_197 rfl rfl rfl (Nat.le_of_ble_eq_true rfl) (Nat.le_of_ble_eq_true rfl) ?_
  refine WT_q (qm_shortest_S rfl hR.hm (fun r2 h_r2 => ?_))
  refine r_pop hC dL_law_1930 rfl ?_
  refine r_goto (tgt := 2215) hC dL_law_1931 rfl ?_
  refine r_iincE hC (i + 6) dL_law_2215 rfl rfl (by omega) (by unfold inR; omega) ?_
  refine r_goto (tgt := 18) hC dL_law_2218 rfl ?_
  exact ih _ hR
theorem law_c44 {K : Nat → Lc → List Vl → Mm → Prop} {d : Nat} {S0 : Int → Int → Int} {σ : Mm} {i : Int} (hM : StpZ eT cL_law RL (WT eT (d + 11)) (KA eT K)) (h0 : 0 ≤ i) (h6 : i + 6 ≤ S0 0 (-1)) (hN : S0 0 (-1) ≤ 3072) (hR : RB S0 σ) (ih : ∀ ρ : Mm, RB S0 ρ → KA eT K 18 [some (vR 0 0), some (vR 2 0), some (vR 30 0), some (vI (i + 6))] [] ρ) : KA eT K 1934 [some (vR 0 0), some (vR 2 0), some (vR 30 0), some (vI i)] [] σ := by
  have hC := hM.1
  have hG := hR.2.1
  refine r_aload_n hC dL_law_1934 rfl ?_
  refine r_aload_n hC dL_law_1935 rfl ?_
  refine r_iload_n hC dL_law_1936 rfl ?_
  refine r_iconst hC dL_law_1937 rfl ?_
  refine r_iaddE hC ((i + 1)) dL_law_1938 (by omega) (by unfold inR; omega) ?_
  refine z_sald hM dL_law_1939 (by omega) (by rw [hR.1 0 (-1)]; omega) ?_
  rw [hR.1 0 (i + 1)]
  refine r_aload_n hC dL_law_1940 rfl ?_
  refine r_iload_n hC dL_law_1941 rfl ?_
  refine r_iconst hC dL_law_1942 rfl ?_
  refine r_iaddE hC ((i + 2)) dL_law_1943 (by omega) (by unfold inR; omega) ?_
  refine z_sald hM dL_law_1944 (by omega) (by rw [hR.1 0 (-1)]; omega) ?_
  rw [hR.1 0 (i + 2)]
  refine r_aload_n hC dL_law_1945 rfl ?_
  refine r_iload_n hC dL_law_1946 rfl ?_
  refine r_iconst hC dL_law_1947 rfl ?_
  refine r_iaddE hC ((i + 3)) dL_law_1948 (by omega) (by unfold inR; omega) ?_
  refine z_sald hM dL_law_1949 (by omega) (by rw [hR.1 0 (-1)]; omega) ?_
  rw [hR.1 0 (i + 3)]
  refine r_aload_n hC dL_law_1950 rfl ?_
  refine r_iload_n hC dL_law_1951 rfl ?_
  refine r_iconst hC dL_law_1952 rfl ?_
  refine r_iaddE hC ((i + 4)) dL_law_1953 (by omega) (by unfold inR; omega) ?_
  refine z_sald hM dL_law_1954 (by omega) (by rw [hR.1 0 (-1)]; omega) ?_
  rw [hR.1 0 (i + 4)]
  refine z_inv4 hM dL_law_1955 vl_RL_198 rfl rfl rfl (Nat.le_of_ble_eq_true rfl) (Nat.le_of_ble_eq_true rfl) ?_
  refine x_windows hG ?_
  refine r_aload_n hC dL_law_1958 rfl ?_
  refine r_aload_n hC dL_law_1959 rfl ?_
  refine r_iload_n hC dL_law_1960 rfl ?_
  refine r_iconst hC dL_law_1961 rfl ?_
  refine r_iaddE hC ((i + 1)) dL_law_1962 (by omega) (by unfold inR; omega) ?_
  refine z_sald hM dL_law_1963 (by omega) (by rw [hR.1 0 (-1)]; omega) ?_
  rw [hR.1 0 (i + 1)]
  refine r_aload_n hC dL_law_1964 rfl ?_
  refine r_iload_n hC dL_law_1965 rfl ?_
  refine r_iconst hC dL_law_1966 rfl ?_
  refine r_iaddE hC ((i + 2)) dL_law_1967 (by omega) (by unfold inR; omega) ?_
  refine z_sald hM dL_law_1968 (by omega) (by rw [hR.1 0 (-1)]; omega) ?_
  rw [hR.1 0 (i + 2)]
  refine r_aload_n hC dL_law_1969 rfl ?_
  refine r_iload_n hC dL_law_1970 rfl ?_
  refine r_iconst hC dL_law_1971 rfl ?_
  refine r_iaddE hC ((i + 3)) dL_law_1972 (by omega) (by unfold inR; omega) ?_
  refine z_sald hM dL_law_1973 (by omega) (by rw [hR.1 0 (-1)]; omega) ?_
  rw [hR.1 0 (i + 3)]
  refine r_aload_n hC dL_law_1974 rfl ?_
  refine r_iload_n hC dL_law_1975 rfl ?_
  refine r_iconst hC dL_law_1976 rfl ?_
  refine r_iaddE hC ((i + 4)) dL_law_1977 (by omega) (by unfold inR; omega) ?_
  refine z_sald hM dL_law_1978 (by omega) (by rw [hR.1 0 (-1)]; omega) ?_
  rw [hR.1 0 (i + 4)]
  refine z_inv4 hM dL_law_1979 vl_RL_201 rfl rfl rfl (Nat.le_of_ble_eq_true rfl) (Nat.le_of_ble_eq_true rfl) ?_
  refine WT_dn (fun ρd ed => ?_)
  have hSd : RS 6 ρd σ ρd := hR.2.2.tk ed
  refine y_windows (V := σ) ⟨by omega, by omega⟩ hSd hG (fun ρ9 R9 => ?_)
  have hp : RB S0 ρ9 := RB.mk (ρ1 := σ) hR.1 hG ed R9 (fun _ _ _ _ _ _ => rfl)
  refine r_icmp_eq (tgt := 2215) hC dL_law_1982 rfl (fun h3 => ?_) (fun h3 => ?_)
  · refine r_iincE hC (i + 6) dL_law_2215 rfl rfl (by omega) (by unfold inR; omega) ?_
    refine r_goto (tgt := 18) hC dL_law_2218 rfl ?_
    exact ih _ hp
  · exfalso
    omega
theorem law_c45 {K : Nat → Lc → List Vl → Mm → Prop} {d : Nat} {S0 : Int → Int → Int} {σ : Mm} {i : Int} (hM : StpZ eT cL_law RL (WT eT (d + 11)) (KA eT K)) (h0 : 0 ≤ i) (h6 : i + 6 ≤ S0 0 (-1)) (hN : S0 0 (-1) ≤ 3072) (hR : RB S0 σ) (ih : ∀ ρ : Mm, RB S0 ρ → KA eT K 18 [some (vR 0 0), some (vR 2 0), some (vR 30 0), some (vI (i + 6))] [] ρ) : KA eT K 1987 [some (vR 0 0), some (vR 2 0), some (vR 30 0), some (vI i)] [] σ := by
  have hC := hM.1
  have hG := hR.2.1
  refine r_aload_n hC dL_law_1987 rfl ?_
  refine r_aload_n hC dL_law_1988 rfl ?_
  refine r_iload_n hC dL_law_1989 rfl ?_
  refine r_iconst hC dL_law_1990 rfl ?_
  refine r_iaddE hC ((i + 1)) dL_law_1991 (by omega) (by unfold inR; omega) ?_
  refine z_sald hM dL_law_1992 (by omega) (by rw [hR.1 0 (-1)]; omega) ?_
  rw [hR.1 0 (i + 1)]
  refine r_aload_n hC dL_law_1993 rfl ?_
  refine r_iload_n hC dL_law_1994 rfl ?_
  refine r_iconst hC dL_law_1995 rfl ?_
  refine r_iaddE hC ((i + 2)) dL_law_1996 (by omega) (by unfold inR; omega) ?_
  refine z_sald hM dL_law_1997 (by omega) (by rw [hR.1 0 (-1)]; omega) ?_
  rw [hR.1 0 (i + 2)]
  refine r_aload_n hC dL_law_1998 rfl ?_
  refine r_iload_n hC dL_law_1999 rfl ?_
  refine r_iconst hC dL_law_2000 rfl ?_
  refine r_iaddE hC ((i + 3)) dL_law_2001 (by omega) (by unfold inR; omega) ?_
  refine z_sald hM dL_law_2002 (by omega) (by rw [hR.1 0 (-1)]; omega) ?_
  rw [hR.1 0 (i + 3)]
  refine r_aload_n hC dL_law_2003 rfl ?_
  refine r_iload_n hC dL_law_2004 rfl ?_
  refine r_iconst hC dL_law_2005 rfl ?_
  refine r_iaddE hC ((i + 4)) dL_law_2006 (by omega) (by unfold inR; omega) ?_
  refine z_sald hM dL_law_2007 (by omega) (by rw [hR.1 0 (-1)]; omega) ?_
  rw [hR.1 0 (i + 4)]
  refine z_inv4 hM dL_law_2008 vl_RL_202 rfl rfl rfl (Nat.le_of_ble_eq_true rfl) (Nat.le_of_ble_eq_true rfl) ?_
  refine WT_q (qs_were (fun r1 h_r1 => ?_))
  refine r_pop hC dL_law_2011 rfl ?_
  refine r_aload_n hC dL_law_2012 rfl ?_
  refine r_aload_n hC dL_law_2013 rfl ?_
  refine r_iload_n hC dL_law_2014 rfl ?_
  refine r_iconst hC dL_law_2015 rfl ?_
  refine r_iaddE hC ((i + 1)) dL_law_2016 (by omega) (by unfold inR; omega) ?_
  refine z_sald hM dL_law_2017 (by omega) (by rw [hR.1 0 (-1)]; omega) ?_
  rw [hR.1 0 (i + 1)]
  refine r_aload_n hC dL_law_2018 rfl ?_
  refine r_iload_n hC dL_law_2019 rfl ?_
  refine r_iconst hC dL_law_2020 rfl ?_
  refine r_iaddE hC ((i + 2)) dL_law_2021 (by omega) (by unfold inR; omega) ?_
  refine z_sald hM dL_law_2022 (by omega) (by rw [hR.1 0 (-1)]; omega) ?_
  rw [hR.1 0 (i + 2)]
  refine r_aload_n hC dL_law_2023 rfl ?_
  refine r_iload_n hC dL_law_2024 rfl ?_
  refine r_iconst hC dL_law_2025 rfl ?_
  refine r_iaddE hC ((i + 3)) dL_law_2026 (by omega) (by unfold inR; omega) ?_
  refine z_sald hM dL_law_2027 (by omega) (by rw [hR.1 0 (-1)]; omega) ?_
  rw [hR.1 0 (i + 3)]
  refine r_aload_n hC dL_law_2028 rfl ?_
  refine r_iload_n hC dL_law_2029 rfl ?_
  refine r_iconst hC dL_law_2030 rfl ?_
  refine r_iaddE hC ((i + 4)) dL_law_2031 (by omega) (by unfold inR; omega) ?_
  refine z_sald hM dL_law_2032 (by omega) (by rw [hR.1 0 (-1)]; omega) ?_
  rw [hR.1 0 (i + 4)]
  refine z_inv4 hM dL_law_2033 vl_RL_205 rfl rfl rfl (Nat.le_of_ble_eq_true rfl) (Nat.le_of_ble_eq_true rfl) ?_
  refine WT_dn (fun ρd ed => ?_)
  have hSd : RS 6 ρd σ ρd := hR.2.2.tk ed
  refine y_were (V := σ) ⟨by omega, by omega⟩ hSd hG (fun r2 ρ9 hA9 R9 => ?_)
  have hp : RB S0 ρ9 := RB.mk (ρ1 := σ) hR.1 hG ed R9 (fun _ _ _ _ _ _ => rfl)
  refine r_pop hC dL_law_2036 rfl ?_
  refine r_goto (tgt := 2215) hC dL_law_2037 rfl ?_
  refine r_iincE hC (i + 6) dL_law_2215 rfl rfl (by omega) (by unfold inR; omega) ?_
  refine r_goto (tgt := 18) hC dL_law_2218 rfl ?_
  exact ih _ hp
theorem law_c46 {K : Nat → Lc → List Vl → Mm → Prop} {d : Nat} {S0 : Int → Int → Int} {σ : Mm} {i : Int} (hM : StpZ eT cL_law RL (WT eT (d + 11)) (KA eT K)) (h0 : 0 ≤ i) (h6 : i + 6 ≤ S0 0 (-1)) (hN : S0 0 (-1) ≤ 3072) (hR : RB S0 σ) (ih : ∀ ρ : Mm, RB S0 ρ → KA eT K 18 [some (vR 0 0), some (vR 2 0), some (vR 30 0), some (vI (i + 6))] [] ρ) : KA eT K 2040 [some (vR 0 0), some (vR 2 0), some (vR 30 0), some (vI i)] [] σ := by
  have hC := hM.1
  have hG := hR.2.1
  refine r_aload_n hC dL_law_2040 rfl ?_
  refine r_aload_n hC dL_law_2041 rfl ?_
  refine r_iload_n hC dL_law_2042 rfl ?_
  refine r_iconst hC dL_law_2043 rfl ?_
  refine r_iaddE hC ((i + 1)) dL_law_2044 (by omega) (by unfold inR; omega) ?_
  refine z_sald hM dL_law_2045 (by omega) (by rw [hR.1 0 (-1)]; omega) ?_
  rw [hR.1 0 (i + 1)]
  refine r_aload_n hC dL_law_2046 rfl ?_
  refine r_iload_n hC dL_law_2047 rfl ?_
  refine r_iconst hC dL_law_2048 rfl ?_
  refine r_iaddE hC ((i + 2)) dL_law_2049 (by omega) (by unfold inR; omega) ?_
  refine z_sald hM dL_law_2050 (by omega) (by rw [hR.1 0 (-1)]; omega) ?_
  rw [hR.1 0 (i + 2)]
  refine r_aload_n hC dL_law_2051 rfl ?_
  refine r_iload_n hC dL_law_2052 rfl ?_
  refine r_iconst hC dL_law_2053 rfl ?_
  refine r_iaddE hC ((i + 3)) dL_law_2054 (by omega) (by unfold inR; omega) ?_
  refine z_sald hM dL_law_2055 (by omega) (by rw [hR.1 0 (-1)]; omega) ?_
  rw [hR.1 0 (i + 3)]
  refine z_inv3 hM dL_law_2056 vl_RL_206 rfl rfl rfl (Nat.le_of_ble_eq_true rfl) (Nat.le_of_ble_eq_true rfl) ?_
  refine x_cost hG (fun ρc1 fc1 => ?_)
  have hG1 : GI ρc1 := hG.tk (fun c x y _ _ q => fc1 c x y q)
  have h01 : ∀ i j : Int, ρc1 0 i j = S0 i j := fun i j => (fc1 0 i j (by omega)).trans (hR.1 i j)
  have hS1 : RS 6 ρc1 σ ρc1 := hR.2.2.cl (fun c x y q => fc1 c x y (by omega))
  refine r_pop hC dL_law_2059 rfl ?_
  refine r_aload_n hC dL_law_2060 rfl ?_
  refine r_aload_n hC dL_law_2061 rfl ?_
  refine r_iload_n hC dL_law_2062 rfl ?_
  refine r_iconst hC dL_law_2063 rfl ?_
  refine r_iaddE hC ((i + 1)) dL_law_2064 (by omega) (by unfold inR; omega) ?_
  refine z_sald hM dL_law_2065 (by omega) (by rw [h01 0 (-1)]; omega) ?_
  rw [h01 0 (i + 1)]
  refine r_aload_n hC dL_law_2066 rfl ?_
  refine r_iload_n hC dL_law_2067 rfl ?_
  refine r_iconst hC dL_law_2068 rfl ?_
  refine r_iaddE hC ((i + 2)) dL_law_2069 (by omega) (by unfold inR; omega) ?_
  refine z_sald hM dL_law_2070 (by omega) (by rw [h01 0 (-1)]; omega) ?_
  rw [h01 0 (i + 2)]
  refine r_aload_n hC dL_law_2071 rfl ?_
  refine r_iload_n hC dL_law_2072 rfl ?_
  refine r_iconst hC dL_law_2073 rfl ?_
  refine r_iaddE hC ((i + 3)) dL_law_2074 (by omega) (by unfold inR; omega) ?_
  refine z_sald hM dL_law_2075 (by omega) (by rw [h01 0 (-1)]; omega) ?_
  rw [h01 0 (i + 3)]
  refine z_inv3 hM dL_law_2076 vl_RL_209 rfl rfl rfl (Nat.le_of_ble_eq_true rfl) (Nat.le_of_ble_eq_true rfl) ?_
  refine WT_dn (fun ρd ed => ?_)
  have hSd : RS 6 ρd σ ρd := hS1.tk ed
  refine y_cost (V := σ) ⟨by omega, by omega⟩ hSd hG (fun ρ9 R9 => ?_)
  have hp : RB S0 ρ9 := RB.mk (ρ1 := ρc1) h01 hG1 ed R9 (fun c x y _ _ q => fc1 c x y q)
  refine r_pop hC dL_law_2079 rfl ?_
  refine r_goto (tgt := 2215) hC dL_law_2080 rfl ?_
  refine r_iincE hC (i + 6) dL_law_2215 rfl rfl (by omega) (by unfold inR; omega) ?_
  refine r_goto (tgt := 18) hC dL_law_2218 rfl ?_
  exact ih _ hp
theorem law_c47 {K : Nat → Lc → List Vl → Mm → Prop} {d : Nat} {S0 : Int → Int → Int} {σ : Mm} {i : Int} (hM : StpZ eT cL_law RL (WT eT (d + 11)) (KA eT K)) (h0 : 0 ≤ i) (h6 : i + 6 ≤ S0 0 (-1)) (hN : S0 0 (-1) ≤ 3072) (hR : RB S0 σ) (ih : ∀ ρ : Mm, RB S0 ρ → KA eT K 18 [some (vR 0 0), some (vR 2 0), some (vR 30 0), some (vI (i + 6))] [] ρ) : KA eT K 2083 [some (vR 0 0), some (vR 2 0), some (vR 30 0), some (vI i)] [] σ := by
  have hC := hM.1
  have hG := hR.2.1
  refine r_aload_n hC dL_law_2083 rfl ?_
  refine r_aload_n hC dL_law_2084 rfl ?_
  refine r_iload_n hC dL_law_2085 rfl ?_
  refine r_iconst hC dL_law_2086 rfl ?_
  refine r_iaddE hC ((i + 1)) dL_law_2087 (by omega) (by unfold inR; omega) ?_
  refine z_sald hM dL_law_2088 (by omega) (by rw [hR.1 0 (-1)]; omega) ?_
  rw [hR.1 0 (i + 1)]
  refine r_aload_n hC dL_law_2089 rfl ?_
  refine r_iload_n hC dL_law_2090 rfl ?_
  refine r_iconst hC dL_law_2091 rfl ?_
  refine r_iaddE hC ((i + 2)) dL_law_2092 (by omega) (by unfold inR; omega) ?_
  refine z_sald hM dL_law_2093 (by omega) (by rw [hR.1 0 (-1)]; omega) ?_
  rw [hR.1 0 (i + 2)]
  refine r_aload_n hC dL_law_2094 rfl ?_
  refine r_iload_n hC dL_law_2095 rfl ?_
  refine r_iconst hC dL_law_2096 rfl ?_
  refine r_iaddE hC ((i + 3)) dL_law_2097 (by omega) (by unfold inR; omega) ?_
  refine z_sald hM dL_law_2098 (by omega) (by rw [hR.1 0 (-1)]; omega) ?_
  rw [hR.1 0 (i + 3)]
  refine r_aload_n hC dL_law_2099 rfl ?_
  refine r_iload_n hC dL_law_2100 rfl ?_
  refine r_iconst hC dL_law_2101 rfl ?_
  refine r_iaddE hC ((i + 4)) dL_law_2102 (by omega) (by unfold inR; omega) ?_
  refine z_sald hM dL_law_2103 (by omega) (by rw [hR.1 0 (-1)]; omega) ?_
  rw [hR.1 0 (i + 4)]
  refine z_inv4 hM dL_law_2104 vl_RL_210 rfl rfl rfl (Nat.le_of_ble_eq_true rfl) (Nat.le_of_ble_eq_true rfl) ?_
  refine WT_q (qs_parted_S rfl hR.hl (fun r1 h_r1 => ?_))
  refine r_pop hC dL_law_2107 rfl ?_
  refine r_aload_n hC dL_law_2108 rfl ?_
  refine r_aload_n hC dL_law_2109 rfl ?_
  refine r_iload_n hC dL_law_2110 rfl ?_
  refine r_iconst hC dL_law_2111 rfl ?_
  refine r_iaddE hC ((i + 1)) dL_law_2112 (by omega) (by unfold inR; omega) ?_
  refine z_sald hM dL_law_2113 (by omega) (by rw [hR.1 0 (-1)]; omega) ?_
  rw [hR.1 0 (i + 1)]
  refine r_aload_n hC dL_law_2114 rfl ?_
  refine r_iload_n hC dL_law_2115 rfl ?_
  refine r_iconst hC dL_law_2116 rfl ?_
  refine r_iaddE hC ((i + 2)) dL_law_2117 (by omega) (by unfold inR; omega) ?_
  refine z_sald hM dL_law_2118 (by omega) (by rw [hR.1 0 (-1)]; omega) ?_
  rw [hR.1 0 (i + 2)]
  refine r_aload_n hC dL_law_2119 rfl ?_
  refine r_iload_n hC dL_law_2120 rfl ?_
  refine r_iconst hC dL_law_2121 rfl ?_
  refine r_iaddE hC ((i + 3)) dL_law_2122 (by omega) (by unfold inR; omega) ?_
  refine z_sald hM dL_law_2123 (by omega) (by rw [hR.1 0 (-1)]; omega) ?_
  rw [hR.1 0 (i + 3)]
  refine r_aload_n hC dL_law_2124 rfl ?_
  refine r_iload_n hC dL_law_2125 rfl ?_
  refine r_iconst hC dL_law_2126 rfl ?_
  refine r_iaddE hC ((i + 4)) dL_law_2127 (by omega) (by unfold inR; omega) ?_
  refine z_sald hM dL_law_2128 (by omega) (by rw [hR.1 0 (-1)]; omega) ?_
  rw [hR.1 0 (i + 4)]
  refine z_inv4 hM dL_law_2129 vl_RL_213 rfl rfl rfl (Nat.le_of_ble_eq_true rfl) (Nat.le_of_ble_eq_true rfl) ?_
  refine WT_q (qm_parted_S rfl hR.hm (fun r2 h_r2 => ?_))
  refine r_pop hC dL_law_2132 rfl ?_
  refine r_goto (tgt := 2215) hC dL_law_2133 rfl ?_
  refine r_iincE hC (i + 6) dL_law_2215 rfl rfl (by omega) (by unfold inR; omega) ?_
  refine r_goto (tgt := 18) hC dL_law_2218 rfl ?_
  exact ih _ hR
theorem law_c48 {K : Nat → Lc → List Vl → Mm → Prop} {d : Nat} {S0 : Int → Int → Int} {σ : Mm} {i : Int} (hM : StpZ eT cL_law RL (WT eT (d + 11)) (KA eT K)) (h0 : 0 ≤ i) (h6 : i + 6 ≤ S0 0 (-1)) (hN : S0 0 (-1) ≤ 3072) (hR : RB S0 σ) (ih : ∀ ρ : Mm, RB S0 ρ → KA eT K 18 [some (vR 0 0), some (vR 2 0), some (vR 30 0), some (vI (i + 6))] [] ρ) : KA eT K 2136 [some (vR 0 0), some (vR 2 0), some (vR 30 0), some (vI i)] [] σ := by
  have hC := hM.1
  have hG := hR.2.1
  refine r_aload_n hC dL_law_2136 rfl ?_
  refine r_aload_n hC dL_law_2137 rfl ?_
  refine r_iload_n hC dL_law_2138 rfl ?_
  refine r_iconst hC dL_law_2139 rfl ?_
  refine r_iaddE hC ((i + 1)) dL_law_2140 (by omega) (by unfold inR; omega) ?_
  refine z_sald hM dL_law_2141 (by omega) (by rw [hR.1 0 (-1)]; omega) ?_
  rw [hR.1 0 (i + 1)]
  refine r_aload_n hC dL_law_2142 rfl ?_
  refine r_iload_n hC dL_law_2143 rfl ?_
  refine r_iconst hC dL_law_2144 rfl ?_
  refine r_iaddE hC ((i + 2)) dL_law_2145 (by omega) (by unfold inR; omega) ?_
  refine z_sald hM dL_law_2146 (by omega) (by rw [hR.1 0 (-1)]; omega) ?_
  rw [hR.1 0 (i + 2)]
  refine z_inv2 hM dL_law_2147 vl_RL_214 rfl rfl rfl (Nat.le_of_ble_eq_true rfl) (Nat.le_of_ble_eq_true rfl) ?_
  refine x_keep ?_
  obtain ⟨ρ2, e1⟩ : ∃ z : Mm, z = kpM σ ((S0 0 (i + 1))) ((S0 0 (i + 2))) := ⟨_, rfl⟩
  rw [← e1]
  have hG1 : GI ρ2 := by rw [e1]; exact hG.kp _ _
  have f1 : ∀ (c : Nat) (x y : Int), Fz c → ρ2 c x y = σ c x y := fun c x y q => by rw [e1]; exact kp_fz q
  have h01 : ∀ i j : Int, ρ2 0 i j = S0 i j := fun i j => (f1 0 i j (Or.inl rfl)).trans (hR.1 i j)
  have hS1 : RS 6 ρ2 σ ρ2 := hR.2.2.cl (fun c x y q => f1 c x y (Or.inr q))
  refine r_pop hC dL_law_2150 rfl ?_
  refine r_aload_n hC dL_law_2151 rfl ?_
  refine r_aload_n hC dL_law_2152 rfl ?_
  refine r_iload_n hC dL_law_2153 rfl ?_
  refine r_iconst hC dL_law_2154 rfl ?_
  refine r_iaddE hC ((i + 1)) dL_law_2155 (by omega) (by unfold inR; omega) ?_
  refine z_sald hM dL_law_2156 (by omega) (by rw [h01 0 (-1)]; omega) ?_
  rw [h01 0 (i + 1)]
  refine r_aload_n hC dL_law_2157 rfl ?_
  refine r_iload_n hC dL_law_2158 rfl ?_
  refine r_iconst hC dL_law_2159 rfl ?_
  refine r_iaddE hC ((i + 2)) dL_law_2160 (by omega) (by unfold inR; omega) ?_
  refine z_sald hM dL_law_2161 (by omega) (by rw [h01 0 (-1)]; omega) ?_
  rw [h01 0 (i + 2)]
  refine z_inv2 hM dL_law_2162 vl_RL_217 rfl rfl rfl (Nat.le_of_ble_eq_true rfl) (Nat.le_of_ble_eq_true rfl) ?_
  refine WT_dn (fun ρd ed => ?_)
  have hSd : RS 6 ρd σ ρd := hS1.tk ed
  refine y_keep (V := σ) ⟨by omega, by omega⟩ hSd hG (fun ρ9 R9 => ?_)
  have hp : RB S0 ρ9 := RB.mk (ρ1 := ρ2) h01 hG1 ed R9 (fun c x y _ _ _ => by rw [e1])
  refine r_pop hC dL_law_2165 rfl ?_
  refine r_goto (tgt := 2215) hC dL_law_2166 rfl ?_
  refine r_iincE hC (i + 6) dL_law_2215 rfl rfl (by omega) (by unfold inR; omega) ?_
  refine r_goto (tgt := 18) hC dL_law_2218 rfl ?_
  exact ih _ hp
theorem law_c49 {K : Nat → Lc → List Vl → Mm → Prop} {d : Nat} {S0 : Int → Int → Int} {σ : Mm} {i : Int} (hM : StpZ eT cL_law RL (WT eT (d + 11)) (KA eT K)) (h0 : 0 ≤ i) (h6 : i + 6 ≤ S0 0 (-1)) (hN : S0 0 (-1) ≤ 3072) (hR : RB S0 σ) (ih : ∀ ρ : Mm, RB S0 ρ → KA eT K 18 [some (vR 0 0), some (vR 2 0), some (vR 30 0), some (vI (i + 6))] [] ρ) : KA eT K 2169 [some (vR 0 0), some (vR 2 0), some (vR 30 0), some (vI i)] [] σ := by
  have hC := hM.1
  have hG := hR.2.1
  refine r_aload_n hC dL_law_2169 rfl ?_
  refine r_aload_n hC dL_law_2170 rfl ?_
  refine r_iload_n hC dL_law_2171 rfl ?_
  refine r_iconst hC dL_law_2172 rfl ?_
  refine r_iaddE hC ((i + 1)) dL_law_2173 (by omega) (by unfold inR; omega) ?_
  refine z_sald hM dL_law_2174 (by omega) (by rw [hR.1 0 (-1)]; omega) ?_
  rw [hR.1 0 (i + 1)]
  refine z_inv1 hM dL_law_2175 vl_RL_218 rfl rfl rfl (Nat.le_of_ble_eq_true rfl) (Nat.le_of_ble_eq_true rfl) ?_
  refine x_back (fun q => hG.2.1.2.2.2.2.1 _ (by have := q.1; omega) (by have := q.1; omega) q.2) ?_
  obtain ⟨ρ2, e1⟩ : ∃ z : Mm, z = bkM σ ((S0 0 (i + 1))) := ⟨_, rfl⟩
  rw [← e1]
  have hG1 : GI ρ2 := by rw [e1]; exact hG.bk _
  have f1 : ∀ (c : Nat) (x y : Int), Fz c → ρ2 c x y = σ c x y := fun c x y q => by rw [e1]; exact bk_fz q
  have h01 : ∀ i j : Int, ρ2 0 i j = S0 i j := fun i j => (f1 0 i j (Or.inl rfl)).trans (hR.1 i j)
  have hS1 : RS 6 ρ2 σ ρ2 := hR.2.2.cl (fun c x y q => f1 c x y (Or.inr q))
  refine r_pop hC dL_law_2178 rfl ?_
  refine r_aload_n hC dL_law_2179 rfl ?_
  refine r_aload_n hC dL_law_2180 rfl ?_
  refine r_iload_n hC dL_law_2181 rfl ?_
  refine r_iconst hC dL_law_2182 rfl ?_
  refine r_iaddE hC ((i + 1)) dL_law_2183 (by omega) (by unfold inR; omega) ?_
  refine z_sald hM dL_law_2184 (by omega) (by rw [h01 0 (-1)]; omega) ?_
  rw [h01 0 (i + 1)]
  refine z_inv1 hM dL_law_2185 vl_RL_221 rfl rfl rfl (Nat.le_of_ble_eq_true rfl) (Nat.le_of_ble_eq_true rfl) ?_
  refine WT_dn (fun ρd ed => ?_)
  have hSd : RS 6 ρd σ ρd := hS1.tk ed
  refine y_back (V := σ) ⟨by omega, by omega⟩ hSd hG (fun ρ9 R9 => ?_)
  have hp : RB S0 ρ9 := RB.mk (ρ1 := ρ2) h01 hG1 ed R9 (fun c x y _ _ _ => by rw [e1])
  refine r_pop hC dL_law_2188 rfl ?_
  refine r_goto (tgt := 2215) hC dL_law_2189 rfl ?_
  refine r_iincE hC (i + 6) dL_law_2215 rfl rfl (by omega) (by unfold inR; omega) ?_
  refine r_goto (tgt := 18) hC dL_law_2218 rfl ?_
  exact ih _ hp
theorem law_c50 {K : Nat → Lc → List Vl → Mm → Prop} {d : Nat} {S0 : Int → Int → Int} {σ : Mm} {i : Int} (hM : StpZ eT cL_law RL (WT eT (d + 11)) (KA eT K)) (h0 : 0 ≤ i) (h6 : i + 6 ≤ S0 0 (-1)) (hN : S0 0 (-1) ≤ 3072) (hR : RB S0 σ) (ih : ∀ ρ : Mm, RB S0 ρ → KA eT K 18 [some (vR 0 0), some (vR 2 0), some (vR 30 0), some (vI (i + 6))] [] ρ) : KA eT K 2192 [some (vR 0 0), some (vR 2 0), some (vR 30 0), some (vI i)] [] σ := by
  have hC := hM.1
  have hG := hR.2.1
  refine r_aload_n hC dL_law_2192 rfl ?_
  refine r_aload_n hC dL_law_2193 rfl ?_
  refine r_iload_n hC dL_law_2194 rfl ?_
  refine r_iconst hC dL_law_2195 rfl ?_
  refine r_iaddE hC ((i + 1)) dL_law_2196 (by omega) (by unfold inR; omega) ?_
  refine z_sald hM dL_law_2197 (by omega) (by rw [hR.1 0 (-1)]; omega) ?_
  rw [hR.1 0 (i + 1)]
  refine z_inv1 hM dL_law_2198 vl_RL_222 rfl rfl rfl (Nat.le_of_ble_eq_true rfl) (Nat.le_of_ble_eq_true rfl) ?_
  refine qs_about (fun r1 h_r1 => ?_)
  refine r_pop hC dL_law_2201 rfl ?_
  refine r_aload_n hC dL_law_2202 rfl ?_
  refine r_aload_n hC dL_law_2203 rfl ?_
  refine r_iload_n hC dL_law_2204 rfl ?_
  refine r_iconst hC dL_law_2205 rfl ?_
  refine r_iaddE hC ((i + 1)) dL_law_2206 (by omega) (by unfold inR; omega) ?_
  refine z_sald hM dL_law_2207 (by omega) (by rw [hR.1 0 (-1)]; omega) ?_
  rw [hR.1 0 (i + 1)]
  refine z_inv1 hM dL_law_2208 vl_RL_225 rfl rfl rfl (Nat.le_of_ble_eq_true rfl) (Nat.le_of_ble_eq_true rfl) ?_
  refine WT_q (qm_about (fun r2 h_r2 => ?_))
  refine r_pop hC dL_law_2211 rfl ?_
  refine r_goto (tgt := 2215) hC dL_law_2212 rfl ?_
  refine r_iincE hC (i + 6) dL_law_2215 rfl rfl (by omega) (by unfold inR; omega) ?_
  refine r_goto (tgt := 18) hC dL_law_2218 rfl ?_
  exact ih _ hR
theorem law_cD {K : Nat → Lc → List Vl → Mm → Prop} {d : Nat} {S0 : Int → Int → Int} {σ : Mm} {i : Int} (hM : StpZ eT cL_law RL (WT eT (d + 11)) (KA eT K)) (h0 : 0 ≤ i) (h6 : i + 6 ≤ S0 0 (-1)) (hN : S0 0 (-1) ≤ 3072) (hR : RB S0 σ) (ih : ∀ ρ : Mm, RB S0 ρ → KA eT K 18 [some (vR 0 0), some (vR 2 0), some (vR 30 0), some (vI (i + 6))] [] ρ) : KA eT K 2215 [some (vR 0 0), some (vR 2 0), some (vR 30 0), some (vI i)] [] σ := by
  have hC := hM.1
  have hG := hR.2.1
  refine r_iincE hC (i + 6) dL_law_2215 rfl rfl (by omega) (by unfold inR; omega) ?_
  refine r_goto (tgt := 18) hC dL_law_2218 rfl ?_
  exact ih _ hR
theorem iand63 (a : Int) : 0 ≤ iand a 63 ∧ iand a 63 ≤ 63 := by
  unfold iand
  have h : (i3 a &&& i3 63).toBitVec = (i3 a).toBitVec &&& 63#32 := rfl
  have h2 : ((i3 a).toBitVec &&& 63#32).toNat ≤ 63 := by
    rw [BitVec.toNat_and]
    exact Nat.and_le_right
  have h3 : (i3 a &&& i3 63).toInt = (((i3 a).toBitVec &&& 63#32).toNat : Int) := by
    show ((i3 a &&& i3 63).toBitVec).toInt = _
    rw [h, BitVec.toInt_eq_toNat_of_lt (by omega)]
  omega
theorem law_switch {K : Nat → Lc → List Vl → Mm → Prop} {d : Nat} {S0 : Int → Int → Int} {σ : Mm} {i : Int} (hM : StpZ eT cL_law RL (WT eT (d + 11)) (KA eT K)) (h0 : 0 ≤ i) (h6 : i + 6 ≤ S0 0 (-1)) (hN : S0 0 (-1) ≤ 3072) (hR : RB S0 σ) (ih : ∀ ρ : Mm, RB S0 ρ → KA eT K 18 [some (vR 0 0), some (vR 2 0), some (vR 30 0), some (vI (i + 6))] [] ρ) {a : Int} (ha : 0 ≤ a ∧ a ≤ 63) : KA eT K 33 [some (vR 0 0), some (vR 2 0), some (vR 30 0), some (vI i)] [vI a] σ := by
  have hC := hM.1
  rcases (by omega : (a < 0 ∨ 50 < a) ∨ a = 0 ∨ a = 1 ∨ a = 2 ∨ a = 3 ∨ a = 4 ∨ a = 5 ∨ a = 6 ∨ a = 7 ∨ a = 8 ∨ a = 9 ∨ a = 10 ∨ a = 11 ∨ a = 12 ∨ a = 13 ∨ a = 14 ∨ a = 15 ∨ a = 16 ∨ a = 17 ∨ a = 18 ∨ a = 19 ∨ a = 20 ∨ a = 21 ∨ a = 22 ∨ a = 23 ∨ a = 24 ∨ a = 25 ∨ a = 26 ∨ a = 27 ∨ a = 28 ∨ a = 29 ∨ a = 30 ∨ a = 31 ∨ a = 32 ∨ a = 33 ∨ a = 34 ∨ a = 35 ∨ a = 36 ∨ a = 37 ∨ a = 38 ∨ a = 39 ∨ a = 40 ∨ a = 41 ∨ a = 42 ∨ a = 43 ∨ a = 44 ∨ a = 45 ∨ a = 46 ∨ a = 47 ∨ a = 48 ∨ a = 49 ∨ a = 50) with h | h | h | h | h | h | h | h | h | h | h | h | h | h | h | h | h | h | h | h | h | h | h | h | h | h | h | h | h | h | h | h | h | h | h | h | h | h | h | h | h | h | h | h | h | h | h | h | h | h | h | h
  · exact r_tableOut (tgt := 2215) hC dL_law_33 h rfl (law_cD hM h0 h6 hN hR ih)
  · exact r_tableIn (tgt := 252) (off := 219) hC dL_law_33 (by omega) (by omega) (by rw [h]; rfl) rfl (law_c0 hM h0 h6 hN hR ih)
  · exact r_tableIn (tgt := 285) (off := 252) hC dL_law_33 (by omega) (by omega) (by rw [h]; rfl) rfl (law_c1 hM h0 h6 hN hR ih)
  · exact r_tableIn (tgt := 318) (off := 285) hC dL_law_33 (by omega) (by omega) (by rw [h]; rfl) rfl (law_c2 hM h0 h6 hN hR ih)
  · exact r_tableIn (tgt := 341) (off := 308) hC dL_law_33 (by omega) (by omega) (by rw [h]; rfl) rfl (law_c3 hM h0 h6 hN hR ih)
  · exact r_tableIn (tgt := 364) (off := 331) hC dL_law_33 (by omega) (by omega) (by rw [h]; rfl) rfl (law_c4 hM h0 h6 hN hR ih)
  · exact r_tableIn (tgt := 427) (off := 394) hC dL_law_33 (by omega) (by omega) (by rw [h]; rfl) rfl (law_c5 hM h0 h6 hN hR ih)
  · exact r_tableIn (tgt := 450) (off := 417) hC dL_law_33 (by omega) (by omega) (by rw [h]; rfl) rfl (law_c6 hM h0 h6 hN hR ih)
  · exact r_tableIn (tgt := 493) (off := 460) hC dL_law_33 (by omega) (by omega) (by rw [h]; rfl) rfl (law_c7 hM h0 h6 hN hR ih)
  · exact r_tableIn (tgt := 546) (off := 513) hC dL_law_33 (by omega) (by omega) (by rw [h]; rfl) rfl (law_c8 hM h0 h6 hN hR ih)
  · exact r_tableIn (tgt := 579) (off := 546) hC dL_law_33 (by omega) (by omega) (by rw [h]; rfl) rfl (law_c9 hM h0 h6 hN hR ih)
  · exact r_tableIn (tgt := 612) (off := 579) hC dL_law_33 (by omega) (by omega) (by rw [h]; rfl) rfl (law_c10 hM h0 h6 hN hR ih)
  · exact r_tableIn (tgt := 645) (off := 612) hC dL_law_33 (by omega) (by omega) (by rw [h]; rfl) rfl (law_c11 hM h0 h6 hN hR ih)
  · exact r_tableIn (tgt := 688) (off := 655) hC dL_law_33 (by omega) (by omega) (by rw [h]; rfl) rfl (law_c12 hM h0 h6 hN hR ih)
  · exact r_tableIn (tgt := 731) (off := 698) hC dL_law_33 (by omega) (by omega) (by rw [h]; rfl) rfl (law_c13 hM h0 h6 hN hR ih)
  · exact r_tableIn (tgt := 764) (off := 731) hC dL_law_33 (by omega) (by omega) (by rw [h]; rfl) rfl (law_c14 hM h0 h6 hN hR ih)
  · exact r_tableIn (tgt := 817) (off := 784) hC dL_law_33 (by omega) (by omega) (by rw [h]; rfl) rfl (law_c15 hM h0 h6 hN hR ih)
  · exact r_tableIn (tgt := 870) (off := 837) hC dL_law_33 (by omega) (by omega) (by rw [h]; rfl) rfl (law_c16 hM h0 h6 hN hR ih)
  · exact r_tableIn (tgt := 913) (off := 880) hC dL_law_33 (by omega) (by omega) (by rw [h]; rfl) rfl (law_c17 hM h0 h6 hN hR ih)
  · exact r_tableIn (tgt := 956) (off := 923) hC dL_law_33 (by omega) (by omega) (by rw [h]; rfl) rfl (law_c18 hM h0 h6 hN hR ih)
  · exact r_tableIn (tgt := 999) (off := 966) hC dL_law_33 (by omega) (by omega) (by rw [h]; rfl) rfl (law_c19 hM h0 h6 hN hR ih)
  · exact r_tableIn (tgt := 1042) (off := 1009) hC dL_law_33 (by omega) (by omega) (by rw [h]; rfl) rfl (law_c20 hM h0 h6 hN hR ih)
  · exact r_tableIn (tgt := 1085) (off := 1052) hC dL_law_33 (by omega) (by omega) (by rw [h]; rfl) rfl (law_c21 hM h0 h6 hN hR ih)
  · exact r_tableIn (tgt := 1128) (off := 1095) hC dL_law_33 (by omega) (by omega) (by rw [h]; rfl) rfl (law_c22 hM h0 h6 hN hR ih)
  · exact r_tableIn (tgt := 1161) (off := 1128) hC dL_law_33 (by omega) (by omega) (by rw [h]; rfl) rfl (law_c23 hM h0 h6 hN hR ih)
  · exact r_tableIn (tgt := 1194) (off := 1161) hC dL_law_33 (by omega) (by omega) (by rw [h]; rfl) rfl (law_c24 hM h0 h6 hN hR ih)
  · exact r_tableIn (tgt := 1227) (off := 1194) hC dL_law_33 (by omega) (by omega) (by rw [h]; rfl) rfl (law_c25 hM h0 h6 hN hR ih)
  · exact r_tableIn (tgt := 1270) (off := 1237) hC dL_law_33 (by omega) (by omega) (by rw [h]; rfl) rfl (law_c26 hM h0 h6 hN hR ih)
  · exact r_tableIn (tgt := 1313) (off := 1280) hC dL_law_33 (by omega) (by omega) (by rw [h]; rfl) rfl (law_c27 hM h0 h6 hN hR ih)
  · exact r_tableIn (tgt := 1346) (off := 1313) hC dL_law_33 (by omega) (by omega) (by rw [h]; rfl) rfl (law_c28 hM h0 h6 hN hR ih)
  · exact r_tableIn (tgt := 1379) (off := 1346) hC dL_law_33 (by omega) (by omega) (by rw [h]; rfl) rfl (law_c29 hM h0 h6 hN hR ih)
  · exact r_tableIn (tgt := 1412) (off := 1379) hC dL_law_33 (by omega) (by omega) (by rw [h]; rfl) rfl (law_c30 hM h0 h6 hN hR ih)
  · exact r_tableIn (tgt := 1445) (off := 1412) hC dL_law_33 (by omega) (by omega) (by rw [h]; rfl) rfl (law_c31 hM h0 h6 hN hR ih)
  · exact r_tableIn (tgt := 1498) (off := 1465) hC dL_law_33 (by omega) (by omega) (by rw [h]; rfl) rfl (law_c32 hM h0 h6 hN hR ih)
  · exact r_tableIn (tgt := 1531) (off := 1498) hC dL_law_33 (by omega) (by omega) (by rw [h]; rfl) rfl (law_c33 hM h0 h6 hN hR ih)
  · exact r_tableIn (tgt := 1574) (off := 1541) hC dL_law_33 (by omega) (by omega) (by rw [h]; rfl) rfl (law_c34 hM h0 h6 hN hR ih)
  · exact r_tableIn (tgt := 1607) (off := 1574) hC dL_law_33 (by omega) (by omega) (by rw [h]; rfl) rfl (law_c35 hM h0 h6 hN hR ih)
  · exact r_tableIn (tgt := 1640) (off := 1607) hC dL_law_33 (by omega) (by omega) (by rw [h]; rfl) rfl (law_c36 hM h0 h6 hN hR ih)
  · exact r_tableIn (tgt := 1673) (off := 1640) hC dL_law_33 (by omega) (by omega) (by rw [h]; rfl) rfl (law_c37 hM h0 h6 hN hR ih)
  · exact r_tableIn (tgt := 1726) (off := 1693) hC dL_law_33 (by omega) (by omega) (by rw [h]; rfl) rfl (law_c38 hM h0 h6 hN hR ih)
  · exact r_tableIn (tgt := 1749) (off := 1716) hC dL_law_33 (by omega) (by omega) (by rw [h]; rfl) rfl (law_c39 hM h0 h6 hN hR ih)
  · exact r_tableIn (tgt := 1772) (off := 1739) hC dL_law_33 (by omega) (by omega) (by rw [h]; rfl) rfl (law_c40 hM h0 h6 hN hR ih)
  · exact r_tableIn (tgt := 1825) (off := 1792) hC dL_law_33 (by omega) (by omega) (by rw [h]; rfl) rfl (law_c41 hM h0 h6 hN hR ih)
  · exact r_tableIn (tgt := 1848) (off := 1815) hC dL_law_33 (by omega) (by omega) (by rw [h]; rfl) rfl (law_c42 hM h0 h6 hN hR ih)
  · exact r_tableIn (tgt := 1881) (off := 1848) hC dL_law_33 (by omega) (by omega) (by rw [h]; rfl) rfl (law_c43 hM h0 h6 hN hR ih)
  · exact r_tableIn (tgt := 1934) (off := 1901) hC dL_law_33 (by omega) (by omega) (by rw [h]; rfl) rfl (law_c44 hM h0 h6 hN hR ih)
  · exact r_tableIn (tgt := 1987) (off := 1954) hC dL_law_33 (by omega) (by omega) (by rw [h]; rfl) rfl (law_c45 hM h0 h6 hN hR ih)
  · exact r_tableIn (tgt := 2040) (off := 2007) hC dL_law_33 (by omega) (by omega) (by rw [h]; rfl) rfl (law_c46 hM h0 h6 hN hR ih)
  · exact r_tableIn (tgt := 2083) (off := 2050) hC dL_law_33 (by omega) (by omega) (by rw [h]; rfl) rfl (law_c47 hM h0 h6 hN hR ih)
  · exact r_tableIn (tgt := 2136) (off := 2103) hC dL_law_33 (by omega) (by omega) (by rw [h]; rfl) rfl (law_c48 hM h0 h6 hN hR ih)
  · exact r_tableIn (tgt := 2169) (off := 2136) hC dL_law_33 (by omega) (by omega) (by rw [h]; rfl) rfl (law_c49 hM h0 h6 hN hR ih)
  · exact r_tableIn (tgt := 2192) (off := 2159) hC dL_law_33 (by omega) (by omega) (by rw [h]; rfl) rfl (law_c50 hM h0 h6 hN hR ih)
theorem law_loop {K : Nat → Lc → List Vl → Mm → Prop} {d : Nat} {S0 : Int → Int → Int} (hM : StpZ eT cL_law RL (WT eT (d + 11)) (KA eT K)) (hEnd : ∀ (pc : Nat) (ls : Lc) (μ : Mm), decode cL_law pc = .ok (.ireturn, 1) → K pc ls [vI 1] μ) (hN : 0 ≤ S0 0 (-1) ∧ S0 0 (-1) ≤ 3072) : ∀ (n : Nat) (i : Int) (σ : Mm), 0 ≤ i → i ≤ 3078 → RB S0 σ → 3078 - i < (n : Int) → KA eT K 18 [some (vR 0 0), some (vR 2 0), some (vR 30 0), some (vI i)] [] σ := by
  have hC := hM.1
  intro n
  induction n with
  | zero => intro i σ a b c e; omega
  | succ n ihn =>
    intro i σ a b hR e
    have hz := hR.1 0 (-1)
    refine r_iload_n hC dL_law_18 rfl ?_
    refine r_aload_n hC dL_law_19 rfl ?_
    refine z_slen hM dL_law_20 ?_
    rw [hz]
    refine r_bipush hC dL_law_21 rfl ?_
    refine r_isubE hC (S0 0 (-1) - 6) dL_law_23 (by omega) (by unfold inR; omega) ?_
    refine r_icmp_gt (tgt := 2221) hC dL_law_24 rfl (fun h => ?_) (fun h => ?_)
    · refine r_iconst hC dL_law_2221 rfl ?_
      intro τ hA
      exact hEnd _ _ _ dL_law_2222
    · refine r_aload_n hC dL_law_27 rfl ?_
      refine r_iload_n hC dL_law_28 rfl ?_
      refine z_sald hM dL_law_29 (by omega) (by rw [hz]; omega) ?_
      rw [hR.1 0 i]
      refine r_bipush hC dL_law_30 rfl ?_
      refine r_iand hC dL_law_32 ?_
      exact law_switch hM a (by omega) hN.2 hR (fun ρ hρ => ihn (i + 6) ρ (by omega) (by omega) hρ (by omega)) (iand63 _)
