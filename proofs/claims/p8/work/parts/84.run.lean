-- B: the reference: run, send, like
def IsMx (P : Int → Prop) (b : Int) : Prop := (∀ x, P x → x ≤ b) ∧ (P b ∨ (b = -2147483648 ∧ ∀ x, ¬ P x))
theorem mx_0 {P : Int → Prop} (h : ∀ x, ¬ P x) : IsMx P (-2147483648) := ⟨fun x q => absurd q (h x), Or.inr ⟨rfl, h⟩⟩
theorem mx_y {P Q : Int → Prop} {a b : Int} (h : IsMx P b) (hq : ∀ x, Q x ↔ P x ∨ x = a) (hab : b < a) : IsMx Q a := ⟨fun x q => by
  rcases (hq x).mp q with p | p
  · have := h.1 x p; omega
  · omega, Or.inl ((hq a).mpr (Or.inr rfl))⟩
theorem mx_n {P Q : Int → Prop} {a b : Int} (h : IsMx P b) (hq : ∀ x, Q x ↔ P x ∨ x = a) (hab : a ≤ b) (hn : -2147483648 < a) : IsMx Q b := ⟨fun x q => by
  rcases (hq x).mp q with p | p
  · exact h.1 x p
  · omega, by
  rcases h.2 with p | p
  · exact Or.inl ((hq b).mpr (Or.inl p))
  · omega⟩
theorem mx_c {P Q : Int → Prop} {b : Int} (h : IsMx P b) (hq : ∀ x, Q x ↔ P x) : IsMx Q b := ⟨fun x q => h.1 x ((hq x).mp q), by
  rcases h.2 with p | p
  · exact Or.inl ((hq b).mpr p)
  · exact Or.inr ⟨p.1, fun x q => p.2 x ((hq x).mp q)⟩⟩
theorem mx_u {P : Int → Prop} {b c : Int} (h : IsMx P b) (h1 : ∀ x, P x → x ≤ c) (h2 : P c) : b = c := by
  have := h.1 c h2
  rcases h.2 with p | p
  · have := h1 b p; omega
  · exact absurd h2 (p.2 c)
def PF (v : Int → Int) (i : Nat) (x : Int) : Prop := ∃ m : Nat, 1 ≤ m ∧ m ≤ i ∧ x = sm v 0 m
def PL (v : Int → Int) (n i : Nat) (x : Int) : Prop := ∃ j : Nat, j < i ∧ x = sm v j (n - j)
def PB (v : Int → Int) (n i : Nat) (x : Int) : Prop := ∃ j m : Nat, j < i ∧ 1 ≤ m ∧ j + m ≤ n ∧ x = sm v j m
def PI (v : Int → Int) (n i t : Nat) (x : Int) : Prop := PB v n i x ∨ ∃ m : Nat, 1 ≤ m ∧ m ≤ t ∧ x = sm v i m
theorem PF_s {v : Int → Int} {i : Nat} (x : Int) : PF v (i + 1) x ↔ PF v i x ∨ x = sm v 0 (i + 1) := by
  constructor
  · rintro ⟨m, h1, h2, h3⟩
    by_cases hm : m = i + 1
    · subst hm; exact Or.inr h3
    · exact Or.inl ⟨m, h1, by omega, h3⟩
  · rintro (⟨m, h1, h2, h3⟩ | h)
    · exact ⟨m, h1, by omega, h3⟩
    · exact ⟨i + 1, by omega, by omega, h⟩
theorem PL_s {v : Int → Int} {n i : Nat} (x : Int) : PL v n (i + 1) x ↔ PL v n i x ∨ x = sm v i (n - i) := by
  constructor
  · rintro ⟨m, h1, h3⟩
    by_cases hm : m = i
    · subst hm; exact Or.inr h3
    · exact Or.inl ⟨m, by omega, h3⟩
  · rintro (⟨m, h1, h3⟩ | h)
    · exact ⟨m, by omega, h3⟩
    · exact ⟨i, by omega, h⟩
theorem PI_s {v : Int → Int} {n i t : Nat} (x : Int) : PI v n i (t + 1) x ↔ PI v n i t x ∨ x = sm v i (t + 1) := by
  constructor
  · rintro (h | ⟨m, h1, h2, h3⟩)
    · exact Or.inl (Or.inl h)
    · by_cases hm : m = t + 1
      · subst hm; exact Or.inr h3
      · exact Or.inl (Or.inr ⟨m, h1, by omega, h3⟩)
  · rintro ((h | ⟨m, h1, h2, h3⟩) | h)
    · exact Or.inl h
    · exact Or.inr ⟨m, h1, by omega, h3⟩
    · exact Or.inr ⟨t + 1, by omega, by omega, h⟩
theorem PI_0 {v : Int → Int} {n i : Nat} (x : Int) : PI v n i 0 x ↔ PB v n i x := by
  constructor
  · rintro (h | ⟨m, h1, h2, h3⟩)
    · exact h
    · omega
  · exact fun h => Or.inl h
theorem PI_n {v : Int → Int} {n i t : Nat} (ht : t = n - i) (hi : i < n) (x : Int) : PB v n (i + 1) x ↔ PI v n i t x := by
  subst ht
  constructor
  · rintro ⟨j, m, h1, h2, h3, h4⟩
    by_cases hj : j = i
    · subst hj; exact Or.inr ⟨m, h2, by omega, h4⟩
    · exact Or.inl ⟨j, m, by omega, h2, h3, h4⟩
  · rintro (⟨j, m, h1, h2, h3, h4⟩ | ⟨m, h1, h2, h3⟩)
    · exact ⟨j, m, by omega, h2, h3, h4⟩
    · exact ⟨i, m, by omega, h1, by omega, h3⟩
theorem sm_s {v : Int → Int} {i t a : Int} (h : 0 ≤ t) (ha : a = sm v i t.toNat + v (i + t)) : sm v i (t + 1).toNat = a := by
  rw [nat_succ h, ha]
  show sm v i t.toNat + v (i + (t.toNat : Int)) = _
  rw [Int.toNat_of_nonneg h]
theorem rnn_mx {v : Int → Int} {n : Nat} (hn : 1 ≤ n) {a b f l : Int} (ha : a = sm v 0 n) (hb : IsMx (PB v n n) b) (hf : IsMx (PF v n) f) (hl : IsMx (PL v n n) l) : b = (rnn v n).1 ∧ a = (rnn v n).2.1 ∧ f = (rnn v n).2.2.1 ∧ l = (rnn v n).2.2.2 := by
  obtain ⟨s1, ⟨s2, m2, u2, w2, e2⟩, ⟨s3, m3, u3, w3, e3⟩, s4, i4, m4, u4, w4, e4⟩ := rnn_spec v n hn
  refine ⟨mx_u hb ?_ ?_, by rw [ha, s1], mx_u hf ?_ ?_, mx_u hl ?_ ?_⟩
  · rintro x ⟨j, m, h1, h2, h3, rfl⟩; exact s4 j m h2 h3
  · exact ⟨i4, m4, by omega, u4, w4, e4.symm⟩
  · rintro x ⟨m, h1, h2, rfl⟩; exact s2 m h1 h2
  · exact ⟨m2, u2, w2, e2.symm⟩
  · rintro x ⟨j, h1, rfl⟩
    have := s3 (n - j) (by omega) (by omega)
    rw [show (n : Int) - ((n - j : Nat) : Int) = (j : Int) from by omega] at this
    exact this
  · refine ⟨n - m3, by omega, ?_⟩
    rw [show ((n - m3 : Nat) : Int) = (n : Int) - (m3 : Int) from by omega, show n - (n - m3) = m3 from by omega]
    exact e3.symm
theorem mxF {v : Int → Int} {i : Int} (h : 0 ≤ i) (x : Int) : PF v (i + 1).toNat x ↔ PF v i.toNat x ∨ x = sm v 0 (i + 1).toNat := by
  rw [nat_succ h]; exact PF_s x
theorem mxL {v : Int → Int} {n : Nat} {i : Int} (h : 0 ≤ i) (x : Int) : PL v n (i + 1).toNat x ↔ PL v n i.toNat x ∨ x = sm v i ((n : Int) - i).toNat := by
  rw [nat_succ h, PL_s, Int.toNat_of_nonneg h, show n - i.toNat = ((n : Int) - i).toNat from by omega]
theorem mxI {v : Int → Int} {n : Nat} {i t : Int} (hi : 0 ≤ i) (h : 0 ≤ t) (x : Int) : PI v n i.toNat (t + 1).toNat x ↔ PI v n i.toNat t.toNat x ∨ x = sm v i (t + 1).toNat := by
  rw [nat_succ h, PI_s, Int.toNat_of_nonneg hi]
theorem mxB {v : Int → Int} {n : Nat} {i t : Int} (h : 0 ≤ i) (hi : i < n) (ht : t = n - i) (x : Int) : PB v n (i + 1).toNat x ↔ PI v n i.toNat t.toNat x := by
  rw [nat_succ h]; exact PI_n (by omega) (by omega) x
theorem y_run {eb : Bool} {n : Nat} {d : Nat} {P : Option Vl → Mm → Prop} {σ : Mm} {t0 t1 t2 t3 : Int} (qg0 : σ 30 0 8 = (n : Int)) (qg1 : σ 38 0 0 = t0) (qg2 : σ 38 0 1 = t1) (qg3 : σ 38 0 2 = t2) (qg4 : σ 38 0 3 = t3) (hn1 : 1 ≤ n) (hn : n ≤ 242) (hb : Bd (σ 37 0) n)  (k : ∀ ρ : Mm, Gx (fun c x y => c = 38 ∧ x = 0) σ ρ → ρ 38 0 0 = ((rnn (σ 37 0) n).1) → ρ 38 0 1 = ((rnn (σ 37 0) n).2.1) → ρ 38 0 2 = ((rnn (σ 37 0) n).2.2.1) → ρ 38 0 3 = ((rnn (σ 37 0) n).2.2.2) → P none ρ) : WT (true, eb, true) (d + 1) 164 [vR 30 0] σ P := by
  refine WT_in fun K hK => ?_
  have hK : StpY (true, eb, true) cX6_run RX6 (none) (WT (true, eb, true) (d + 0)) P K := hK
  have hM := hK.1
  have hC := hK.1.1
  show K 0 [some (vR 30 0), none, none, none, none, none, none, none] [] σ
  refine r_iconst hC dX6_run_0 rfl ?_
  refine r_istore_n hC dX6_run_1 rfl ?_
  refine r_ldc hC dX6_run_2 co_RX6_160 rfl ?_
  refine r_istore_n hC dX6_run_4 rfl ?_
  refine r_ldc hC dX6_run_5 co_RX6_160 rfl ?_
  refine r_istore_n hC dX6_run_7 rfl ?_
  show K _ [_, _, _, _, _, _, _, _] _ _
  refine r_ldc hC dX6_run_8 co_RX6_160 rfl ?_
  refine r_istore hC dX6_run_10 rfl ?_
  refine r_iconst hC dX6_run_12 rfl ?_
  refine r_istore hC dX6_run_13 rfl ?_
  have L15 : ∀ (n15 : Nat) (w1 w2 w3 w4 w5 : Int), -242000 ≤ w1 ∧ w1 ≤ 242000 → -2147483648 ≤ w2 ∧ w2 ≤ 242000 → -2147483648 ≤ w3 ∧ w3 ≤ 242000 → -2147483648 ≤ w4 ∧ w4 ≤ 242000 → 0 ≤ w5 ∧ w5 ≤ 242 → ((w1) = sm (σ 37 0) 0 ((w5)).toNat) → (IsMx (PB (σ 37 0) n ((w5)).toNat) (w2)) → (IsMx (PF (σ 37 0) ((w5)).toNat) (w3)) → (IsMx (PL (σ 37 0) n ((w5)).toNat) (w4)) → (-1000 * (w5) ≤ (w1) ∧ (w1) ≤ 1000 * (w5)) → ((w5) ≤ (n : Int)) → 242 - w5 < (n15 : Int) → K 15 [some (vR 30 0), some (vI w1), some (vI w2), some (vI w3), some (vI w4), some (vI w5), none, none] [] σ := by
    intro n15
    induction n15 with
    | zero => intro w1 w2 w3 w4 w5  f_w1 f_w2 f_w3 f_w4 f_w5 i0_15 i1_15 i2_15 i3_15 i4_15 i5_15 hm  ; omega
    | succ n15 ih15 =>
      intro w1 w2 w3 w4 w5  f_w1 f_w2 f_w3 f_w4 f_w5 i0_15 i1_15 i2_15 i3_15 i4_15 i5_15 hm15  
      refine r_iload hC dX6_run_15 rfl ?_
      refine r_aload_n hC dX6_run_17 rfl ?_
      refine z_getI (jz := 8) hM dX6_run_18 fl_RX6_105 rfl rfl rfl (fun v6 h_v6 o_v6 t_v6 => ?_)
      have e_v6 : (n : Int) = v6 := ((t_v6 ((by simp [Tk, Tb, DL, DR]))).trans qg0).symm
      subst e_v6
      refine r_icmp_ge (tgt := 101) hC dX6_run_21 rfl (fun h7 => ?_) (fun h7 => ?_)
      · refine r_aload_n hC dX6_run_101 rfl ?_
        refine z_getR hM dX6_run_102 fl_RX6_31 rfl rfl (vld_of (n := 1) rfl (by omega) (by omega)) ?_
        refine r_iconst hC dX6_run_105 rfl ?_
        refine r_iload_n hC dX6_run_106 rfl ?_
        refine z_iastG hM dX6_run_107 rfl (by omega) (by omega) (by simp [Tl, DL, DF]) (by first | trivial | (simp only [Okv]; omega) | (simp [Okv]; try omega)) (fun ρ8 a_ρ8 q_ρ8 => ?_)
        refine r_aload_n hC dX6_run_108 rfl ?_
        refine z_getR hM dX6_run_109 fl_RX6_31 rfl rfl (vld_of (n := 1) rfl (by omega) (by omega)) ?_
        refine r_iconst hC dX6_run_112 rfl ?_
        refine r_iload_n hC dX6_run_113 rfl ?_
        refine z_iastG hM dX6_run_114 rfl (by omega) (by omega) (by simp [Tl, DL, DF]) (by first | trivial | (simp only [Okv]; omega) | (simp [Okv]; try omega)) (fun ρ9 a_ρ9 q_ρ9 => ?_)
        refine r_aload_n hC dX6_run_115 rfl ?_
        refine z_getR hM dX6_run_116 fl_RX6_31 rfl rfl (vld_of (n := 1) rfl (by omega) (by omega)) ?_
        refine r_iconst hC dX6_run_119 rfl ?_
        refine r_iload_n hC dX6_run_120 rfl ?_
        refine z_iastG hM dX6_run_121 rfl (by omega) (by omega) (by simp [Tl, DL, DF]) (by first | trivial | (simp only [Okv]; omega) | (simp [Okv]; try omega)) (fun ρ10 a_ρ10 q_ρ10 => ?_)
        refine r_aload_n hC dX6_run_122 rfl ?_
        refine z_getR hM dX6_run_123 fl_RX6_31 rfl rfl (vld_of (n := 1) rfl (by omega) (by omega)) ?_
        refine r_iconst hC dX6_run_126 rfl ?_
        refine r_iload hC dX6_run_127 rfl ?_
        refine z_iastG hM dX6_run_129 rfl (by omega) (by omega) (by simp [Tl, DL, DF]) (by first | trivial | (simp only [Okv]; omega) | (simp [Okv]; try omega)) (fun ρ11 a_ρ11 q_ρ11 => ?_)
        refine y_vret hK rfl dX6_run_130 ?_
        have hn_ : (w5).toNat = n := by omega
        have hz := rnn_mx hn1 (a := w1) (b := w2) (f := w3) (l := w4) (by rw [i0_15, hn_]) (by have h := i1_15; rw [hn_] at h; exact h) (by have h := i2_15; rw [hn_] at h; exact h) (by have h := i3_15; rw [hn_] at h; exact h)
        exact k _ (((((Gx.rf).al a_ρ8 (by first | (simp; done) | omega | (simp; omega))).al a_ρ9 (by first | (simp; done) | omega | (simp; omega))).al a_ρ10 (by first | (simp; done) | omega | (simp; omega))).al a_ρ11 (by first | (simp; done) | omega | (simp; omega))) (by have hq := ((a_ρ11 _ _ _ (by omega)).trans ((a_ρ10 _ _ _ (by omega)).trans ((a_ρ9 _ _ _ (by omega)).trans q_ρ8))); exact hq.trans hz.1) (by have hq := ((a_ρ11 _ _ _ (by omega)).trans ((a_ρ10 _ _ _ (by omega)).trans q_ρ9)); exact hq.trans hz.2.1) (by have hq := ((a_ρ11 _ _ _ (by omega)).trans q_ρ10); exact hq.trans hz.2.2.1) (by have hq := q_ρ11; exact hq.trans hz.2.2.2)
      · refine r_iload_n hC dX6_run_24 rfl ?_
        refine r_aload_n hC dX6_run_25 rfl ?_
        refine z_getR hM dX6_run_26 fl_RX6_28 rfl rfl (vld_of (n := 1) rfl (by omega) (by omega)) ?_
        refine r_iload hC dX6_run_29 rfl ?_
        refine z_iald hM dX6_run_31 rfl (by omega) (by omega) (fun v12 h_v12 o_v12 t_v12 => ?_)
        have w_v12 := ((t_v12 (Or.inr (Or.inr (Or.inr ⟨rfl, by first | exact True.intro | exact (rfl : true = true)⟩)))).trans (rfl)).symm
        subst w_v12
        have b_v12 := hb w5 (by omega) (by omega)
        refine r_iaddE hC ((w1 + (σ 37 0 w5))) dX6_run_32 (by omega) (by unfold inR; omega) ?_
        refine r_istore_n hC dX6_run_33 rfl ?_
        refine r_iload_n hC dX6_run_34 rfl ?_
        refine r_iload_n hC dX6_run_35 rfl ?_
        refine r_icmp_le (tgt := 41) hC dX6_run_36 rfl (fun h13 => ?_) (fun h13 => ?_)
        · refine r_iconst hC dX6_run_41 rfl ?_
          refine r_istore hC dX6_run_42 rfl ?_
          refine r_iload hC dX6_run_44 rfl ?_
          refine r_istore hC dX6_run_46 rfl ?_
          have L48 : ∀ (n48 : Nat) (w14 w15 w16 : Int), -242000 ≤ w14 ∧ w14 ≤ 242000 → 0 ≤ w15 ∧ w15 ≤ 242 → -2147483648 ≤ w16 ∧ w16 ≤ 242000 → ((w14) = sm (σ 37 0) (w5) ((w15) - (w5)).toNat) → (IsMx (PI (σ 37 0) n ((w5)).toNat ((w15) - (w5)).toNat) (w16)) → (-1000 * ((w15) - (w5)) ≤ (w14) ∧ (w14) ≤ 1000 * ((w15) - (w5))) → ((w15) ≤ (n : Int)) → ((w5) ≤ (w15)) → 242 - w15 < (n48 : Int) → K 48 [some (vR 30 0), some (vI (w1 + (σ 37 0 w5))), some (vI w16), some (vI w3), some (vI w4), some (vI w5), some (vI w14), some (vI w15)] [] σ := by
            intro n48
            induction n48 with
            | zero => intro w14 w15 w16  f_w14 f_w15 f_w16 i0_48 i1_48 i2_48 i3_48 i4_48 hm  ; omega
            | succ n48 ih48 =>
              intro w14 w15 w16  f_w14 f_w15 f_w16 i0_48 i1_48 i2_48 i3_48 i4_48 hm48  
              refine r_iload hC dX6_run_48 rfl ?_
              refine r_aload_n hC dX6_run_50 rfl ?_
              refine z_getI (jz := 8) hM dX6_run_51 fl_RX6_105 rfl rfl rfl (fun v17 h_v17 o_v17 t_v17 => ?_)
              have e_v17 : (n : Int) = v17 := ((t_v17 ((by simp [Tk, Tb, DL, DR]))).trans qg0).symm
              subst e_v17
              refine r_icmp_ge (tgt := 84) hC dX6_run_54 rfl (fun h18 => ?_) (fun h18 => ?_)
              · have hsm : sm (σ 37 0) w5 ((n : Int) - w5).toNat = w14 := by rw [i0_48, show w15 = (n : Int) from by omega]
                refine r_iload hC dX6_run_84 rfl ?_
                refine r_iload hC dX6_run_86 rfl ?_
                refine r_icmp_le (tgt := 95) hC dX6_run_88 rfl (fun h19 => ?_) (fun h19 => ?_)
                · refine r_iincE hC ((w5 + 1)) dX6_run_95 rfl rfl (by omega) (by unfold inR; omega) ?_
                  refine r_goto (tgt := 15) hC dX6_run_98 rfl ?_
                  refine r_forget hC (ls2 := [some (vR 30 0), some (vI (w1 + (σ 37 0 w5))), some (vI w16), some (vI w3), some (vI w4), some (vI (w5 + 1)), none, none]) (lsub_some (lsub_some (lsub_some (lsub_some (lsub_some (lsub_some (lsub_none (lsub_none lsub_nil)))))))) ?_
                  exact ih15 ((w1 + (σ 37 0 w5))) (w16) (w3) (w4) ((w5 + 1))  (by omega) (by omega) (by omega) (by omega) (by omega) (by first | rfl | exact (sm_s (by omega) (by rw [← i0_15, Int.zero_add])).symm) (by first | exact mx_0 (by rintro x ⟨j, m, h1, h2, h3, h4⟩; omega) | exact mx_c i1_48 (mxB (by omega) (by omega) (by omega))) (by first | exact mx_0 (by rintro x ⟨m, h1, h2, h3⟩; omega) | exact mx_y i2_15 (fun x => by rw [mxF (by omega), sm_s (by omega) (by rw [← i0_15, Int.zero_add])]) (by omega) | exact mx_n i2_15 (fun x => by rw [mxF (by omega), sm_s (by omega) (by rw [← i0_15, Int.zero_add])]) (by omega) (by omega)) (by first | exact mx_0 (by rintro x ⟨m, h1, h3⟩; omega) | exact mx_y i3_15 (fun x => by rw [mxL (by omega), hsm]) (by omega) | exact mx_n i3_15 (fun x => by rw [mxL (by omega), hsm]) (by omega) (by omega)) (by omega) (by omega) (by omega)  
                · refine r_iload hC dX6_run_91 rfl ?_
                  refine r_istore hC dX6_run_93 rfl ?_
                  refine r_iincE hC ((w5 + 1)) dX6_run_95 rfl rfl (by omega) (by unfold inR; omega) ?_
                  refine r_goto (tgt := 15) hC dX6_run_98 rfl ?_
                  refine r_forget hC (ls2 := [some (vR 30 0), some (vI (w1 + (σ 37 0 w5))), some (vI w16), some (vI w3), some (vI w14), some (vI (w5 + 1)), none, none]) (lsub_some (lsub_some (lsub_some (lsub_some (lsub_some (lsub_some (lsub_none (lsub_none lsub_nil)))))))) ?_
                  exact ih15 ((w1 + (σ 37 0 w5))) (w16) (w3) (w14) ((w5 + 1))  (by omega) (by omega) (by omega) (by omega) (by omega) (by first | rfl | exact (sm_s (by omega) (by rw [← i0_15, Int.zero_add])).symm) (by first | exact mx_0 (by rintro x ⟨j, m, h1, h2, h3, h4⟩; omega) | exact mx_c i1_48 (mxB (by omega) (by omega) (by omega))) (by first | exact mx_0 (by rintro x ⟨m, h1, h2, h3⟩; omega) | exact mx_y i2_15 (fun x => by rw [mxF (by omega), sm_s (by omega) (by rw [← i0_15, Int.zero_add])]) (by omega) | exact mx_n i2_15 (fun x => by rw [mxF (by omega), sm_s (by omega) (by rw [← i0_15, Int.zero_add])]) (by omega) (by omega)) (by first | exact mx_0 (by rintro x ⟨m, h1, h3⟩; omega) | exact mx_y i3_15 (fun x => by rw [mxL (by omega), hsm]) (by omega) | exact mx_n i3_15 (fun x => by rw [mxL (by omega), hsm]) (by omega) (by omega)) (by omega) (by omega) (by omega)  
              · refine r_iload hC dX6_run_57 rfl ?_
                refine r_aload_n hC dX6_run_59 rfl ?_
                refine z_getR hM dX6_run_60 fl_RX6_28 rfl rfl (vld_of (n := 1) rfl (by omega) (by omega)) ?_
                refine r_iload hC dX6_run_63 rfl ?_
                refine z_iald hM dX6_run_65 rfl (by omega) (by omega) (fun v20 h_v20 o_v20 t_v20 => ?_)
                have w_v20 := ((t_v20 (Or.inr (Or.inr (Or.inr ⟨rfl, by first | exact True.intro | exact (rfl : true = true)⟩)))).trans (rfl)).symm
                subst w_v20
                have b_v20 := hb w15 (by omega) (by omega)
                refine r_iaddE hC ((w14 + (σ 37 0 w15))) dX6_run_66 (by omega) (by unfold inR; omega) ?_
                refine r_istore hC dX6_run_67 rfl ?_
                refine r_iload hC dX6_run_69 rfl ?_
                refine r_iload_n hC dX6_run_71 rfl ?_
                refine r_icmp_le (tgt := 78) hC dX6_run_72 rfl (fun h21 => ?_) (fun h21 => ?_)
                · refine r_iincE hC ((w15 + 1)) dX6_run_78 rfl rfl (by omega) (by unfold inR; omega) ?_
                  refine r_goto (tgt := 48) hC dX6_run_81 rfl ?_
                  exact ih48 ((w14 + (σ 37 0 w15))) ((w15 + 1)) (w16)  (by omega) (by omega) (by omega) (by first | (rw [Int.sub_self]; rfl) | (rw [show (w15 + 1 - w5) = (w15 - w5) + 1 from by omega]; exact (sm_s (by omega) (by rw [show w5 + (w15 - w5) = w15 from by omega, ← i0_48])).symm)) (by first | (rw [Int.sub_self]; exact mx_c i1_15 PI_0) | (rw [show (w15 + 1 - w5) = (w15 - w5) + 1 from by omega]; first | exact mx_y i1_48 (fun x => by rw [mxI (by omega) (by omega), sm_s (by omega) (by rw [show w5 + (w15 - w5) = w15 from by omega, ← i0_48])]) (by omega) | exact mx_n i1_48 (fun x => by rw [mxI (by omega) (by omega), sm_s (by omega) (by rw [show w5 + (w15 - w5) = w15 from by omega, ← i0_48])]) (by omega) (by omega))) (by omega) (by omega) (by omega) (by omega)  
                · refine r_iload hC dX6_run_75 rfl ?_
                  refine r_istore_n hC dX6_run_77 rfl ?_
                  refine r_iincE hC ((w15 + 1)) dX6_run_78 rfl rfl (by omega) (by unfold inR; omega) ?_
                  refine r_goto (tgt := 48) hC dX6_run_81 rfl ?_
                  exact ih48 ((w14 + (σ 37 0 w15))) ((w15 + 1)) ((w14 + (σ 37 0 w15)))  (by omega) (by omega) (by omega) (by first | (rw [Int.sub_self]; rfl) | (rw [show (w15 + 1 - w5) = (w15 - w5) + 1 from by omega]; exact (sm_s (by omega) (by rw [show w5 + (w15 - w5) = w15 from by omega, ← i0_48])).symm)) (by first | (rw [Int.sub_self]; exact mx_c i1_15 PI_0) | (rw [show (w15 + 1 - w5) = (w15 - w5) + 1 from by omega]; first | exact mx_y i1_48 (fun x => by rw [mxI (by omega) (by omega), sm_s (by omega) (by rw [show w5 + (w15 - w5) = w15 from by omega, ← i0_48])]) (by omega) | exact mx_n i1_48 (fun x => by rw [mxI (by omega) (by omega), sm_s (by omega) (by rw [show w5 + (w15 - w5) = w15 from by omega, ← i0_48])]) (by omega) (by omega))) (by omega) (by omega) (by omega) (by omega)  
          exact L48 244 (0) (w5) (w2)  (by omega) (by omega) (by omega) (by first | (rw [Int.sub_self]; rfl) | (rw [show (w15 + 1 - w5) = (w15 - w5) + 1 from by omega]; exact (sm_s (by omega) (by rw [show w5 + (w15 - w5) = w15 from by omega, ← i0_48])).symm)) (by first | (rw [Int.sub_self]; exact mx_c i1_15 PI_0) | (rw [show (w15 + 1 - w5) = (w15 - w5) + 1 from by omega]; first | exact mx_y i1_48 (fun x => by rw [mxI (by omega) (by omega), sm_s (by omega) (by rw [show w5 + (w15 - w5) = w15 from by omega, ← i0_48])]) (by omega) | exact mx_n i1_48 (fun x => by rw [mxI (by omega) (by omega), sm_s (by omega) (by rw [show w5 + (w15 - w5) = w15 from by omega, ← i0_48])]) (by omega) (by omega))) (by omega) (by omega) (by omega) (by omega)  
        · refine r_iload_n hC dX6_run_39 rfl ?_
          refine r_istore_n hC dX6_run_40 rfl ?_
          refine r_iconst hC dX6_run_41 rfl ?_
          refine r_istore hC dX6_run_42 rfl ?_
          refine r_iload hC dX6_run_44 rfl ?_
          refine r_istore hC dX6_run_46 rfl ?_
          have L48 : ∀ (n48 : Nat) (w22 w23 w24 : Int), -242000 ≤ w22 ∧ w22 ≤ 242000 → 0 ≤ w23 ∧ w23 ≤ 242 → -2147483648 ≤ w24 ∧ w24 ≤ 242000 → ((w22) = sm (σ 37 0) (w5) ((w23) - (w5)).toNat) → (IsMx (PI (σ 37 0) n ((w5)).toNat ((w23) - (w5)).toNat) (w24)) → (-1000 * ((w23) - (w5)) ≤ (w22) ∧ (w22) ≤ 1000 * ((w23) - (w5))) → ((w23) ≤ (n : Int)) → ((w5) ≤ (w23)) → 242 - w23 < (n48 : Int) → K 48 [some (vR 30 0), some (vI (w1 + (σ 37 0 w5))), some (vI w24), some (vI (w1 + (σ 37 0 w5))), some (vI w4), some (vI w5), some (vI w22), some (vI w23)] [] σ := by
            intro n48
            induction n48 with
            | zero => intro w22 w23 w24  f_w22 f_w23 f_w24 i0_48 i1_48 i2_48 i3_48 i4_48 hm  ; omega
            | succ n48 ih48 =>
              intro w22 w23 w24  f_w22 f_w23 f_w24 i0_48 i1_48 i2_48 i3_48 i4_48 hm48  
              refine r_iload hC dX6_run_48 rfl ?_
              refine r_aload_n hC dX6_run_50 rfl ?_
              refine z_getI (jz := 8) hM dX6_run_51 fl_RX6_105 rfl rfl rfl (fun v25 h_v25 o_v25 t_v25 => ?_)
              have e_v25 : (n : Int) = v25 := ((t_v25 ((by simp [Tk, Tb, DL, DR]))).trans qg0).symm
              subst e_v25
              refine r_icmp_ge (tgt := 84) hC dX6_run_54 rfl (fun h26 => ?_) (fun h26 => ?_)
              · have hsm : sm (σ 37 0) w5 ((n : Int) - w5).toNat = w22 := by rw [i0_48, show w23 = (n : Int) from by omega]
                refine r_iload hC dX6_run_84 rfl ?_
                refine r_iload hC dX6_run_86 rfl ?_
                refine r_icmp_le (tgt := 95) hC dX6_run_88 rfl (fun h27 => ?_) (fun h27 => ?_)
                · refine r_iincE hC ((w5 + 1)) dX6_run_95 rfl rfl (by omega) (by unfold inR; omega) ?_
                  refine r_goto (tgt := 15) hC dX6_run_98 rfl ?_
                  refine r_forget hC (ls2 := [some (vR 30 0), some (vI (w1 + (σ 37 0 w5))), some (vI w24), some (vI (w1 + (σ 37 0 w5))), some (vI w4), some (vI (w5 + 1)), none, none]) (lsub_some (lsub_some (lsub_some (lsub_some (lsub_some (lsub_some (lsub_none (lsub_none lsub_nil)))))))) ?_
                  exact ih15 ((w1 + (σ 37 0 w5))) (w24) ((w1 + (σ 37 0 w5))) (w4) ((w5 + 1))  (by omega) (by omega) (by omega) (by omega) (by omega) (by first | rfl | exact (sm_s (by omega) (by rw [← i0_15, Int.zero_add])).symm) (by first | exact mx_0 (by rintro x ⟨j, m, h1, h2, h3, h4⟩; omega) | exact mx_c i1_48 (mxB (by omega) (by omega) (by omega))) (by first | exact mx_0 (by rintro x ⟨m, h1, h2, h3⟩; omega) | exact mx_y i2_15 (fun x => by rw [mxF (by omega), sm_s (by omega) (by rw [← i0_15, Int.zero_add])]) (by omega) | exact mx_n i2_15 (fun x => by rw [mxF (by omega), sm_s (by omega) (by rw [← i0_15, Int.zero_add])]) (by omega) (by omega)) (by first | exact mx_0 (by rintro x ⟨m, h1, h3⟩; omega) | exact mx_y i3_15 (fun x => by rw [mxL (by omega), hsm]) (by omega) | exact mx_n i3_15 (fun x => by rw [mxL (by omega), hsm]) (by omega) (by omega)) (by omega) (by omega) (by omega)  
                · refine r_iload hC dX6_run_91 rfl ?_
                  refine r_istore hC dX6_run_93 rfl ?_
                  refine r_iincE hC ((w5 + 1)) dX6_run_95 rfl rfl (by omega) (by unfold inR; omega) ?_
                  refine r_goto (tgt := 15) hC dX6_run_98 rfl ?_
                  refine r_forget hC (ls2 := [some (vR 30 0), some (vI (w1 + (σ 37 0 w5))), some (vI w24), some (vI (w1 + (σ 37 0 w5))), some (vI w22), some (vI (w5 + 1)), none, none]) (lsub_some (lsub_some (lsub_some (lsub_some (lsub_some (lsub_some (lsub_none (lsub_none lsub_nil)))))))) ?_
                  exact ih15 ((w1 + (σ 37 0 w5))) (w24) ((w1 + (σ 37 0 w5))) (w22) ((w5 + 1))  (by omega) (by omega) (by omega) (by omega) (by omega) (by first | rfl | exact (sm_s (by omega) (by rw [← i0_15, Int.zero_add])).symm) (by first | exact mx_0 (by rintro x ⟨j, m, h1, h2, h3, h4⟩; omega) | exact mx_c i1_48 (mxB (by omega) (by omega) (by omega))) (by first | exact mx_0 (by rintro x ⟨m, h1, h2, h3⟩; omega) | exact mx_y i2_15 (fun x => by rw [mxF (by omega), sm_s (by omega) (by rw [← i0_15, Int.zero_add])]) (by omega) | exact mx_n i2_15 (fun x => by rw [mxF (by omega), sm_s (by omega) (by rw [← i0_15, Int.zero_add])]) (by omega) (by omega)) (by first | exact mx_0 (by rintro x ⟨m, h1, h3⟩; omega) | exact mx_y i3_15 (fun x => by rw [mxL (by omega), hsm]) (by omega) | exact mx_n i3_15 (fun x => by rw [mxL (by omega), hsm]) (by omega) (by omega)) (by omega) (by omega) (by omega)  
              · refine r_iload hC dX6_run_57 rfl ?_
                refine r_aload_n hC dX6_run_59 rfl ?_
                refine z_getR hM dX6_run_60 fl_RX6_28 rfl rfl (vld_of (n := 1) rfl (by omega) (by omega)) ?_
                refine r_iload hC dX6_run_63 rfl ?_
                refine z_iald hM dX6_run_65 rfl (by omega) (by omega) (fun v28 h_v28 o_v28 t_v28 => ?_)
                have w_v28 := ((t_v28 (Or.inr (Or.inr (Or.inr ⟨rfl, by first | exact True.intro | exact (rfl : true = true)⟩)))).trans (rfl)).symm
                subst w_v28
                have b_v28 := hb w23 (by omega) (by omega)
                refine r_iaddE hC ((w22 + (σ 37 0 w23))) dX6_run_66 (by omega) (by unfold inR; omega) ?_
                refine r_istore hC dX6_run_67 rfl ?_
                refine r_iload hC dX6_run_69 rfl ?_
                refine r_iload_n hC dX6_run_71 rfl ?_
                refine r_icmp_le (tgt := 78) hC dX6_run_72 rfl (fun h29 => ?_) (fun h29 => ?_)
                · refine r_iincE hC ((w23 + 1)) dX6_run_78 rfl rfl (by omega) (by unfold inR; omega) ?_
                  refine r_goto (tgt := 48) hC dX6_run_81 rfl ?_
                  exact ih48 ((w22 + (σ 37 0 w23))) ((w23 + 1)) (w24)  (by omega) (by omega) (by omega) (by first | (rw [Int.sub_self]; rfl) | (rw [show (w23 + 1 - w5) = (w23 - w5) + 1 from by omega]; exact (sm_s (by omega) (by rw [show w5 + (w23 - w5) = w23 from by omega, ← i0_48])).symm)) (by first | (rw [Int.sub_self]; exact mx_c i1_15 PI_0) | (rw [show (w23 + 1 - w5) = (w23 - w5) + 1 from by omega]; first | exact mx_y i1_48 (fun x => by rw [mxI (by omega) (by omega), sm_s (by omega) (by rw [show w5 + (w23 - w5) = w23 from by omega, ← i0_48])]) (by omega) | exact mx_n i1_48 (fun x => by rw [mxI (by omega) (by omega), sm_s (by omega) (by rw [show w5 + (w23 - w5) = w23 from by omega, ← i0_48])]) (by omega) (by omega))) (by omega) (by omega) (by omega) (by omega)  
                · refine r_iload hC dX6_run_75 rfl ?_
                  refine r_istore_n hC dX6_run_77 rfl ?_
                  refine r_iincE hC ((w23 + 1)) dX6_run_78 rfl rfl (by omega) (by unfold inR; omega) ?_
                  refine r_goto (tgt := 48) hC dX6_run_81 rfl ?_
                  exact ih48 ((w22 + (σ 37 0 w23))) ((w23 + 1)) ((w22 + (σ 37 0 w23)))  (by omega) (by omega) (by omega) (by first | (rw [Int.sub_self]; rfl) | (rw [show (w23 + 1 - w5) = (w23 - w5) + 1 from by omega]; exact (sm_s (by omega) (by rw [show w5 + (w23 - w5) = w23 from by omega, ← i0_48])).symm)) (by first | (rw [Int.sub_self]; exact mx_c i1_15 PI_0) | (rw [show (w23 + 1 - w5) = (w23 - w5) + 1 from by omega]; first | exact mx_y i1_48 (fun x => by rw [mxI (by omega) (by omega), sm_s (by omega) (by rw [show w5 + (w23 - w5) = w23 from by omega, ← i0_48])]) (by omega) | exact mx_n i1_48 (fun x => by rw [mxI (by omega) (by omega), sm_s (by omega) (by rw [show w5 + (w23 - w5) = w23 from by omega, ← i0_48])]) (by omega) (by omega))) (by omega) (by omega) (by omega) (by omega)  
          exact L48 244 (0) (w5) (w2)  (by omega) (by omega) (by omega) (by first | (rw [Int.sub_self]; rfl) | (rw [show (w23 + 1 - w5) = (w23 - w5) + 1 from by omega]; exact (sm_s (by omega) (by rw [show w5 + (w23 - w5) = w23 from by omega, ← i0_48])).symm)) (by first | (rw [Int.sub_self]; exact mx_c i1_15 PI_0) | (rw [show (w23 + 1 - w5) = (w23 - w5) + 1 from by omega]; first | exact mx_y i1_48 (fun x => by rw [mxI (by omega) (by omega), sm_s (by omega) (by rw [show w5 + (w23 - w5) = w23 from by omega, ← i0_48])]) (by omega) | exact mx_n i1_48 (fun x => by rw [mxI (by omega) (by omega), sm_s (by omega) (by rw [show w5 + (w23 - w5) = w23 from by omega, ← i0_48])]) (by omega) (by omega))) (by omega) (by omega) (by omega) (by omega)  
  exact L15 244 (0) ((-2147483648)) ((-2147483648)) ((-2147483648)) (0)  (by omega) (by omega) (by omega) (by omega) (by omega) (by first | rfl | exact (sm_s (by omega) (by rw [← i0_15, Int.zero_add])).symm) (by first | exact mx_0 (by rintro x ⟨j, m, h1, h2, h3, h4⟩; omega) | exact mx_c i1_48 (mxB (by omega) (by omega) (by omega))) (by first | exact mx_0 (by rintro x ⟨m, h1, h2, h3⟩; omega) | exact mx_y i2_15 (fun x => by rw [mxF (by omega), sm_s (by omega) (by rw [← i0_15, Int.zero_add])]) (by omega) | exact mx_n i2_15 (fun x => by rw [mxF (by omega), sm_s (by omega) (by rw [← i0_15, Int.zero_add])]) (by omega) (by omega)) (by first | exact mx_0 (by rintro x ⟨m, h1, h3⟩; omega) | exact mx_y i3_15 (fun x => by rw [mxL (by omega), hsm]) (by omega) | exact mx_n i3_15 (fun x => by rw [mxL (by omega), hsm]) (by omega) (by omega)) (by omega) (by omega) (by omega)  
