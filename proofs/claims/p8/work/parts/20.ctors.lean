-- the constructors
theorem hs0_sh {μ l0 : Al} {b : Nat} (S S0 : List (Nat × Nat)) (h : sh μ = S) (h0 : sh l0 = S0) (hb : szS S ≤ szS S0 + b) : szs μ ≤ szs l0 + b := hs_sh (n := 0) S S0 h h0 hb
theorem hc0_sh {μ l0 : Al} {b : Nat} (S S0 : List (Nat × Nat)) (h : sh μ = S) (h0 : sh l0 = S0) (hb : S.length ≤ S0.length + b) : μ.length ≤ l0.length + b := hc_sh (n := 0) S S0 h h0 hb
theorem i_fill {d : Nat} {pre : Al} {Post : Al → Prop} {l0 : Al} {k n : Nat} {q v : Int} {f : Nat → Vl} (hk : l0[k]? = some (1, n, f)) (hq : ((pre.length + k : Nat) : Int) = q) (hn : n < 2147483648) (hp : Post (l0.set k (1, n, fun j => if j < n then vI v else f j))) : WPA (d + 1) 266 [vR 0 q, vI v] pre l0 0 0 Post := by
  intro K hK
  have hK : StpA cJ7_fill_53178 RJ7 "fill" pre l0 0 0 (WPA d) Post K := hK
  have hRet : ∀ {pc : Nat} {ls : Lc} {μ : Al}, decode cJ7_fill_53178 pc = .ok (.return_, 1) → Post μ → μ.length = l0.length + 0 → szs μ = szs l0 + 0 → K pc ls [] μ := hK.2
  have hN := hK.1
  have hC := hK.1.1
  have hlt : k < l0.length := (List.getElem?_eq_some_iff.mp hk).1
  show K 0 [some (vR 0 q), some (vI v), none, none] [] l0
  have L : ∀ (m : Nat) (i : Int) (h : Nat → Vl), 0 ≤ i → i ≤ n → (n : Int) - i < (m : Int) → (∀ j : Nat, h j = if (j : Int) < i then vI v else f j) → K 5 [some (vR 0 q), some (vI v), some (vI i), some (vI n)] [] (l0.set k (1, n, h)) := by
    intro m
    induction m with
    | zero => intro i h h0 h1 h2; omega
    | succ m ih =>
      intro i h h0 h1 h2 hh
      refine r_iload_n hC dJ7_fill_53178_5 rfl ?_
      refine r_iload_n hC dJ7_fill_53178_6 rfl ?_
      refine r_icmp_ge (tgt := 20) hC dJ7_fill_53178_7 rfl (fun hi => ?_) (fun hi => ?_)
      · have he : h = fun j => if j < n then vI v else f j := funext fun j => by
          rw [hh j]
          by_cases hj : j < n
          · rw [if_pos hj, if_pos (by omega)]
          · rw [if_neg hj, if_neg (by omega)]
        rw [he]
        exact hRet dJ7_fill_53178_20 hp (by rw [List.length_set]; rfl) (szs_set hk rfl)
      · refine r_aload_n hC dJ7_fill_53178_10 rfl ?_
        refine r_iload_n hC dJ7_fill_53178_11 rfl ?_
        refine r_iload_n hC dJ7_fill_53178_12 rfl ?_
        refine n_iast (k := k) (n := n) (f := h) hN dJ7_fill_53178_13 (List.getElem?_set_self hlt) hq h0 (by omega) ?_
        refine r_iincS hC dJ7_fill_53178_14 rfl rfl ⟨by omega, by omega⟩ ?_
        refine r_goto (tgt := 5) hC dJ7_fill_53178_17 rfl ?_
        rw [List.set_set]
        refine ih (i + 1) _ (by omega) (by omega) (by omega) (fun j => ?_)
        unfold updC
        by_cases hj : j = i.toNat
        · rw [if_pos hj, if_pos (by omega)]
        · rw [if_neg hj, hh j]
          by_cases hj2 : (j : Int) < i
          · rw [if_pos hj2, if_pos (by omega)]
          · rw [if_neg hj2, if_neg (by omega)]
  refine r_iconst hC dJ7_fill_53178_0 rfl ?_
  refine r_istore_n hC dJ7_fill_53178_1 rfl ?_
  refine r_aload_n hC dJ7_fill_53178_2 rfl ?_
  refine n_alen (nz := n) hN dJ7_fill_53178_3 hk hq rfl hn ?_
  refine r_istore_n hC dJ7_fill_53178_4 rfl ?_
  have h0 := L (n + 1) 0 f (by omega) (by omega) (by omega) (fun j => by rw [if_neg (by omega)])
  rw [show l0.set k (1, n, f) = l0 from by
    apply List.ext_getElem?
    intro j
    by_cases hj : k = j
    · subst hj; rw [List.getElem?_set_self hlt, hk]
    · rw [List.getElem?_set_ne hj]] at h0
  exact h0
theorem i_Flip {d : Nat} {pre : Al} {Post : Al → Prop} {q : Int} {f : Nat → Vl} (hq : (pre.length : Int) = q) (k : Post [(0, 0, f)]) : WPA (d + 1) 0 [vR 0 q] pre [(0, 0, f)] 0 0 Post := by
  intro K hK
  have hK : StpA cX0_init RX0 "<init>" pre [(0, 0, f)] 0 0 (WPA (d + 0)) Post K := hK
  have hRet : ∀ {pc : Nat} {ls : Lc} {μ : Al}, decode cX0_init pc = .ok (.return_, 1) → Post μ → μ.length = [((0, 0, f) : Ce)].length + 0 → szs μ = szs [((0, 0, f) : Ce)] + 0 → K pc ls [] μ := hK.2
  have hN := hK.1
  have hC := hK.1.1
  show K 0 [some (vR 0 q)] [] [(0, 0, f)]
  refine r_aload_n hC dX0_init_0 rfl ?_
  refine n_obj hN dX0_init_1 ob_RX0_3 (Nat.le_of_ble_eq_true rfl) ?_
  exact hRet dX0_init_4 k (r0_sh [(0, 0)] [(0, 0)] rfl rfl rfl) (r1_sh [(0, 0)] [(0, 0)] rfl rfl (by decide +kernel))
theorem i_Link {d : Nat} {pre : Al} {Post : Al → Prop} {q : Int} {f : Nat → Vl} (hq : (pre.length : Int) = q) (k : Post [(0, 3, updC (f) 0 (vI (-1)))]) : WPA (d + 1) 38 [vR 0 q] pre [(0, 3, f)] 0 0 Post := by
  intro K hK
  have hK : StpA cX3_init RX3 "<init>" pre [(0, 3, f)] 0 0 (WPA (d + 0)) Post K := hK
  have hRet : ∀ {pc : Nat} {ls : Lc} {μ : Al}, decode cX3_init pc = .ok (.return_, 1) → Post μ → μ.length = [((0, 3, f) : Ce)].length + 0 → szs μ = szs [((0, 3, f) : Ce)] + 0 → K pc ls [] μ := hK.2
  have hN := hK.1
  have hC := hK.1.1
  show K 0 [some (vR 0 q)] [] [(0, 3, f)]
  refine r_aload_n hC dX3_init_0 rfl ?_
  refine n_obj hN dX3_init_1 ob_RX3_3 (Nat.le_of_ble_eq_true rfl) ?_
  refine r_aload_n hC dX3_init_4 rfl ?_
  refine r_iconst hC dX3_init_5 rfl ?_
  refine n_putI (k := 0) hN dX3_init_6 fw_RX3_9 fg_RX3_9 rfl hq ?_
  exact hRet dX3_init_9 k (r0_sh [(0, 3)] [(0, 3)] rfl rfl rfl) (r1_sh [(0, 3)] [(0, 3)] rfl rfl (by decide +kernel))
theorem i_Watch {d : Nat} {pre : Al} {Post : Al → Prop} {q : Int} {f : Nat → Vl} (hq : (pre.length : Int) = q) (k : Post [(0, 4, updC (f) 0 (vI (-1)))]) : WPA (d + 1) 42 [vR 0 q] pre [(0, 4, f)] 0 0 Post := by
  intro K hK
  have hK : StpA cX4_init RX4 "<init>" pre [(0, 4, f)] 0 0 (WPA (d + 0)) Post K := hK
  have hRet : ∀ {pc : Nat} {ls : Lc} {μ : Al}, decode cX4_init pc = .ok (.return_, 1) → Post μ → μ.length = [((0, 4, f) : Ce)].length + 0 → szs μ = szs [((0, 4, f) : Ce)] + 0 → K pc ls [] μ := hK.2
  have hN := hK.1
  have hC := hK.1.1
  show K 0 [some (vR 0 q)] [] [(0, 4, f)]
  refine r_aload_n hC dX4_init_0 rfl ?_
  refine n_obj hN dX4_init_1 ob_RX4_3 (Nat.le_of_ble_eq_true rfl) ?_
  refine r_aload_n hC dX4_init_4 rfl ?_
  refine r_iconst hC dX4_init_5 rfl ?_
  refine n_putI (k := 0) hN dX4_init_6 fw_RX4_9 fg_RX4_9 rfl hq ?_
  exact hRet dX4_init_9 k (r0_sh [(0, 4)] [(0, 4)] rfl rfl rfl) (r1_sh [(0, 4)] [(0, 4)] rfl rfl (by decide +kernel))
theorem i_Lane {d : Nat} {pre : Al} {Post : Al → Prop} {q : Int} {a : Int} {f : Nat → Vl} (hq : (pre.length : Int) = q) (k : Post [(0, 2, updC (updC (updC (updC (updC (f) 0 (vI a)) 7 (vR 0 (q + 1))) 8 (vR 0 (q + 2))) 9 (vR 0 (q + 3))) 16 (vR 0 (q + 4))),
    (1, 121, fun _ => vI 0),
    (1, 121, fun _ => vI 0),
    (1, 121, fun _ => vI 0),
    (0, 0, dfl 0)]) : WPA (d + 2) 25 [vR 0 q, vI a] pre [(0, 2, f)] 4 370 Post := by
  intro K hK
  have hK : StpA cX2_init RX2 "<init>" pre [(0, 2, f)] 4 370 (WPA (d + 1)) Post K := hK
  have hRet : ∀ {pc : Nat} {ls : Lc} {μ : Al}, decode cX2_init pc = .ok (.return_, 1) → Post μ → μ.length = [((0, 2, f) : Ce)].length + 4 → szs μ = szs [((0, 2, f) : Ce)] + 370 → K pc ls [] μ := hK.2
  have hN := hK.1
  have hC := hK.1.1
  show K 0 [some (vR 0 q), some (vI a)] [] [(0, 2, f)]
  refine r_aload_n hC dX2_init_0 rfl ?_
  refine n_obj hN dX2_init_1 ob_RX2_3 (Nat.le_of_ble_eq_true rfl) ?_
  refine r_aload_n hC dX2_init_4 rfl ?_
  refine r_iload_n hC dX2_init_5 rfl ?_
  refine n_putI (k := 0) hN dX2_init_6 fw_RX2_9 fg_RX2_9 rfl hq ?_
  refine r_aload_n hC dX2_init_9 rfl ?_
  refine r_bipush hC dX2_init_10 rfl ?_
  refine n_newa (nn := 121) (q := q + 1) hN dX2_init_12 arrI rfl (by decide) (hc_sh [(0, 2)] [(0, 2)] rfl rfl (by decide)) (hs_sh [(0, 2)] [(0, 2)] rfl rfl (by decide +kernel)) (hq_sh [(0, 2)] 1 rfl rfl hq rfl) ?_
  refine n_putR (k := 0) hN dX2_init_14 ff_RX2_15 rfl fg_RX2_15 rfl hq (fun _ => ⟨rfl, rfl⟩) ?_
  refine r_aload_n hC dX2_init_17 rfl ?_
  refine r_bipush hC dX2_init_18 rfl ?_
  refine n_newa (nn := 121) (q := q + 2) hN dX2_init_20 arrI rfl (by decide) (hc_sh [(0, 2), (1, 121)] [(0, 2)] rfl rfl (by decide)) (hs_sh [(0, 2), (1, 121)] [(0, 2)] rfl rfl (by decide +kernel)) (hq_sh [(0, 2), (1, 121)] 2 rfl rfl hq rfl) ?_
  refine n_putR (k := 0) hN dX2_init_22 ff_RX2_19 rfl fg_RX2_19 rfl hq (fun _ => ⟨rfl, rfl⟩) ?_
  refine r_aload_n hC dX2_init_25 rfl ?_
  refine r_bipush hC dX2_init_26 rfl ?_
  refine n_newa (nn := 121) (q := q + 3) hN dX2_init_28 arrI rfl (by decide) (hc_sh [(0, 2), (1, 121), (1, 121)] [(0, 2)] rfl rfl (by decide)) (hs_sh [(0, 2), (1, 121), (1, 121)] [(0, 2)] rfl rfl (by decide +kernel)) (hq_sh [(0, 2), (1, 121), (1, 121)] 3 rfl rfl hq rfl) ?_
  refine n_putR (k := 0) hN dX2_init_30 ff_RX2_22 rfl fg_RX2_22 rfl hq (fun _ => ⟨rfl, rfl⟩) ?_
  refine r_aload_n hC dX2_init_33 rfl ?_
  refine n_new (q := q + 4) hN dX2_init_34 nl_RX2_25 (hc_sh [(0, 2), (1, 121), (1, 121), (1, 121)] [(0, 2)] rfl rfl (by decide)) (hs_sh [(0, 2), (1, 121), (1, 121), (1, 121)] [(0, 2)] rfl rfl (by decide +kernel)) (hq_sh [(0, 2), (1, 121), (1, 121), (1, 121)] 4 rfl rfl hq rfl) ?_
  refine r_dup hC dX2_init_37 rfl ?_
  refine n_call (as := []) (l0 := [_]) (mc := 0) (ms := 0) hN dX2_init_38 il_RX2_27 rfl (Nat.le_of_ble_eq_true rfl) (Nat.le_of_ble_eq_true rfl) (hc_sh [(0, 2), (1, 121), (1, 121), (1, 121), (0, 0)] [(0, 2)] rfl rfl (by decide)) (hs_sh [(0, 2), (1, 121), (1, 121), (1, 121), (0, 0)] [(0, 2)] rfl rfl (by decide +kernel)) ?_
  refine i_Flip (hl_sh [(0, 2), (1, 121), (1, 121), (1, 121)] 4 rfl rfl hq rfl) ?_
  refine n_putR (k := 0) hN dX2_init_41 ff_RX2_28 rfl fg_RX2_28 rfl hq (fun _ => ⟨rfl, rfl⟩) ?_
  exact hRet dX2_init_44 k (r0_sh [(0, 2), (1, 121), (1, 121), (1, 121), (0, 0)] [(0, 2)] rfl rfl rfl) (r1_sh [(0, 2), (1, 121), (1, 121), (1, 121), (0, 0)] [(0, 2)] rfl rfl (by decide +kernel))
theorem i_Fold {d : Nat} {pre : Al} {Post : Al → Prop} {q : Int} {f : Nat → Vl} (hq : (pre.length : Int) = q) (k : Post [(0, 1, updC (updC (updC (updC (f) 0 (vR 0 (q + 1))) 1 (vR 0 (q + 2))) 2 (vR 0 (q + 3))) 3 (vR 0 (q + 4))),
    (1, 16, fun _ => vI 0),
    (1, 8, fun j => if j < 8 then vI 228 else (fun _ => vI 0) j),
    (1, 7, fun _ => vI 0),
    (1, 7, fun _ => vI 0)]) : WPA (d + 2) 8 [vR 0 q] pre [(0, 1, f)] 4 38 Post := by
  intro K hK
  have hK : StpA cX1_init RX1 "<init>" pre [(0, 1, f)] 4 38 (WPA (d + 1)) Post K := hK
  have hRet : ∀ {pc : Nat} {ls : Lc} {μ : Al}, decode cX1_init pc = .ok (.return_, 1) → Post μ → μ.length = [((0, 1, f) : Ce)].length + 4 → szs μ = szs [((0, 1, f) : Ce)] + 38 → K pc ls [] μ := hK.2
  have hN := hK.1
  have hC := hK.1.1
  show K 0 [some (vR 0 q)] [] [(0, 1, f)]
  refine r_aload_n hC dX1_init_0 rfl ?_
  refine n_obj hN dX1_init_1 ob_RX1_3 (Nat.le_of_ble_eq_true rfl) ?_
  refine r_aload_n hC dX1_init_4 rfl ?_
  refine r_bipush hC dX1_init_5 rfl ?_
  refine n_newa (nn := 16) (q := q + 1) hN dX1_init_7 arrI rfl (by decide) (hc_sh [(0, 1)] [(0, 1)] rfl rfl (by decide)) (hs_sh [(0, 1)] [(0, 1)] rfl rfl (by decide +kernel)) (hq_sh [(0, 1)] 1 rfl rfl hq rfl) ?_
  refine n_putR (k := 0) hN dX1_init_9 ff_RX1_9 rfl fg_RX1_9 rfl hq (fun _ => ⟨rfl, rfl⟩) ?_
  refine r_aload_n hC dX1_init_12 rfl ?_
  refine r_bipush hC dX1_init_13 rfl ?_
  refine n_newa (nn := 8) (q := q + 2) hN dX1_init_15 arrI rfl (by decide) (hc_sh [(0, 1), (1, 16)] [(0, 1)] rfl rfl (by decide)) (hs_sh [(0, 1), (1, 16)] [(0, 1)] rfl rfl (by decide +kernel)) (hq_sh [(0, 1), (1, 16)] 2 rfl rfl hq rfl) ?_
  refine n_putR (k := 0) hN dX1_init_17 ff_RX1_15 rfl fg_RX1_15 rfl hq (fun _ => ⟨rfl, rfl⟩) ?_
  refine r_aload_n hC dX1_init_20 rfl ?_
  refine n_getf (k := 0) (v := vR 0 (q + 2)) hN dX1_init_21 fl_RX1_15 rfl hq rfl (hv_sh [(0, 1), (1, 16), (1, 8)] 2 rfl hq rfl (by decide)) ?_
  refine r_sipush hC dX1_init_24 rfl ?_
  refine n_fill (as := [vR 0 (q + 2), vI 228]) hN dX1_init_27 tl_RX1_18 rfl rfl (Nat.le_of_ble_eq_true rfl) (Nat.le_of_ble_eq_true rfl) (hc0_sh (b := 4) [(0, 1), (1, 16), (1, 8)] [(0, 1)] rfl rfl (by decide)) (hs0_sh (b := 38) [(0, 1), (1, 16), (1, 8)] [(0, 1)] rfl rfl (by decide +kernel)) ?_
  refine i_fill (k := 2) (q := q + 2) rfl (hp_sh 2 hq rfl) (by decide) ?_
  refine r_aload_n hC dX1_init_30 rfl ?_
  refine r_bipush hC dX1_init_31 rfl ?_
  refine n_newa (nn := 7) (q := q + 3) hN dX1_init_33 arrI rfl (by decide) (hc_sh [(0, 1), (1, 16), (1, 8)] [(0, 1)] rfl rfl (by decide)) (hs_sh [(0, 1), (1, 16), (1, 8)] [(0, 1)] rfl rfl (by decide +kernel)) (hq_sh [(0, 1), (1, 16), (1, 8)] 3 rfl rfl hq rfl) ?_
  refine n_putR (k := 0) hN dX1_init_35 ff_RX1_24 rfl fg_RX1_24 rfl hq (fun _ => ⟨rfl, rfl⟩) ?_
  refine r_aload_n hC dX1_init_38 rfl ?_
  refine r_bipush hC dX1_init_39 rfl ?_
  refine n_newa (nn := 7) (q := q + 4) hN dX1_init_41 arrI rfl (by decide) (hc_sh [(0, 1), (1, 16), (1, 8), (1, 7)] [(0, 1)] rfl rfl (by decide)) (hs_sh [(0, 1), (1, 16), (1, 8), (1, 7)] [(0, 1)] rfl rfl (by decide +kernel)) (hq_sh [(0, 1), (1, 16), (1, 8), (1, 7)] 4 rfl rfl hq rfl) ?_
  refine n_putR (k := 0) hN dX1_init_43 ff_RX1_27 rfl fg_RX1_27 rfl hq (fun _ => ⟨rfl, rfl⟩) ?_
  exact hRet dX1_init_46 k (r0_sh [(0, 1), (1, 16), (1, 8), (1, 7), (1, 7)] [(0, 1)] rfl rfl rfl) (r1_sh [(0, 1), (1, 16), (1, 8), (1, 7), (1, 7)] [(0, 1)] rfl rfl (by decide +kernel))
