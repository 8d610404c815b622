-- B: the reference: send, like
theorem y_bits0 {e : Ev} {d : Nat} {P : Option Vl → Mm → Prop} {σ : Mm}   (k : P (some (vI 0)) σ) : WT e (d + 1) 166 [vI 0] σ P := by
  refine WT_in fun K hK => ?_
  have hK : StpY e cX6_bits RX6 (some .int) (WT e (d + 0)) P K := hK
  have hM := hK.1
  have hC := hK.1.1
  show K 0 [some (vI 0), none, none] [] σ
  refine r_iconst hC dX6_bits_0 rfl ?_
  refine r_istore_n hC dX6_bits_1 rfl ?_
  refine r_iconst hC dX6_bits_2 rfl ?_
  refine r_istore_n hC dX6_bits_3 rfl ?_
  refine r_iload_n hC dX6_bits_4 rfl ?_
  refine r_iconst hC dX6_bits_5 rfl ?_
  refine r_icmp_ge (tgt := 23) hC dX6_bits_6 rfl (fun h1 => by omega) (fun h1 => ?_)
  refine r_iload_n hC dX6_bits_9 rfl ?_
  refine r_iload_n hC dX6_bits_10 rfl ?_
  refine r_iload_n hC dX6_bits_11 rfl ?_
  refine r_ishr hC dX6_bits_12 ?_
  rw [show ishr (0) (0) = (0 : Int) from by decide +kernel]
  refine r_iconst hC dX6_bits_13 rfl ?_
  refine r_iand hC dX6_bits_14 ?_
  rw [show iand (0) (1) = (0 : Int) from by decide +kernel]
  refine r_iaddE hC (0) dX6_bits_15 (by omega) (by unfold inR; omega) ?_
  refine r_istore_n hC dX6_bits_16 rfl ?_
  show K _ [_, _, _] _ _
  refine r_iincE hC (1) dX6_bits_17 rfl rfl (by omega) (by unfold inR; omega) ?_
  refine r_goto (tgt := 4) hC dX6_bits_20 rfl ?_
  refine r_iload_n hC dX6_bits_4 rfl ?_
  refine r_iconst hC dX6_bits_5 rfl ?_
  refine r_icmp_ge (tgt := 23) hC dX6_bits_6 rfl (fun h4 => by omega) (fun h4 => ?_)
  refine r_iload_n hC dX6_bits_9 rfl ?_
  refine r_iload_n hC dX6_bits_10 rfl ?_
  refine r_iload_n hC dX6_bits_11 rfl ?_
  refine r_ishr hC dX6_bits_12 ?_
  rw [show ishr (0) (1) = (0 : Int) from by decide +kernel]
  refine r_iconst hC dX6_bits_13 rfl ?_
  refine r_iand hC dX6_bits_14 ?_
  rw [show iand (0) (1) = (0 : Int) from by decide +kernel]
  refine r_iaddE hC (0) dX6_bits_15 (by omega) (by unfold inR; omega) ?_
  refine r_istore_n hC dX6_bits_16 rfl ?_
  refine r_iincE hC (2) dX6_bits_17 rfl rfl (by omega) (by unfold inR; omega) ?_
  show K _ [_, _, _] _ _
  refine r_goto (tgt := 4) hC dX6_bits_20 rfl ?_
  refine r_iload_n hC dX6_bits_4 rfl ?_
  refine r_iconst hC dX6_bits_5 rfl ?_
  refine r_icmp_ge (tgt := 23) hC dX6_bits_6 rfl (fun h7 => by omega) (fun h7 => ?_)
  refine r_iload_n hC dX6_bits_9 rfl ?_
  refine r_iload_n hC dX6_bits_10 rfl ?_
  refine r_iload_n hC dX6_bits_11 rfl ?_
  refine r_ishr hC dX6_bits_12 ?_
  rw [show ishr (0) (2) = (0 : Int) from by decide +kernel]
  refine r_iconst hC dX6_bits_13 rfl ?_
  refine r_iand hC dX6_bits_14 ?_
  rw [show iand (0) (1) = (0 : Int) from by decide +kernel]
  refine r_iaddE hC (0) dX6_bits_15 (by omega) (by unfold inR; omega) ?_
  refine r_istore_n hC dX6_bits_16 rfl ?_
  refine r_iincE hC (3) dX6_bits_17 rfl rfl (by omega) (by unfold inR; omega) ?_
  refine r_goto (tgt := 4) hC dX6_bits_20 rfl ?_
  refine r_iload_n hC dX6_bits_4 rfl ?_
  refine r_iconst hC dX6_bits_5 rfl ?_
  refine r_icmp_ge (tgt := 23) hC dX6_bits_6 rfl (fun h10 => by omega) (fun h10 => ?_)
  refine r_iload_n hC dX6_bits_9 rfl ?_
  refine r_iload_n hC dX6_bits_10 rfl ?_
  refine r_iload_n hC dX6_bits_11 rfl ?_
  refine r_ishr hC dX6_bits_12 ?_
  rw [show ishr (0) (3) = (0 : Int) from by decide +kernel]
  refine r_iconst hC dX6_bits_13 rfl ?_
  refine r_iand hC dX6_bits_14 ?_
  rw [show iand (0) (1) = (0 : Int) from by decide +kernel]
  refine r_iaddE hC (0) dX6_bits_15 (by omega) (by unfold inR; omega) ?_
  refine r_istore_n hC dX6_bits_16 rfl ?_
  show K _ [_, _, _] _ _
  refine r_iincE hC (4) dX6_bits_17 rfl rfl (by omega) (by unfold inR; omega) ?_
  refine r_goto (tgt := 4) hC dX6_bits_20 rfl ?_
  refine r_iload_n hC dX6_bits_4 rfl ?_
  refine r_iconst hC dX6_bits_5 rfl ?_
  refine r_icmp_ge (tgt := 23) hC dX6_bits_6 rfl (fun h13 => ?_) (fun h13 => by omega)
  refine r_iload_n hC dX6_bits_23 rfl ?_
  refine y_iret hK rfl dX6_bits_24 ?_
  exact k
theorem y_bits1 {e : Ev} {d : Nat} {P : Option Vl → Mm → Prop} {σ : Mm}   (k : P (some (vI 1)) σ) : WT e (d + 1) 166 [vI 1] σ P := by
  refine WT_in fun K hK => ?_
  have hK : StpY e cX6_bits RX6 (some .int) (WT e (d + 0)) P K := hK
  have hM := hK.1
  have hC := hK.1.1
  show K 0 [some (vI 1), none, none] [] σ
  refine r_iconst hC dX6_bits_0 rfl ?_
  refine r_istore_n hC dX6_bits_1 rfl ?_
  refine r_iconst hC dX6_bits_2 rfl ?_
  refine r_istore_n hC dX6_bits_3 rfl ?_
  refine r_iload_n hC dX6_bits_4 rfl ?_
  refine r_iconst hC dX6_bits_5 rfl ?_
  refine r_icmp_ge (tgt := 23) hC dX6_bits_6 rfl (fun h1 => by omega) (fun h1 => ?_)
  refine r_iload_n hC dX6_bits_9 rfl ?_
  refine r_iload_n hC dX6_bits_10 rfl ?_
  refine r_iload_n hC dX6_bits_11 rfl ?_
  refine r_ishr hC dX6_bits_12 ?_
  rw [show ishr (1) (0) = (1 : Int) from by decide +kernel]
  refine r_iconst hC dX6_bits_13 rfl ?_
  refine r_iand hC dX6_bits_14 ?_
  rw [show iand (1) (1) = (1 : Int) from by decide +kernel]
  refine r_iaddE hC (1) dX6_bits_15 (by omega) (by unfold inR; omega) ?_
  refine r_istore_n hC dX6_bits_16 rfl ?_
  show K _ [_, _, _] _ _
  refine r_iincE hC (1) dX6_bits_17 rfl rfl (by omega) (by unfold inR; omega) ?_
  refine r_goto (tgt := 4) hC dX6_bits_20 rfl ?_
  refine r_iload_n hC dX6_bits_4 rfl ?_
  refine r_iconst hC dX6_bits_5 rfl ?_
  refine r_icmp_ge (tgt := 23) hC dX6_bits_6 rfl (fun h4 => by omega) (fun h4 => ?_)
  refine r_iload_n hC dX6_bits_9 rfl ?_
  refine r_iload_n hC dX6_bits_10 rfl ?_
  refine r_iload_n hC dX6_bits_11 rfl ?_
  refine r_ishr hC dX6_bits_12 ?_
  rw [show ishr (1) (1) = (0 : Int) from by decide +kernel]
  refine r_iconst hC dX6_bits_13 rfl ?_
  refine r_iand hC dX6_bits_14 ?_
  rw [show iand (0) (1) = (0 : Int) from by decide +kernel]
  refine r_iaddE hC (1) dX6_bits_15 (by omega) (by unfold inR; omega) ?_
  refine r_istore_n hC dX6_bits_16 rfl ?_
  refine r_iincE hC (2) dX6_bits_17 rfl rfl (by omega) (by unfold inR; omega) ?_
  show K _ [_, _, _] _ _
  refine r_goto (tgt := 4) hC dX6_bits_20 rfl ?_
  refine r_iload_n hC dX6_bits_4 rfl ?_
  refine r_iconst hC dX6_bits_5 rfl ?_
  refine r_icmp_ge (tgt := 23) hC dX6_bits_6 rfl (fun h7 => by omega) (fun h7 => ?_)
  refine r_iload_n hC dX6_bits_9 rfl ?_
  refine r_iload_n hC dX6_bits_10 rfl ?_
  refine r_iload_n hC dX6_bits_11 rfl ?_
  refine r_ishr hC dX6_bits_12 ?_
  rw [show ishr (1) (2) = (0 : Int) from by decide +kernel]
  refine r_iconst hC dX6_bits_13 rfl ?_
  refine r_iand hC dX6_bits_14 ?_
  rw [show iand (0) (1) = (0 : Int) from by decide +kernel]
  refine r_iaddE hC (1) dX6_bits_15 (by omega) (by unfold inR; omega) ?_
  refine r_istore_n hC dX6_bits_16 rfl ?_
  refine r_iincE hC (3) dX6_bits_17 rfl rfl (by omega) (by unfold inR; omega) ?_
  refine r_goto (tgt := 4) hC dX6_bits_20 rfl ?_
  refine r_iload_n hC dX6_bits_4 rfl ?_
  refine r_iconst hC dX6_bits_5 rfl ?_
  refine r_icmp_ge (tgt := 23) hC dX6_bits_6 rfl (fun h10 => by omega) (fun h10 => ?_)
  refine r_iload_n hC dX6_bits_9 rfl ?_
  refine r_iload_n hC dX6_bits_10 rfl ?_
  refine r_iload_n hC dX6_bits_11 rfl ?_
  refine r_ishr hC dX6_bits_12 ?_
  rw [show ishr (1) (3) = (0 : Int) from by decide +kernel]
  refine r_iconst hC dX6_bits_13 rfl ?_
  refine r_iand hC dX6_bits_14 ?_
  rw [show iand (0) (1) = (0 : Int) from by decide +kernel]
  refine r_iaddE hC (1) dX6_bits_15 (by omega) (by unfold inR; omega) ?_
  refine r_istore_n hC dX6_bits_16 rfl ?_
  show K _ [_, _, _] _ _
  refine r_iincE hC (4) dX6_bits_17 rfl rfl (by omega) (by unfold inR; omega) ?_
  refine r_goto (tgt := 4) hC dX6_bits_20 rfl ?_
  refine r_iload_n hC dX6_bits_4 rfl ?_
  refine r_iconst hC dX6_bits_5 rfl ?_
  refine r_icmp_ge (tgt := 23) hC dX6_bits_6 rfl (fun h13 => ?_) (fun h13 => by omega)
  refine r_iload_n hC dX6_bits_23 rfl ?_
  refine y_iret hK rfl dX6_bits_24 ?_
  exact k
theorem y_bits2 {e : Ev} {d : Nat} {P : Option Vl → Mm → Prop} {σ : Mm}   (k : P (some (vI 1)) σ) : WT e (d + 1) 166 [vI 2] σ P := by
  refine WT_in fun K hK => ?_
  have hK : StpY e cX6_bits RX6 (some .int) (WT e (d + 0)) P K := hK
  have hM := hK.1
  have hC := hK.1.1
  show K 0 [some (vI 2), none, none] [] σ
  refine r_iconst hC dX6_bits_0 rfl ?_
  refine r_istore_n hC dX6_bits_1 rfl ?_
  refine r_iconst hC dX6_bits_2 rfl ?_
  refine r_istore_n hC dX6_bits_3 rfl ?_
  refine r_iload_n hC dX6_bits_4 rfl ?_
  refine r_iconst hC dX6_bits_5 rfl ?_
  refine r_icmp_ge (tgt := 23) hC dX6_bits_6 rfl (fun h1 => by omega) (fun h1 => ?_)
  refine r_iload_n hC dX6_bits_9 rfl ?_
  refine r_iload_n hC dX6_bits_10 rfl ?_
  refine r_iload_n hC dX6_bits_11 rfl ?_
  refine r_ishr hC dX6_bits_12 ?_
  rw [show ishr (2) (0) = (2 : Int) from by decide +kernel]
  refine r_iconst hC dX6_bits_13 rfl ?_
  refine r_iand hC dX6_bits_14 ?_
  rw [show iand (2) (1) = (0 : Int) from by decide +kernel]
  refine r_iaddE hC (0) dX6_bits_15 (by omega) (by unfold inR; omega) ?_
  refine r_istore_n hC dX6_bits_16 rfl ?_
  show K _ [_, _, _] _ _
  refine r_iincE hC (1) dX6_bits_17 rfl rfl (by omega) (by unfold inR; omega) ?_
  refine r_goto (tgt := 4) hC dX6_bits_20 rfl ?_
  refine r_iload_n hC dX6_bits_4 rfl ?_
  refine r_iconst hC dX6_bits_5 rfl ?_
  refine r_icmp_ge (tgt := 23) hC dX6_bits_6 rfl (fun h4 => by omega) (fun h4 => ?_)
  refine r_iload_n hC dX6_bits_9 rfl ?_
  refine r_iload_n hC dX6_bits_10 rfl ?_
  refine r_iload_n hC dX6_bits_11 rfl ?_
  refine r_ishr hC dX6_bits_12 ?_
  rw [show ishr (2) (1) = (1 : Int) from by decide +kernel]
  refine r_iconst hC dX6_bits_13 rfl ?_
  refine r_iand hC dX6_bits_14 ?_
  rw [show iand (1) (1) = (1 : Int) from by decide +kernel]
  refine r_iaddE hC (1) dX6_bits_15 (by omega) (by unfold inR; omega) ?_
  refine r_istore_n hC dX6_bits_16 rfl ?_
  refine r_iincE hC (2) dX6_bits_17 rfl rfl (by omega) (by unfold inR; omega) ?_
  show K _ [_, _, _] _ _
  refine r_goto (tgt := 4) hC dX6_bits_20 rfl ?_
  refine r_iload_n hC dX6_bits_4 rfl ?_
  refine r_iconst hC dX6_bits_5 rfl ?_
  refine r_icmp_ge (tgt := 23) hC dX6_bits_6 rfl (fun h7 => by omega) (fun h7 => ?_)
  refine r_iload_n hC dX6_bits_9 rfl ?_
  refine r_iload_n hC dX6_bits_10 rfl ?_
  refine r_iload_n hC dX6_bits_11 rfl ?_
  refine r_ishr hC dX6_bits_12 ?_
  rw [show ishr (2) (2) = (0 : Int) from by decide +kernel]
  refine r_iconst hC dX6_bits_13 rfl ?_
  refine r_iand hC dX6_bits_14 ?_
  rw [show iand (0) (1) = (0 : Int) from by decide +kernel]
  refine r_iaddE hC (1) dX6_bits_15 (by omega) (by unfold inR; omega) ?_
  refine r_istore_n hC dX6_bits_16 rfl ?_
  refine r_iincE hC (3) dX6_bits_17 rfl rfl (by omega) (by unfold inR; omega) ?_
  refine r_goto (tgt := 4) hC dX6_bits_20 rfl ?_
  refine r_iload_n hC dX6_bits_4 rfl ?_
  refine r_iconst hC dX6_bits_5 rfl ?_
  refine r_icmp_ge (tgt := 23) hC dX6_bits_6 rfl (fun h10 => by omega) (fun h10 => ?_)
  refine r_iload_n hC dX6_bits_9 rfl ?_
  refine r_iload_n hC dX6_bits_10 rfl ?_
  refine r_iload_n hC dX6_bits_11 rfl ?_
  refine r_ishr hC dX6_bits_12 ?_
  rw [show ishr (2) (3) = (0 : Int) from by decide +kernel]
  refine r_iconst hC dX6_bits_13 rfl ?_
  refine r_iand hC dX6_bits_14 ?_
  rw [show iand (0) (1) = (0 : Int) from by decide +kernel]
  refine r_iaddE hC (1) dX6_bits_15 (by omega) (by unfold inR; omega) ?_
  refine r_istore_n hC dX6_bits_16 rfl ?_
  show K _ [_, _, _] _ _
  refine r_iincE hC (4) dX6_bits_17 rfl rfl (by omega) (by unfold inR; omega) ?_
  refine r_goto (tgt := 4) hC dX6_bits_20 rfl ?_
  refine r_iload_n hC dX6_bits_4 rfl ?_
  refine r_iconst hC dX6_bits_5 rfl ?_
  refine r_icmp_ge (tgt := 23) hC dX6_bits_6 rfl (fun h13 => ?_) (fun h13 => by omega)
  refine r_iload_n hC dX6_bits_23 rfl ?_
  refine y_iret hK rfl dX6_bits_24 ?_
  exact k
theorem y_bits3 {e : Ev} {d : Nat} {P : Option Vl → Mm → Prop} {σ : Mm}   (k : P (some (vI 2)) σ) : WT e (d + 1) 166 [vI 3] σ P := by
  refine WT_in fun K hK => ?_
  have hK : StpY e cX6_bits RX6 (some .int) (WT e (d + 0)) P K := hK
  have hM := hK.1
  have hC := hK.1.1
  show K 0 [some (vI 3), none, none] [] σ
  refine r_iconst hC dX6_bits_0 rfl ?_
  refine r_istore_n hC dX6_bits_1 rfl ?_
  refine r_iconst hC dX6_bits_2 rfl ?_
  refine r_istore_n hC dX6_bits_3 rfl ?_
  refine r_iload_n hC dX6_bits_4 rfl ?_
  refine r_iconst hC dX6_bits_5 rfl ?_
  refine r_icmp_ge (tgt := 23) hC dX6_bits_6 rfl (fun h1 => by omega) (fun h1 => ?_)
  refine r_iload_n hC dX6_bits_9 rfl ?_
  refine r_iload_n hC dX6_bits_10 rfl ?_
  refine r_iload_n hC dX6_bits_11 rfl ?_
  refine r_ishr hC dX6_bits_12 ?_
  rw [show ishr (3) (0) = (3 : Int) from by decide +kernel]
  refine r_iconst hC dX6_bits_13 rfl ?_
  refine r_iand hC dX6_bits_14 ?_
  rw [show iand (3) (1) = (1 : Int) from by decide +kernel]
  refine r_iaddE hC (1) dX6_bits_15 (by omega) (by unfold inR; omega) ?_
  refine r_istore_n hC dX6_bits_16 rfl ?_
  show K _ [_, _, _] _ _
  refine r_iincE hC (1) dX6_bits_17 rfl rfl (by omega) (by unfold inR; omega) ?_
  refine r_goto (tgt := 4) hC dX6_bits_20 rfl ?_
  refine r_iload_n hC dX6_bits_4 rfl ?_
  refine r_iconst hC dX6_bits_5 rfl ?_
  refine r_icmp_ge (tgt := 23) hC dX6_bits_6 rfl (fun h4 => by omega) (fun h4 => ?_)
  refine r_iload_n hC dX6_bits_9 rfl ?_
  refine r_iload_n hC dX6_bits_10 rfl ?_
  refine r_iload_n hC dX6_bits_11 rfl ?_
  refine r_ishr hC dX6_bits_12 ?_
  rw [show ishr (3) (1) = (1 : Int) from by decide +kernel]
  refine r_iconst hC dX6_bits_13 rfl ?_
  refine r_iand hC dX6_bits_14 ?_
  rw [show iand (1) (1) = (1 : Int) from by decide +kernel]
  refine r_iaddE hC (2) dX6_bits_15 (by omega) (by unfold inR; omega) ?_
  refine r_istore_n hC dX6_bits_16 rfl ?_
  refine r_iincE hC (2) dX6_bits_17 rfl rfl (by omega) (by unfold inR; omega) ?_
  show K _ [_, _, _] _ _
  refine r_goto (tgt := 4) hC dX6_bits_20 rfl ?_
  refine r_iload_n hC dX6_bits_4 rfl ?_
  refine r_iconst hC dX6_bits_5 rfl ?_
  refine r_icmp_ge (tgt := 23) hC dX6_bits_6 rfl (fun h7 => by omega) (fun h7 => ?_)
  refine r_iload_n hC dX6_bits_9 rfl ?_
  refine r_iload_n hC dX6_bits_10 rfl ?_
  refine r_iload_n hC dX6_bits_11 rfl ?_
  refine r_ishr hC dX6_bits_12 ?_
  rw [show ishr (3) (2) = (0 : Int) from by decide +kernel]
  refine r_iconst hC dX6_bits_13 rfl ?_
  refine r_iand hC dX6_bits_14 ?_
  rw [show iand (0) (1) = (0 : Int) from by decide +kernel]
  refine r_iaddE hC (2) dX6_bits_15 (by omega) (by unfold inR; omega) ?_
  refine r_istore_n hC dX6_bits_16 rfl ?_
  refine r_iincE hC (3) dX6_bits_17 rfl rfl (by omega) (by unfold inR; omega) ?_
  refine r_goto (tgt := 4) hC dX6_bits_20 rfl ?_
  refine r_iload_n hC dX6_bits_4 rfl ?_
  refine r_iconst hC dX6_bits_5 rfl ?_
  refine r_icmp_ge (tgt := 23) hC dX6_bits_6 rfl (fun h10 => by omega) (fun h10 => ?_)
  refine r_iload_n hC dX6_bits_9 rfl ?_
  refine r_iload_n hC dX6_bits_10 rfl ?_
  refine r_iload_n hC dX6_bits_11 rfl ?_
  refine r_ishr hC dX6_bits_12 ?_
  rw [show ishr (3) (3) = (0 : Int) from by decide +kernel]
  refine r_iconst hC dX6_bits_13 rfl ?_
  refine r_iand hC dX6_bits_14 ?_
  rw [show iand (0) (1) = (0 : Int) from by decide +kernel]
  refine r_iaddE hC (2) dX6_bits_15 (by omega) (by unfold inR; omega) ?_
  refine r_istore_n hC dX6_bits_16 rfl ?_
  show K _ [_, _, _] _ _
  refine r_iincE hC (4) dX6_bits_17 rfl rfl (by omega) (by unfold inR; omega) ?_
  refine r_goto (tgt := 4) hC dX6_bits_20 rfl ?_
  refine r_iload_n hC dX6_bits_4 rfl ?_
  refine r_iconst hC dX6_bits_5 rfl ?_
  refine r_icmp_ge (tgt := 23) hC dX6_bits_6 rfl (fun h13 => ?_) (fun h13 => by omega)
  refine r_iload_n hC dX6_bits_23 rfl ?_
  refine y_iret hK rfl dX6_bits_24 ?_
  exact k
theorem y_bits4 {e : Ev} {d : Nat} {P : Option Vl → Mm → Prop} {σ : Mm}   (k : P (some (vI 1)) σ) : WT e (d + 1) 166 [vI 4] σ P := by
  refine WT_in fun K hK => ?_
  have hK : StpY e cX6_bits RX6 (some .int) (WT e (d + 0)) P K := hK
  have hM := hK.1
  have hC := hK.1.1
  show K 0 [some (vI 4), none, none] [] σ
  refine r_iconst hC dX6_bits_0 rfl ?_
  refine r_istore_n hC dX6_bits_1 rfl ?_
  refine r_iconst hC dX6_bits_2 rfl ?_
  refine r_istore_n hC dX6_bits_3 rfl ?_
  refine r_iload_n hC dX6_bits_4 rfl ?_
  refine r_iconst hC dX6_bits_5 rfl ?_
  refine r_icmp_ge (tgt := 23) hC dX6_bits_6 rfl (fun h1 => by omega) (fun h1 => ?_)
  refine r_iload_n hC dX6_bits_9 rfl ?_
  refine r_iload_n hC dX6_bits_10 rfl ?_
  refine r_iload_n hC dX6_bits_11 rfl ?_
  refine r_ishr hC dX6_bits_12 ?_
  rw [show ishr (4) (0) = (4 : Int) from by decide +kernel]
  refine r_iconst hC dX6_bits_13 rfl ?_
  refine r_iand hC dX6_bits_14 ?_
  rw [show iand (4) (1) = (0 : Int) from by decide +kernel]
  refine r_iaddE hC (0) dX6_bits_15 (by omega) (by unfold inR; omega) ?_
  refine r_istore_n hC dX6_bits_16 rfl ?_
  show K _ [_, _, _] _ _
  refine r_iincE hC (1) dX6_bits_17 rfl rfl (by omega) (by unfold inR; omega) ?_
  refine r_goto (tgt := 4) hC dX6_bits_20 rfl ?_
  refine r_iload_n hC dX6_bits_4 rfl ?_
  refine r_iconst hC dX6_bits_5 rfl ?_
  refine r_icmp_ge (tgt := 23) hC dX6_bits_6 rfl (fun h4 => by omega) (fun h4 => ?_)
  refine r_iload_n hC dX6_bits_9 rfl ?_
  refine r_iload_n hC dX6_bits_10 rfl ?_
  refine r_iload_n hC dX6_bits_11 rfl ?_
  refine r_ishr hC dX6_bits_12 ?_
  rw [show ishr (4) (1) = (2 : Int) from by decide +kernel]
  refine r_iconst hC dX6_bits_13 rfl ?_
  refine r_iand hC dX6_bits_14 ?_
  rw [show iand (2) (1) = (0 : Int) from by decide +kernel]
  refine r_iaddE hC (0) dX6_bits_15 (by omega) (by unfold inR; omega) ?_
  refine r_istore_n hC dX6_bits_16 rfl ?_
  refine r_iincE hC (2) dX6_bits_17 rfl rfl (by omega) (by unfold inR; omega) ?_
  show K _ [_, _, _] _ _
  refine r_goto (tgt := 4) hC dX6_bits_20 rfl ?_
  refine r_iload_n hC dX6_bits_4 rfl ?_
  refine r_iconst hC dX6_bits_5 rfl ?_
  refine r_icmp_ge (tgt := 23) hC dX6_bits_6 rfl (fun h7 => by omega) (fun h7 => ?_)
  refine r_iload_n hC dX6_bits_9 rfl ?_
  refine r_iload_n hC dX6_bits_10 rfl ?_
  refine r_iload_n hC dX6_bits_11 rfl ?_
  refine r_ishr hC dX6_bits_12 ?_
  rw [show ishr (4) (2) = (1 : Int) from by decide +kernel]
  refine r_iconst hC dX6_bits_13 rfl ?_
  refine r_iand hC dX6_bits_14 ?_
  rw [show iand (1) (1) = (1 : Int) from by decide +kernel]
  refine r_iaddE hC (1) dX6_bits_15 (by omega) (by unfold inR; omega) ?_
  refine r_istore_n hC dX6_bits_16 rfl ?_
  refine r_iincE hC (3) dX6_bits_17 rfl rfl (by omega) (by unfold inR; omega) ?_
  refine r_goto (tgt := 4) hC dX6_bits_20 rfl ?_
  refine r_iload_n hC dX6_bits_4 rfl ?_
  refine r_iconst hC dX6_bits_5 rfl ?_
  refine r_icmp_ge (tgt := 23) hC dX6_bits_6 rfl (fun h10 => by omega) (fun h10 => ?_)
  refine r_iload_n hC dX6_bits_9 rfl ?_
  refine r_iload_n hC dX6_bits_10 rfl ?_
  refine r_iload_n hC dX6_bits_11 rfl ?_
  refine r_ishr hC dX6_bits_12 ?_
  rw [show ishr (4) (3) = (0 : Int) from by decide +kernel]
  refine r_iconst hC dX6_bits_13 rfl ?_
  refine r_iand hC dX6_bits_14 ?_
  rw [show iand (0) (1) = (0 : Int) from by decide +kernel]
  refine r_iaddE hC (1) dX6_bits_15 (by omega) (by unfold inR; omega) ?_
  refine r_istore_n hC dX6_bits_16 rfl ?_
  show K _ [_, _, _] _ _
  refine r_iincE hC (4) dX6_bits_17 rfl rfl (by omega) (by unfold inR; omega) ?_
  refine r_goto (tgt := 4) hC dX6_bits_20 rfl ?_
  refine r_iload_n hC dX6_bits_4 rfl ?_
  refine r_iconst hC dX6_bits_5 rfl ?_
  refine r_icmp_ge (tgt := 23) hC dX6_bits_6 rfl (fun h13 => ?_) (fun h13 => by omega)
  refine r_iload_n hC dX6_bits_23 rfl ?_
  refine y_iret hK rfl dX6_bits_24 ?_
  exact k
theorem y_bits5 {e : Ev} {d : Nat} {P : Option Vl → Mm → Prop} {σ : Mm}   (k : P (some (vI 2)) σ) : WT e (d + 1) 166 [vI 5] σ P := by
  refine WT_in fun K hK => ?_
  have hK : StpY e cX6_bits RX6 (some .int) (WT e (d + 0)) P K := hK
  have hM := hK.1
  have hC := hK.1.1
  show K 0 [some (vI 5), none, none] [] σ
  refine r_iconst hC dX6_bits_0 rfl ?_
  refine r_istore_n hC dX6_bits_1 rfl ?_
  refine r_iconst hC dX6_bits_2 rfl ?_
  refine r_istore_n hC dX6_bits_3 rfl ?_
  refine r_iload_n hC dX6_bits_4 rfl ?_
  refine r_iconst hC dX6_bits_5 rfl ?_
  refine r_icmp_ge (tgt := 23) hC dX6_bits_6 rfl (fun h1 => by omega) (fun h1 => ?_)
  refine r_iload_n hC dX6_bits_9 rfl ?_
  refine r_iload_n hC dX6_bits_10 rfl ?_
  refine r_iload_n hC dX6_bits_11 rfl ?_
  refine r_ishr hC dX6_bits_12 ?_
  rw [show ishr (5) (0) = (5 : Int) from by decide +kernel]
  refine r_iconst hC dX6_bits_13 rfl ?_
  refine r_iand hC dX6_bits_14 ?_
  rw [show iand (5) (1) = (1 : Int) from by decide +kernel]
  refine r_iaddE hC (1) dX6_bits_15 (by omega) (by unfold inR; omega) ?_
  refine r_istore_n hC dX6_bits_16 rfl ?_
  show K _ [_, _, _] _ _
  refine r_iincE hC (1) dX6_bits_17 rfl rfl (by omega) (by unfold inR; omega) ?_
  refine r_goto (tgt := 4) hC dX6_bits_20 rfl ?_
  refine r_iload_n hC dX6_bits_4 rfl ?_
  refine r_iconst hC dX6_bits_5 rfl ?_
  refine r_icmp_ge (tgt := 23) hC dX6_bits_6 rfl (fun h4 => by omega) (fun h4 => ?_)
  refine r_iload_n hC dX6_bits_9 rfl ?_
  refine r_iload_n hC dX6_bits_10 rfl ?_
  refine r_iload_n hC dX6_bits_11 rfl ?_
  refine r_ishr hC dX6_bits_12 ?_
  rw [show ishr (5) (1) = (2 : Int) from by decide +kernel]
  refine r_iconst hC dX6_bits_13 rfl ?_
  refine r_iand hC dX6_bits_14 ?_
  rw [show iand (2) (1) = (0 : Int) from by decide +kernel]
  refine r_iaddE hC (1) dX6_bits_15 (by omega) (by unfold inR; omega) ?_
  refine r_istore_n hC dX6_bits_16 rfl ?_
  refine r_iincE hC (2) dX6_bits_17 rfl rfl (by omega) (by unfold inR; omega) ?_
  show K _ [_, _, _] _ _
  refine r_goto (tgt := 4) hC dX6_bits_20 rfl ?_
  refine r_iload_n hC dX6_bits_4 rfl ?_
  refine r_iconst hC dX6_bits_5 rfl ?_
  refine r_icmp_ge (tgt := 23) hC dX6_bits_6 rfl (fun h7 => by omega) (fun h7 => ?_)
  refine r_iload_n hC dX6_bits_9 rfl ?_
  refine r_iload_n hC dX6_bits_10 rfl ?_
  refine r_iload_n hC dX6_bits_11 rfl ?_
  refine r_ishr hC dX6_bits_12 ?_
  rw [show ishr (5) (2) = (1 : Int) from by decide +kernel]
  refine r_iconst hC dX6_bits_13 rfl ?_
  refine r_iand hC dX6_bits_14 ?_
  rw [show iand (1) (1) = (1 : Int) from by decide +kernel]
  refine r_iaddE hC (2) dX6_bits_15 (by omega) (by unfold inR; omega) ?_
  refine r_istore_n hC dX6_bits_16 rfl ?_
  refine r_iincE hC (3) dX6_bits_17 rfl rfl (by omega) (by unfold inR; omega) ?_
  refine r_goto (tgt := 4) hC dX6_bits_20 rfl ?_
  refine r_iload_n hC dX6_bits_4 rfl ?_
  refine r_iconst hC dX6_bits_5 rfl ?_
  refine r_icmp_ge (tgt := 23) hC dX6_bits_6 rfl (fun h10 => by omega) (fun h10 => ?_)
  refine r_iload_n hC dX6_bits_9 rfl ?_
  refine r_iload_n hC dX6_bits_10 rfl ?_
  refine r_iload_n hC dX6_bits_11 rfl ?_
  refine r_ishr hC dX6_bits_12 ?_
  rw [show ishr (5) (3) = (0 : Int) from by decide +kernel]
  refine r_iconst hC dX6_bits_13 rfl ?_
  refine r_iand hC dX6_bits_14 ?_
  rw [show iand (0) (1) = (0 : Int) from by decide +kernel]
  refine r_iaddE hC (2) dX6_bits_15 (by omega) (by unfold inR; omega) ?_
  refine r_istore_n hC dX6_bits_16 rfl ?_
  show K _ [_, _, _] _ _
  refine r_iincE hC (4) dX6_bits_17 rfl rfl (by omega) (by unfold inR; omega) ?_
  refine r_goto (tgt := 4) hC dX6_bits_20 rfl ?_
  refine r_iload_n hC dX6_bits_4 rfl ?_
  refine r_iconst hC dX6_bits_5 rfl ?_
  refine r_icmp_ge (tgt := 23) hC dX6_bits_6 rfl (fun h13 => ?_) (fun h13 => by omega)
  refine r_iload_n hC dX6_bits_23 rfl ?_
  refine y_iret hK rfl dX6_bits_24 ?_
  exact k
theorem y_bits6 {e : Ev} {d : Nat} {P : Option Vl → Mm → Prop} {σ : Mm}   (k : P (some (vI 2)) σ) : WT e (d + 1) 166 [vI 6] σ P := by
  refine WT_in fun K hK => ?_
  have hK : StpY e cX6_bits RX6 (some .int) (WT e (d + 0)) P K := hK
  have hM := hK.1
  have hC := hK.1.1
  show K 0 [some (vI 6), none, none] [] σ
  refine r_iconst hC dX6_bits_0 rfl ?_
  refine r_istore_n hC dX6_bits_1 rfl ?_
  refine r_iconst hC dX6_bits_2 rfl ?_
  refine r_istore_n hC dX6_bits_3 rfl ?_
  refine r_iload_n hC dX6_bits_4 rfl ?_
  refine r_iconst hC dX6_bits_5 rfl ?_
  refine r_icmp_ge (tgt := 23) hC dX6_bits_6 rfl (fun h1 => by omega) (fun h1 => ?_)
  refine r_iload_n hC dX6_bits_9 rfl ?_
  refine r_iload_n hC dX6_bits_10 rfl ?_
  refine r_iload_n hC dX6_bits_11 rfl ?_
  refine r_ishr hC dX6_bits_12 ?_
  rw [show ishr (6) (0) = (6 : Int) from by decide +kernel]
  refine r_iconst hC dX6_bits_13 rfl ?_
  refine r_iand hC dX6_bits_14 ?_
  rw [show iand (6) (1) = (0 : Int) from by decide +kernel]
  refine r_iaddE hC (0) dX6_bits_15 (by omega) (by unfold inR; omega) ?_
  refine r_istore_n hC dX6_bits_16 rfl ?_
  show K _ [_, _, _] _ _
  refine r_iincE hC (1) dX6_bits_17 rfl rfl (by omega) (by unfold inR; omega) ?_
  refine r_goto (tgt := 4) hC dX6_bits_20 rfl ?_
  refine r_iload_n hC dX6_bits_4 rfl ?_
  refine r_iconst hC dX6_bits_5 rfl ?_
  refine r_icmp_ge (tgt := 23) hC dX6_bits_6 rfl (fun h4 => by omega) (fun h4 => ?_)
  refine r_iload_n hC dX6_bits_9 rfl ?_
  refine r_iload_n hC dX6_bits_10 rfl ?_
  refine r_iload_n hC dX6_bits_11 rfl ?_
  refine r_ishr hC dX6_bits_12 ?_
  rw [show ishr (6) (1) = (3 : Int) from by decide +kernel]
  refine r_iconst hC dX6_bits_13 rfl ?_
  refine r_iand hC dX6_bits_14 ?_
  rw [show iand (3) (1) = (1 : Int) from by decide +kernel]
  refine r_iaddE hC (1) dX6_bits_15 (by omega) (by unfold inR; omega) ?_
  refine r_istore_n hC dX6_bits_16 rfl ?_
  refine r_iincE hC (2) dX6_bits_17 rfl rfl (by omega) (by unfold inR; omega) ?_
  show K _ [_, _, _] _ _
  refine r_goto (tgt := 4) hC dX6_bits_20 rfl ?_
  refine r_iload_n hC dX6_bits_4 rfl ?_
  refine r_iconst hC dX6_bits_5 rfl ?_
  refine r_icmp_ge (tgt := 23) hC dX6_bits_6 rfl (fun h7 => by omega) (fun h7 => ?_)
  refine r_iload_n hC dX6_bits_9 rfl ?_
  refine r_iload_n hC dX6_bits_10 rfl ?_
  refine r_iload_n hC dX6_bits_11 rfl ?_
  refine r_ishr hC dX6_bits_12 ?_
  rw [show ishr (6) (2) = (1 : Int) from by decide +kernel]
  refine r_iconst hC dX6_bits_13 rfl ?_
  refine r_iand hC dX6_bits_14 ?_
  rw [show iand (1) (1) = (1 : Int) from by decide +kernel]
  refine r_iaddE hC (2) dX6_bits_15 (by omega) (by unfold inR; omega) ?_
  refine r_istore_n hC dX6_bits_16 rfl ?_
  refine r_iincE hC (3) dX6_bits_17 rfl rfl (by omega) (by unfold inR; omega) ?_
  refine r_goto (tgt := 4) hC dX6_bits_20 rfl ?_
  refine r_iload_n hC dX6_bits_4 rfl ?_
  refine r_iconst hC dX6_bits_5 rfl ?_
  refine r_icmp_ge (tgt := 23) hC dX6_bits_6 rfl (fun h10 => by omega) (fun h10 => ?_)
  refine r_iload_n hC dX6_bits_9 rfl ?_
  refine r_iload_n hC dX6_bits_10 rfl ?_
  refine r_iload_n hC dX6_bits_11 rfl ?_
  refine r_ishr hC dX6_bits_12 ?_
  rw [show ishr (6) (3) = (0 : Int) from by decide +kernel]
  refine r_iconst hC dX6_bits_13 rfl ?_
  refine r_iand hC dX6_bits_14 ?_
  rw [show iand (0) (1) = (0 : Int) from by decide +kernel]
  refine r_iaddE hC (2) dX6_bits_15 (by omega) (by unfold inR; omega) ?_
  refine r_istore_n hC dX6_bits_16 rfl ?_
  show K _ [_, _, _] _ _
  refine r_iincE hC (4) dX6_bits_17 rfl rfl (by omega) (by unfold inR; omega) ?_
  refine r_goto (tgt := 4) hC dX6_bits_20 rfl ?_
  refine r_iload_n hC dX6_bits_4 rfl ?_
  refine r_iconst hC dX6_bits_5 rfl ?_
  refine r_icmp_ge (tgt := 23) hC dX6_bits_6 rfl (fun h13 => ?_) (fun h13 => by omega)
  refine r_iload_n hC dX6_bits_23 rfl ?_
  refine y_iret hK rfl dX6_bits_24 ?_
  exact k
theorem y_bits7 {e : Ev} {d : Nat} {P : Option Vl → Mm → Prop} {σ : Mm}   (k : P (some (vI 3)) σ) : WT e (d + 1) 166 [vI 7] σ P := by
  refine WT_in fun K hK => ?_
  have hK : StpY e cX6_bits RX6 (some .int) (WT e (d + 0)) P K := hK
  have hM := hK.1
  have hC := hK.1.1
  show K 0 [some (vI 7), none, none] [] σ
  refine r_iconst hC dX6_bits_0 rfl ?_
  refine r_istore_n hC dX6_bits_1 rfl ?_
  refine r_iconst hC dX6_bits_2 rfl ?_
  refine r_istore_n hC dX6_bits_3 rfl ?_
  refine r_iload_n hC dX6_bits_4 rfl ?_
  refine r_iconst hC dX6_bits_5 rfl ?_
  refine r_icmp_ge (tgt := 23) hC dX6_bits_6 rfl (fun h1 => by omega) (fun h1 => ?_)
  refine r_iload_n hC dX6_bits_9 rfl ?_
  refine r_iload_n hC dX6_bits_10 rfl ?_
  refine r_iload_n hC dX6_bits_11 rfl ?_
  refine r_ishr hC dX6_bits_12 ?_
  rw [show ishr (7) (0) = (7 : Int) from by decide +kernel]
  refine r_iconst hC dX6_bits_13 rfl ?_
  refine r_iand hC dX6_bits_14 ?_
  rw [show iand (7) (1) = (1 : Int) from by decide +kernel]
  refine r_iaddE hC (1) dX6_bits_15 (by omega) (by unfold inR; omega) ?_
  refine r_istore_n hC dX6_bits_16 rfl ?_
  show K _ [_, _, _] _ _
  refine r_iincE hC (1) dX6_bits_17 rfl rfl (by omega) (by unfold inR; omega) ?_
  refine r_goto (tgt := 4) hC dX6_bits_20 rfl ?_
  refine r_iload_n hC dX6_bits_4 rfl ?_
  refine r_iconst hC dX6_bits_5 rfl ?_
  refine r_icmp_ge (tgt := 23) hC dX6_bits_6 rfl (fun h4 => by omega) (fun h4 => ?_)
  refine r_iload_n hC dX6_bits_9 rfl ?_
  refine r_iload_n hC dX6_bits_10 rfl ?_
  refine r_iload_n hC dX6_bits_11 rfl ?_
  refine r_ishr hC dX6_bits_12 ?_
  rw [show ishr (7) (1) = (3 : Int) from by decide +kernel]
  refine r_iconst hC dX6_bits_13 rfl ?_
  refine r_iand hC dX6_bits_14 ?_
  rw [show iand (3) (1) = (1 : Int) from by decide +kernel]
  refine r_iaddE hC (2) dX6_bits_15 (by omega) (by unfold inR; omega) ?_
  refine r_istore_n hC dX6_bits_16 rfl ?_
  refine r_iincE hC (2) dX6_bits_17 rfl rfl (by omega) (by unfold inR; omega) ?_
  show K _ [_, _, _] _ _
  refine r_goto (tgt := 4) hC dX6_bits_20 rfl ?_
  refine r_iload_n hC dX6_bits_4 rfl ?_
  refine r_iconst hC dX6_bits_5 rfl ?_
  refine r_icmp_ge (tgt := 23) hC dX6_bits_6 rfl (fun h7 => by omega) (fun h7 => ?_)
  refine r_iload_n hC dX6_bits_9 rfl ?_
  refine r_iload_n hC dX6_bits_10 rfl ?_
  refine r_iload_n hC dX6_bits_11 rfl ?_
  refine r_ishr hC dX6_bits_12 ?_
  rw [show ishr (7) (2) = (1 : Int) from by decide +kernel]
  refine r_iconst hC dX6_bits_13 rfl ?_
  refine r_iand hC dX6_bits_14 ?_
  rw [show iand (1) (1) = (1 : Int) from by decide +kernel]
  refine r_iaddE hC (3) dX6_bits_15 (by omega) (by unfold inR; omega) ?_
  refine r_istore_n hC dX6_bits_16 rfl ?_
  refine r_iincE hC (3) dX6_bits_17 rfl rfl (by omega) (by unfold inR; omega) ?_
  refine r_goto (tgt := 4) hC dX6_bits_20 rfl ?_
  refine r_iload_n hC dX6_bits_4 rfl ?_
  refine r_iconst hC dX6_bits_5 rfl ?_
  refine r_icmp_ge (tgt := 23) hC dX6_bits_6 rfl (fun h10 => by omega) (fun h10 => ?_)
  refine r_iload_n hC dX6_bits_9 rfl ?_
  refine r_iload_n hC dX6_bits_10 rfl ?_
  refine r_iload_n hC dX6_bits_11 rfl ?_
  refine r_ishr hC dX6_bits_12 ?_
  rw [show ishr (7) (3) = (0 : Int) from by decide +kernel]
  refine r_iconst hC dX6_bits_13 rfl ?_
  refine r_iand hC dX6_bits_14 ?_
  rw [show iand (0) (1) = (0 : Int) from by decide +kernel]
  refine r_iaddE hC (3) dX6_bits_15 (by omega) (by unfold inR; omega) ?_
  refine r_istore_n hC dX6_bits_16 rfl ?_
  show K _ [_, _, _] _ _
  refine r_iincE hC (4) dX6_bits_17 rfl rfl (by omega) (by unfold inR; omega) ?_
  refine r_goto (tgt := 4) hC dX6_bits_20 rfl ?_
  refine r_iload_n hC dX6_bits_4 rfl ?_
  refine r_iconst hC dX6_bits_5 rfl ?_
  refine r_icmp_ge (tgt := 23) hC dX6_bits_6 rfl (fun h13 => ?_) (fun h13 => by omega)
  refine r_iload_n hC dX6_bits_23 rfl ?_
  refine y_iret hK rfl dX6_bits_24 ?_
  exact k
theorem y_bits8 {e : Ev} {d : Nat} {P : Option Vl → Mm → Prop} {σ : Mm}   (k : P (some (vI 1)) σ) : WT e (d + 1) 166 [vI 8] σ P := by
  refine WT_in fun K hK => ?_
  have hK : StpY e cX6_bits RX6 (some .int) (WT e (d + 0)) P K := hK
  have hM := hK.1
  have hC := hK.1.1
  show K 0 [some (vI 8), none, none] [] σ
  refine r_iconst hC dX6_bits_0 rfl ?_
  refine r_istore_n hC dX6_bits_1 rfl ?_
  refine r_iconst hC dX6_bits_2 rfl ?_
  refine r_istore_n hC dX6_bits_3 rfl ?_
  refine r_iload_n hC dX6_bits_4 rfl ?_
  refine r_iconst hC dX6_bits_5 rfl ?_
  refine r_icmp_ge (tgt := 23) hC dX6_bits_6 rfl (fun h1 => by omega) (fun h1 => ?_)
  refine r_iload_n hC dX6_bits_9 rfl ?_
  refine r_iload_n hC dX6_bits_10 rfl ?_
  refine r_iload_n hC dX6_bits_11 rfl ?_
  refine r_ishr hC dX6_bits_12 ?_
  rw [show ishr (8) (0) = (8 : Int) from by decide +kernel]
  refine r_iconst hC dX6_bits_13 rfl ?_
  refine r_iand hC dX6_bits_14 ?_
  rw [show iand (8) (1) = (0 : Int) from by decide +kernel]
  refine r_iaddE hC (0) dX6_bits_15 (by omega) (by unfold inR; omega) ?_
  refine r_istore_n hC dX6_bits_16 rfl ?_
  show K _ [_, _, _] _ _
  refine r_iincE hC (1) dX6_bits_17 rfl rfl (by omega) (by unfold inR; omega) ?_
  refine r_goto (tgt := 4) hC dX6_bits_20 rfl ?_
  refine r_iload_n hC dX6_bits_4 rfl ?_
  refine r_iconst hC dX6_bits_5 rfl ?_
  refine r_icmp_ge (tgt := 23) hC dX6_bits_6 rfl (fun h4 => by omega) (fun h4 => ?_)
  refine r_iload_n hC dX6_bits_9 rfl ?_
  refine r_iload_n hC dX6_bits_10 rfl ?_
  refine r_iload_n hC dX6_bits_11 rfl ?_
  refine r_ishr hC dX6_bits_12 ?_
  rw [show ishr (8) (1) = (4 : Int) from by decide +kernel]
  refine r_iconst hC dX6_bits_13 rfl ?_
  refine r_iand hC dX6_bits_14 ?_
  rw [show iand (4) (1) = (0 : Int) from by decide +kernel]
  refine r_iaddE hC (0) dX6_bits_15 (by omega) (by unfold inR; omega) ?_
  refine r_istore_n hC dX6_bits_16 rfl ?_
  refine r_iincE hC (2) dX6_bits_17 rfl rfl (by omega) (by unfold inR; omega) ?_
  show K _ [_, _, _] _ _
  refine r_goto (tgt := 4) hC dX6_bits_20 rfl ?_
  refine r_iload_n hC dX6_bits_4 rfl ?_
  refine r_iconst hC dX6_bits_5 rfl ?_
  refine r_icmp_ge (tgt := 23) hC dX6_bits_6 rfl (fun h7 => by omega) (fun h7 => ?_)
  refine r_iload_n hC dX6_bits_9 rfl ?_
  refine r_iload_n hC dX6_bits_10 rfl ?_
  refine r_iload_n hC dX6_bits_11 rfl ?_
  refine r_ishr hC dX6_bits_12 ?_
  rw [show ishr (8) (2) = (2 : Int) from by decide +kernel]
  refine r_iconst hC dX6_bits_13 rfl ?_
  refine r_iand hC dX6_bits_14 ?_
  rw [show iand (2) (1) = (0 : Int) from by decide +kernel]
  refine r_iaddE hC (0) dX6_bits_15 (by omega) (by unfold inR; omega) ?_
  refine r_istore_n hC dX6_bits_16 rfl ?_
  refine r_iincE hC (3) dX6_bits_17 rfl rfl (by omega) (by unfold inR; omega) ?_
  refine r_goto (tgt := 4) hC dX6_bits_20 rfl ?_
  refine r_iload_n hC dX6_bits_4 rfl ?_
  refine r_iconst hC dX6_bits_5 rfl ?_
  refine r_icmp_ge (tgt := 23) hC dX6_bits_6 rfl (fun h10 => by omega) (fun h10 => ?_)
  refine r_iload_n hC dX6_bits_9 rfl ?_
  refine r_iload_n hC dX6_bits_10 rfl ?_
  refine r_iload_n hC dX6_bits_11 rfl ?_
  refine r_ishr hC dX6_bits_12 ?_
  rw [show ishr (8) (3) = (1 : Int) from by decide +kernel]
  refine r_iconst hC dX6_bits_13 rfl ?_
  refine r_iand hC dX6_bits_14 ?_
  rw [show iand (1) (1) = (1 : Int) from by decide +kernel]
  refine r_iaddE hC (1) dX6_bits_15 (by omega) (by unfold inR; omega) ?_
  refine r_istore_n hC dX6_bits_16 rfl ?_
  show K _ [_, _, _] _ _
  refine r_iincE hC (4) dX6_bits_17 rfl rfl (by omega) (by unfold inR; omega) ?_
  refine r_goto (tgt := 4) hC dX6_bits_20 rfl ?_
  refine r_iload_n hC dX6_bits_4 rfl ?_
  refine r_iconst hC dX6_bits_5 rfl ?_
  refine r_icmp_ge (tgt := 23) hC dX6_bits_6 rfl (fun h13 => ?_) (fun h13 => by omega)
  refine r_iload_n hC dX6_bits_23 rfl ?_
  refine y_iret hK rfl dX6_bits_24 ?_
  exact k
theorem y_bits9 {e : Ev} {d : Nat} {P : Option Vl → Mm → Prop} {σ : Mm}   (k : P (some (vI 2)) σ) : WT e (d + 1) 166 [vI 9] σ P := by
  refine WT_in fun K hK => ?_
  have hK : StpY e cX6_bits RX6 (some .int) (WT e (d + 0)) P K := hK
  have hM := hK.1
  have hC := hK.1.1
  show K 0 [some (vI 9), none, none] [] σ
  refine r_iconst hC dX6_bits_0 rfl ?_
  refine r_istore_n hC dX6_bits_1 rfl ?_
  refine r_iconst hC dX6_bits_2 rfl ?_
  refine r_istore_n hC dX6_bits_3 rfl ?_
  refine r_iload_n hC dX6_bits_4 rfl ?_
  refine r_iconst hC dX6_bits_5 rfl ?_
  refine r_icmp_ge (tgt := 23) hC dX6_bits_6 rfl (fun h1 => by omega) (fun h1 => ?_)
  refine r_iload_n hC dX6_bits_9 rfl ?_
  refine r_iload_n hC dX6_bits_10 rfl ?_
  refine r_iload_n hC dX6_bits_11 rfl ?_
  refine r_ishr hC dX6_bits_12 ?_
  rw [show ishr (9) (0) = (9 : Int) from by decide +kernel]
  refine r_iconst hC dX6_bits_13 rfl ?_
  refine r_iand hC dX6_bits_14 ?_
  rw [show iand (9) (1) = (1 : Int) from by decide +kernel]
  refine r_iaddE hC (1) dX6_bits_15 (by omega) (by unfold inR; omega) ?_
  refine r_istore_n hC dX6_bits_16 rfl ?_
  show K _ [_, _, _] _ _
  refine r_iincE hC (1) dX6_bits_17 rfl rfl (by omega) (by unfold inR; omega) ?_
  refine r_goto (tgt := 4) hC dX6_bits_20 rfl ?_
  refine r_iload_n hC dX6_bits_4 rfl ?_
  refine r_iconst hC dX6_bits_5 rfl ?_
  refine r_icmp_ge (tgt := 23) hC dX6_bits_6 rfl (fun h4 => by omega) (fun h4 => ?_)
  refine r_iload_n hC dX6_bits_9 rfl ?_
  refine r_iload_n hC dX6_bits_10 rfl ?_
  refine r_iload_n hC dX6_bits_11 rfl ?_
  refine r_ishr hC dX6_bits_12 ?_
  rw [show ishr (9) (1) = (4 : Int) from by decide +kernel]
  refine r_iconst hC dX6_bits_13 rfl ?_
  refine r_iand hC dX6_bits_14 ?_
  rw [show iand (4) (1) = (0 : Int) from by decide +kernel]
  refine r_iaddE hC (1) dX6_bits_15 (by omega) (by unfold inR; omega) ?_
  refine r_istore_n hC dX6_bits_16 rfl ?_
  refine r_iincE hC (2) dX6_bits_17 rfl rfl (by omega) (by unfold inR; omega) ?_
  show K _ [_, _, _] _ _
  refine r_goto (tgt := 4) hC dX6_bits_20 rfl ?_
  refine r_iload_n hC dX6_bits_4 rfl ?_
  refine r_iconst hC dX6_bits_5 rfl ?_
  refine r_icmp_ge (tgt := 23) hC dX6_bits_6 rfl (fun h7 => by omega) (fun h7 => ?_)
  refine r_iload_n hC dX6_bits_9 rfl ?_
  refine r_iload_n hC dX6_bits_10 rfl ?_
  refine r_iload_n hC dX6_bits_11 rfl ?_
  refine r_ishr hC dX6_bits_12 ?_
  rw [show ishr (9) (2) = (2 : Int) from by decide +kernel]
  refine r_iconst hC dX6_bits_13 rfl ?_
  refine r_iand hC dX6_bits_14 ?_
  rw [show iand (2) (1) = (0 : Int) from by decide +kernel]
  refine r_iaddE hC (1) dX6_bits_15 (by omega) (by unfold inR; omega) ?_
  refine r_istore_n hC dX6_bits_16 rfl ?_
  refine r_iincE hC (3) dX6_bits_17 rfl rfl (by omega) (by unfold inR; omega) ?_
  refine r_goto (tgt := 4) hC dX6_bits_20 rfl ?_
  refine r_iload_n hC dX6_bits_4 rfl ?_
  refine r_iconst hC dX6_bits_5 rfl ?_
  refine r_icmp_ge (tgt := 23) hC dX6_bits_6 rfl (fun h10 => by omega) (fun h10 => ?_)
  refine r_iload_n hC dX6_bits_9 rfl ?_
  refine r_iload_n hC dX6_bits_10 rfl ?_
  refine r_iload_n hC dX6_bits_11 rfl ?_
  refine r_ishr hC dX6_bits_12 ?_
  rw [show ishr (9) (3) = (1 : Int) from by decide +kernel]
  refine r_iconst hC dX6_bits_13 rfl ?_
  refine r_iand hC dX6_bits_14 ?_
  rw [show iand (1) (1) = (1 : Int) from by decide +kernel]
  refine r_iaddE hC (2) dX6_bits_15 (by omega) (by unfold inR; omega) ?_
  refine r_istore_n hC dX6_bits_16 rfl ?_
  show K _ [_, _, _] _ _
  refine r_iincE hC (4) dX6_bits_17 rfl rfl (by omega) (by unfold inR; omega) ?_
  refine r_goto (tgt := 4) hC dX6_bits_20 rfl ?_
  refine r_iload_n hC dX6_bits_4 rfl ?_
  refine r_iconst hC dX6_bits_5 rfl ?_
  refine r_icmp_ge (tgt := 23) hC dX6_bits_6 rfl (fun h13 => ?_) (fun h13 => by omega)
  refine r_iload_n hC dX6_bits_23 rfl ?_
  refine y_iret hK rfl dX6_bits_24 ?_
  exact k
theorem y_bits10 {e : Ev} {d : Nat} {P : Option Vl → Mm → Prop} {σ : Mm}   (k : P (some (vI 2)) σ) : WT e (d + 1) 166 [vI 10] σ P := by
  refine WT_in fun K hK => ?_
  have hK : StpY e cX6_bits RX6 (some .int) (WT e (d + 0)) P K := hK
  have hM := hK.1
  have hC := hK.1.1
  show K 0 [some (vI 10), none, none] [] σ
  refine r_iconst hC dX6_bits_0 rfl ?_
  refine r_istore_n hC dX6_bits_1 rfl ?_
  refine r_iconst hC dX6_bits_2 rfl ?_
  refine r_istore_n hC dX6_bits_3 rfl ?_
  refine r_iload_n hC dX6_bits_4 rfl ?_
  refine r_iconst hC dX6_bits_5 rfl ?_
  refine r_icmp_ge (tgt := 23) hC dX6_bits_6 rfl (fun h1 => by omega) (fun h1 => ?_)
  refine r_iload_n hC dX6_bits_9 rfl ?_
  refine r_iload_n hC dX6_bits_10 rfl ?_
  refine r_iload_n hC dX6_bits_11 rfl ?_
  refine r_ishr hC dX6_bits_12 ?_
  rw [show ishr (10) (0) = (10 : Int) from by decide +kernel]
  refine r_iconst hC dX6_bits_13 rfl ?_
  refine r_iand hC dX6_bits_14 ?_
  rw [show iand (10) (1) = (0 : Int) from by decide +kernel]
  refine r_iaddE hC (0) dX6_bits_15 (by omega) (by unfold inR; omega) ?_
  refine r_istore_n hC dX6_bits_16 rfl ?_
  show K _ [_, _, _] _ _
  refine r_iincE hC (1) dX6_bits_17 rfl rfl (by omega) (by unfold inR; omega) ?_
  refine r_goto (tgt := 4) hC dX6_bits_20 rfl ?_
  refine r_iload_n hC dX6_bits_4 rfl ?_
  refine r_iconst hC dX6_bits_5 rfl ?_
  refine r_icmp_ge (tgt := 23) hC dX6_bits_6 rfl (fun h4 => by omega) (fun h4 => ?_)
  refine r_iload_n hC dX6_bits_9 rfl ?_
  refine r_iload_n hC dX6_bits_10 rfl ?_
  refine r_iload_n hC dX6_bits_11 rfl ?_
  refine r_ishr hC dX6_bits_12 ?_
  rw [show ishr (10) (1) = (5 : Int) from by decide +kernel]
  refine r_iconst hC dX6_bits_13 rfl ?_
  refine r_iand hC dX6_bits_14 ?_
  rw [show iand (5) (1) = (1 : Int) from by decide +kernel]
  refine r_iaddE hC (1) dX6_bits_15 (by omega) (by unfold inR; omega) ?_
  refine r_istore_n hC dX6_bits_16 rfl ?_
  refine r_iincE hC (2) dX6_bits_17 rfl rfl (by omega) (by unfold inR; omega) ?_
  show K _ [_, _, _] _ _
  refine r_goto (tgt := 4) hC dX6_bits_20 rfl ?_
  refine r_iload_n hC dX6_bits_4 rfl ?_
  refine r_iconst hC dX6_bits_5 rfl ?_
  refine r_icmp_ge (tgt := 23) hC dX6_bits_6 rfl (fun h7 => by omega) (fun h7 => ?_)
  refine r_iload_n hC dX6_bits_9 rfl ?_
  refine r_iload_n hC dX6_bits_10 rfl ?_
  refine r_iload_n hC dX6_bits_11 rfl ?_
  refine r_ishr hC dX6_bits_12 ?_
  rw [show ishr (10) (2) = (2 : Int) from by decide +kernel]
  refine r_iconst hC dX6_bits_13 rfl ?_
  refine r_iand hC dX6_bits_14 ?_
  rw [show iand (2) (1) = (0 : Int) from by decide +kernel]
  refine r_iaddE hC (1) dX6_bits_15 (by omega) (by unfold inR; omega) ?_
  refine r_istore_n hC dX6_bits_16 rfl ?_
  refine r_iincE hC (3) dX6_bits_17 rfl rfl (by omega) (by unfold inR; omega) ?_
  refine r_goto (tgt := 4) hC dX6_bits_20 rfl ?_
  refine r_iload_n hC dX6_bits_4 rfl ?_
  refine r_iconst hC dX6_bits_5 rfl ?_
  refine r_icmp_ge (tgt := 23) hC dX6_bits_6 rfl (fun h10 => by omega) (fun h10 => ?_)
  refine r_iload_n hC dX6_bits_9 rfl ?_
  refine r_iload_n hC dX6_bits_10 rfl ?_
  refine r_iload_n hC dX6_bits_11 rfl ?_
  refine r_ishr hC dX6_bits_12 ?_
  rw [show ishr (10) (3) = (1 : Int) from by decide +kernel]
  refine r_iconst hC dX6_bits_13 rfl ?_
  refine r_iand hC dX6_bits_14 ?_
  rw [show iand (1) (1) = (1 : Int) from by decide +kernel]
  refine r_iaddE hC (2) dX6_bits_15 (by omega) (by unfold inR; omega) ?_
  refine r_istore_n hC dX6_bits_16 rfl ?_
  show K _ [_, _, _] _ _
  refine r_iincE hC (4) dX6_bits_17 rfl rfl (by omega) (by unfold inR; omega) ?_
  refine r_goto (tgt := 4) hC dX6_bits_20 rfl ?_
  refine r_iload_n hC dX6_bits_4 rfl ?_
  refine r_iconst hC dX6_bits_5 rfl ?_
  refine r_icmp_ge (tgt := 23) hC dX6_bits_6 rfl (fun h13 => ?_) (fun h13 => by omega)
  refine r_iload_n hC dX6_bits_23 rfl ?_
  refine y_iret hK rfl dX6_bits_24 ?_
  exact k
theorem y_bits11 {e : Ev} {d : Nat} {P : Option Vl → Mm → Prop} {σ : Mm}   (k : P (some (vI 3)) σ) : WT e (d + 1) 166 [vI 11] σ P := by
  refine WT_in fun K hK => ?_
  have hK : StpY e cX6_bits RX6 (some .int) (WT e (d + 0)) P K := hK
  have hM := hK.1
  have hC := hK.1.1
  show K 0 [some (vI 11), none, none] [] σ
  refine r_iconst hC dX6_bits_0 rfl ?_
  refine r_istore_n hC dX6_bits_1 rfl ?_
  refine r_iconst hC dX6_bits_2 rfl ?_
  refine r_istore_n hC dX6_bits_3 rfl ?_
  refine r_iload_n hC dX6_bits_4 rfl ?_
  refine r_iconst hC dX6_bits_5 rfl ?_
  refine r_icmp_ge (tgt := 23) hC dX6_bits_6 rfl (fun h1 => by omega) (fun h1 => ?_)
  refine r_iload_n hC dX6_bits_9 rfl ?_
  refine r_iload_n hC dX6_bits_10 rfl ?_
  refine r_iload_n hC dX6_bits_11 rfl ?_
  refine r_ishr hC dX6_bits_12 ?_
  rw [show ishr (11) (0) = (11 : Int) from by decide +kernel]
  refine r_iconst hC dX6_bits_13 rfl ?_
  refine r_iand hC dX6_bits_14 ?_
  rw [show iand (11) (1) = (1 : Int) from by decide +kernel]
  refine r_iaddE hC (1) dX6_bits_15 (by omega) (by unfold inR; omega) ?_
  refine r_istore_n hC dX6_bits_16 rfl ?_
  show K _ [_, _, _] _ _
  refine r_iincE hC (1) dX6_bits_17 rfl rfl (by omega) (by unfold inR; omega) ?_
  refine r_goto (tgt := 4) hC dX6_bits_20 rfl ?_
  refine r_iload_n hC dX6_bits_4 rfl ?_
  refine r_iconst hC dX6_bits_5 rfl ?_
  refine r_icmp_ge (tgt := 23) hC dX6_bits_6 rfl (fun h4 => by omega) (fun h4 => ?_)
  refine r_iload_n hC dX6_bits_9 rfl ?_
  refine r_iload_n hC dX6_bits_10 rfl ?_
  refine r_iload_n hC dX6_bits_11 rfl ?_
  refine r_ishr hC dX6_bits_12 ?_
  rw [show ishr (11) (1) = (5 : Int) from by decide +kernel]
  refine r_iconst hC dX6_bits_13 rfl ?_
  refine r_iand hC dX6_bits_14 ?_
  rw [show iand (5) (1) = (1 : Int) from by decide +kernel]
  refine r_iaddE hC (2) dX6_bits_15 (by omega) (by unfold inR; omega) ?_
  refine r_istore_n hC dX6_bits_16 rfl ?_
  refine r_iincE hC (2) dX6_bits_17 rfl rfl (by omega) (by unfold inR; omega) ?_
  show K _ [_, _, _] _ _
  refine r_goto (tgt := 4) hC dX6_bits_20 rfl ?_
  refine r_iload_n hC dX6_bits_4 rfl ?_
  refine r_iconst hC dX6_bits_5 rfl ?_
  refine r_icmp_ge (tgt := 23) hC dX6_bits_6 rfl (fun h7 => by omega) (fun h7 => ?_)
  refine r_iload_n hC dX6_bits_9 rfl ?_
  refine r_iload_n hC dX6_bits_10 rfl ?_
  refine r_iload_n hC dX6_bits_11 rfl ?_
  refine r_ishr hC dX6_bits_12 ?_
  rw [show ishr (11) (2) = (2 : Int) from by decide +kernel]
  refine r_iconst hC dX6_bits_13 rfl ?_
  refine r_iand hC dX6_bits_14 ?_
  rw [show iand (2) (1) = (0 : Int) from by decide +kernel]
  refine r_iaddE hC (2) dX6_bits_15 (by omega) (by unfold inR; omega) ?_
  refine r_istore_n hC dX6_bits_16 rfl ?_
  refine r_iincE hC (3) dX6_bits_17 rfl rfl (by omega) (by unfold inR; omega) ?_
  refine r_goto (tgt := 4) hC dX6_bits_20 rfl ?_
  refine r_iload_n hC dX6_bits_4 rfl ?_
  refine r_iconst hC dX6_bits_5 rfl ?_
  refine r_icmp_ge (tgt := 23) hC dX6_bits_6 rfl (fun h10 => by omega) (fun h10 => ?_)
  refine r_iload_n hC dX6_bits_9 rfl ?_
  refine r_iload_n hC dX6_bits_10 rfl ?_
  refine r_iload_n hC dX6_bits_11 rfl ?_
  refine r_ishr hC dX6_bits_12 ?_
  rw [show ishr (11) (3) = (1 : Int) from by decide +kernel]
  refine r_iconst hC dX6_bits_13 rfl ?_
  refine r_iand hC dX6_bits_14 ?_
  rw [show iand (1) (1) = (1 : Int) from by decide +kernel]
  refine r_iaddE hC (3) dX6_bits_15 (by omega) (by unfold inR; omega) ?_
  refine r_istore_n hC dX6_bits_16 rfl ?_
  show K _ [_, _, _] _ _
  refine r_iincE hC (4) dX6_bits_17 rfl rfl (by omega) (by unfold inR; omega) ?_
  refine r_goto (tgt := 4) hC dX6_bits_20 rfl ?_
  refine r_iload_n hC dX6_bits_4 rfl ?_
  refine r_iconst hC dX6_bits_5 rfl ?_
  refine r_icmp_ge (tgt := 23) hC dX6_bits_6 rfl (fun h13 => ?_) (fun h13 => by omega)
  refine r_iload_n hC dX6_bits_23 rfl ?_
  refine y_iret hK rfl dX6_bits_24 ?_
  exact k
theorem y_bits12 {e : Ev} {d : Nat} {P : Option Vl → Mm → Prop} {σ : Mm}   (k : P (some (vI 2)) σ) : WT e (d + 1) 166 [vI 12] σ P := by
  refine WT_in fun K hK => ?_
  have hK : StpY e cX6_bits RX6 (some .int) (WT e (d + 0)) P K := hK
  have hM := hK.1
  have hC := hK.1.1
  show K 0 [some (vI 12), none, none] [] σ
  refine r_iconst hC dX6_bits_0 rfl ?_
  refine r_istore_n hC dX6_bits_1 rfl ?_
  refine r_iconst hC dX6_bits_2 rfl ?_
  refine r_istore_n hC dX6_bits_3 rfl ?_
  refine r_iload_n hC dX6_bits_4 rfl ?_
  refine r_iconst hC dX6_bits_5 rfl ?_
  refine r_icmp_ge (tgt := 23) hC dX6_bits_6 rfl (fun h1 => by omega) (fun h1 => ?_)
  refine r_iload_n hC dX6_bits_9 rfl ?_
  refine r_iload_n hC dX6_bits_10 rfl ?_
  refine r_iload_n hC dX6_bits_11 rfl ?_
  refine r_ishr hC dX6_bits_12 ?_
  rw [show ishr (12) (0) = (12 : Int) from by decide +kernel]
  refine r_iconst hC dX6_bits_13 rfl ?_
  refine r_iand hC dX6_bits_14 ?_
  rw [show iand (12) (1) = (0 : Int) from by decide +kernel]
  refine r_iaddE hC (0) dX6_bits_15 (by omega) (by unfold inR; omega) ?_
  refine r_istore_n hC dX6_bits_16 rfl ?_
  show K _ [_, _, _] _ _
  refine r_iincE hC (1) dX6_bits_17 rfl rfl (by omega) (by unfold inR; omega) ?_
  refine r_goto (tgt := 4) hC dX6_bits_20 rfl ?_
  refine r_iload_n hC dX6_bits_4 rfl ?_
  refine r_iconst hC dX6_bits_5 rfl ?_
  refine r_icmp_ge (tgt := 23) hC dX6_bits_6 rfl (fun h4 => by omega) (fun h4 => ?_)
  refine r_iload_n hC dX6_bits_9 rfl ?_
  refine r_iload_n hC dX6_bits_10 rfl ?_
  refine r_iload_n hC dX6_bits_11 rfl ?_
  refine r_ishr hC dX6_bits_12 ?_
  rw [show ishr (12) (1) = (6 : Int) from by decide +kernel]
  refine r_iconst hC dX6_bits_13 rfl ?_
  refine r_iand hC dX6_bits_14 ?_
  rw [show iand (6) (1) = (0 : Int) from by decide +kernel]
  refine r_iaddE hC (0) dX6_bits_15 (by omega) (by unfold inR; omega) ?_
  refine r_istore_n hC dX6_bits_16 rfl ?_
  refine r_iincE hC (2) dX6_bits_17 rfl rfl (by omega) (by unfold inR; omega) ?_
  show K _ [_, _, _] _ _
  refine r_goto (tgt := 4) hC dX6_bits_20 rfl ?_
  refine r_iload_n hC dX6_bits_4 rfl ?_
  refine r_iconst hC dX6_bits_5 rfl ?_
  refine r_icmp_ge (tgt := 23) hC dX6_bits_6 rfl (fun h7 => by omega) (fun h7 => ?_)
  refine r_iload_n hC dX6_bits_9 rfl ?_
  refine r_iload_n hC dX6_bits_10 rfl ?_
  refine r_iload_n hC dX6_bits_11 rfl ?_
  refine r_ishr hC dX6_bits_12 ?_
  rw [show ishr (12) (2) = (3 : Int) from by decide +kernel]
  refine r_iconst hC dX6_bits_13 rfl ?_
  refine r_iand hC dX6_bits_14 ?_
  rw [show iand (3) (1) = (1 : Int) from by decide +kernel]
  refine r_iaddE hC (1) dX6_bits_15 (by omega) (by unfold inR; omega) ?_
  refine r_istore_n hC dX6_bits_16 rfl ?_
  refine r_iincE hC (3) dX6_bits_17 rfl rfl (by omega) (by unfold inR; omega) ?_
  refine r_goto (tgt := 4) hC dX6_bits_20 rfl ?_
  refine r_iload_n hC dX6_bits_4 rfl ?_
  refine r_iconst hC dX6_bits_5 rfl ?_
  refine r_icmp_ge (tgt := 23) hC dX6_bits_6 rfl (fun h10 => by omega) (fun h10 => ?_)
  refine r_iload_n hC dX6_bits_9 rfl ?_
  refine r_iload_n hC dX6_bits_10 rfl ?_
  refine r_iload_n hC dX6_bits_11 rfl ?_
  refine r_ishr hC dX6_bits_12 ?_
  rw [show ishr (12) (3) = (1 : Int) from by decide +kernel]
  refine r_iconst hC dX6_bits_13 rfl ?_
  refine r_iand hC dX6_bits_14 ?_
  rw [show iand (1) (1) = (1 : Int) from by decide +kernel]
  refine r_iaddE hC (2) dX6_bits_15 (by omega) (by unfold inR; omega) ?_
  refine r_istore_n hC dX6_bits_16 rfl ?_
  show K _ [_, _, _] _ _
  refine r_iincE hC (4) dX6_bits_17 rfl rfl (by omega) (by unfold inR; omega) ?_
  refine r_goto (tgt := 4) hC dX6_bits_20 rfl ?_
  refine r_iload_n hC dX6_bits_4 rfl ?_
  refine r_iconst hC dX6_bits_5 rfl ?_
  refine r_icmp_ge (tgt := 23) hC dX6_bits_6 rfl (fun h13 => ?_) (fun h13 => by omega)
  refine r_iload_n hC dX6_bits_23 rfl ?_
  refine y_iret hK rfl dX6_bits_24 ?_
  exact k
theorem y_bits13 {e : Ev} {d : Nat} {P : Option Vl → Mm → Prop} {σ : Mm}   (k : P (some (vI 3)) σ) : WT e (d + 1) 166 [vI 13] σ P := by
  refine WT_in fun K hK => ?_
  have hK : StpY e cX6_bits RX6 (some .int) (WT e (d + 0)) P K := hK
  have hM := hK.1
  have hC := hK.1.1
  show K 0 [some (vI 13), none, none] [] σ
  refine r_iconst hC dX6_bits_0 rfl ?_
  refine r_istore_n hC dX6_bits_1 rfl ?_
  refine r_iconst hC dX6_bits_2 rfl ?_
  refine r_istore_n hC dX6_bits_3 rfl ?_
  refine r_iload_n hC dX6_bits_4 rfl ?_
  refine r_iconst hC dX6_bits_5 rfl ?_
  refine r_icmp_ge (tgt := 23) hC dX6_bits_6 rfl (fun h1 => by omega) (fun h1 => ?_)
  refine r_iload_n hC dX6_bits_9 rfl ?_
  refine r_iload_n hC dX6_bits_10 rfl ?_
  refine r_iload_n hC dX6_bits_11 rfl ?_
  refine r_ishr hC dX6_bits_12 ?_
  rw [show ishr (13) (0) = (13 : Int) from by decide +kernel]
  refine r_iconst hC dX6_bits_13 rfl ?_
  refine r_iand hC dX6_bits_14 ?_
  rw [show iand (13) (1) = (1 : Int) from by decide +kernel]
  refine r_iaddE hC (1) dX6_bits_15 (by omega) (by unfold inR; omega) ?_
  refine r_istore_n hC dX6_bits_16 rfl ?_
  show K _ [_, _, _] _ _
  refine r_iincE hC (1) dX6_bits_17 rfl rfl (by omega) (by unfold inR; omega) ?_
  refine r_goto (tgt := 4) hC dX6_bits_20 rfl ?_
  refine r_iload_n hC dX6_bits_4 rfl ?_
  refine r_iconst hC dX6_bits_5 rfl ?_
  refine r_icmp_ge (tgt := 23) hC dX6_bits_6 rfl (fun h4 => by omega) (fun h4 => ?_)
  refine r_iload_n hC dX6_bits_9 rfl ?_
  refine r_iload_n hC dX6_bits_10 rfl ?_
  refine r_iload_n hC dX6_bits_11 rfl ?_
  refine r_ishr hC dX6_bits_12 ?_
  rw [show ishr (13) (1) = (6 : Int) from by decide +kernel]
  refine r_iconst hC dX6_bits_13 rfl ?_
  refine r_iand hC dX6_bits_14 ?_
  rw [show iand (6) (1) = (0 : Int) from by decide +kernel]
  refine r_iaddE hC (1) dX6_bits_15 (by omega) (by unfold inR; omega) ?_
  refine r_istore_n hC dX6_bits_16 rfl ?_
  refine r_iincE hC (2) dX6_bits_17 rfl rfl (by omega) (by unfold inR; omega) ?_
  show K _ [_, _, _] _ _
  refine r_goto (tgt := 4) hC dX6_bits_20 rfl ?_
  refine r_iload_n hC dX6_bits_4 rfl ?_
  refine r_iconst hC dX6_bits_5 rfl ?_
  refine r_icmp_ge (tgt := 23) hC dX6_bits_6 rfl (fun h7 => by omega) (fun h7 => ?_)
  refine r_iload_n hC dX6_bits_9 rfl ?_
  refine r_iload_n hC dX6_bits_10 rfl ?_
  refine r_iload_n hC dX6_bits_11 rfl ?_
  refine r_ishr hC dX6_bits_12 ?_
  rw [show ishr (13) (2) = (3 : Int) from by decide +kernel]
  refine r_iconst hC dX6_bits_13 rfl ?_
  refine r_iand hC dX6_bits_14 ?_
  rw [show iand (3) (1) = (1 : Int) from by decide +kernel]
  refine r_iaddE hC (2) dX6_bits_15 (by omega) (by unfold inR; omega) ?_
  refine r_istore_n hC dX6_bits_16 rfl ?_
  refine r_iincE hC (3) dX6_bits_17 rfl rfl (by omega) (by unfold inR; omega) ?_
  refine r_goto (tgt := 4) hC dX6_bits_20 rfl ?_
  refine r_iload_n hC dX6_bits_4 rfl ?_
  refine r_iconst hC dX6_bits_5 rfl ?_
  refine r_icmp_ge (tgt := 23) hC dX6_bits_6 rfl (fun h10 => by omega) (fun h10 => ?_)
  refine r_iload_n hC dX6_bits_9 rfl ?_
  refine r_iload_n hC dX6_bits_10 rfl ?_
  refine r_iload_n hC dX6_bits_11 rfl ?_
  refine r_ishr hC dX6_bits_12 ?_
  rw [show ishr (13) (3) = (1 : Int) from by decide +kernel]
  refine r_iconst hC dX6_bits_13 rfl ?_
  refine r_iand hC dX6_bits_14 ?_
  rw [show iand (1) (1) = (1 : Int) from by decide +kernel]
  refine r_iaddE hC (3) dX6_bits_15 (by omega) (by unfold inR; omega) ?_
  refine r_istore_n hC dX6_bits_16 rfl ?_
  show K _ [_, _, _] _ _
  refine r_iincE hC (4) dX6_bits_17 rfl rfl (by omega) (by unfold inR; omega) ?_
  refine r_goto (tgt := 4) hC dX6_bits_20 rfl ?_
  refine r_iload_n hC dX6_bits_4 rfl ?_
  refine r_iconst hC dX6_bits_5 rfl ?_
  refine r_icmp_ge (tgt := 23) hC dX6_bits_6 rfl (fun h13 => ?_) (fun h13 => by omega)
  refine r_iload_n hC dX6_bits_23 rfl ?_
  refine y_iret hK rfl dX6_bits_24 ?_
  exact k
theorem y_bits14 {e : Ev} {d : Nat} {P : Option Vl → Mm → Prop} {σ : Mm}   (k : P (some (vI 3)) σ) : WT e (d + 1) 166 [vI 14] σ P := by
  refine WT_in fun K hK => ?_
  have hK : StpY e cX6_bits RX6 (some .int) (WT e (d + 0)) P K := hK
  have hM := hK.1
  have hC := hK.1.1
  show K 0 [some (vI 14), none, none] [] σ
  refine r_iconst hC dX6_bits_0 rfl ?_
  refine r_istore_n hC dX6_bits_1 rfl ?_
  refine r_iconst hC dX6_bits_2 rfl ?_
  refine r_istore_n hC dX6_bits_3 rfl ?_
  refine r_iload_n hC dX6_bits_4 rfl ?_
  refine r_iconst hC dX6_bits_5 rfl ?_
  refine r_icmp_ge (tgt := 23) hC dX6_bits_6 rfl (fun h1 => by omega) (fun h1 => ?_)
  refine r_iload_n hC dX6_bits_9 rfl ?_
  refine r_iload_n hC dX6_bits_10 rfl ?_
  refine r_iload_n hC dX6_bits_11 rfl ?_
  refine r_ishr hC dX6_bits_12 ?_
  rw [show ishr (14) (0) = (14 : Int) from by decide +kernel]
  refine r_iconst hC dX6_bits_13 rfl ?_
  refine r_iand hC dX6_bits_14 ?_
  rw [show iand (14) (1) = (0 : Int) from by decide +kernel]
  refine r_iaddE hC (0) dX6_bits_15 (by omega) (by unfold inR; omega) ?_
  refine r_istore_n hC dX6_bits_16 rfl ?_
  show K _ [_, _, _] _ _
  refine r_iincE hC (1) dX6_bits_17 rfl rfl (by omega) (by unfold inR; omega) ?_
  refine r_goto (tgt := 4) hC dX6_bits_20 rfl ?_
  refine r_iload_n hC dX6_bits_4 rfl ?_
  refine r_iconst hC dX6_bits_5 rfl ?_
  refine r_icmp_ge (tgt := 23) hC dX6_bits_6 rfl (fun h4 => by omega) (fun h4 => ?_)
  refine r_iload_n hC dX6_bits_9 rfl ?_
  refine r_iload_n hC dX6_bits_10 rfl ?_
  refine r_iload_n hC dX6_bits_11 rfl ?_
  refine r_ishr hC dX6_bits_12 ?_
  rw [show ishr (14) (1) = (7 : Int) from by decide +kernel]
  refine r_iconst hC dX6_bits_13 rfl ?_
  refine r_iand hC dX6_bits_14 ?_
  rw [show iand (7) (1) = (1 : Int) from by decide +kernel]
  refine r_iaddE hC (1) dX6_bits_15 (by omega) (by unfold inR; omega) ?_
  refine r_istore_n hC dX6_bits_16 rfl ?_
  refine r_iincE hC (2) dX6_bits_17 rfl rfl (by omega) (by unfold inR; omega) ?_
  show K _ [_, _, _] _ _
  refine r_goto (tgt := 4) hC dX6_bits_20 rfl ?_
  refine r_iload_n hC dX6_bits_4 rfl ?_
  refine r_iconst hC dX6_bits_5 rfl ?_
  refine r_icmp_ge (tgt := 23) hC dX6_bits_6 rfl (fun h7 => by omega) (fun h7 => ?_)
  refine r_iload_n hC dX6_bits_9 rfl ?_
  refine r_iload_n hC dX6_bits_10 rfl ?_
  refine r_iload_n hC dX6_bits_11 rfl ?_
  refine r_ishr hC dX6_bits_12 ?_
  rw [show ishr (14) (2) = (3 : Int) from by decide +kernel]
  refine r_iconst hC dX6_bits_13 rfl ?_
  refine r_iand hC dX6_bits_14 ?_
  rw [show iand (3) (1) = (1 : Int) from by decide +kernel]
  refine r_iaddE hC (2) dX6_bits_15 (by omega) (by unfold inR; omega) ?_
  refine r_istore_n hC dX6_bits_16 rfl ?_
  refine r_iincE hC (3) dX6_bits_17 rfl rfl (by omega) (by unfold inR; omega) ?_
  refine r_goto (tgt := 4) hC dX6_bits_20 rfl ?_
  refine r_iload_n hC dX6_bits_4 rfl ?_
  refine r_iconst hC dX6_bits_5 rfl ?_
  refine r_icmp_ge (tgt := 23) hC dX6_bits_6 rfl (fun h10 => by omega) (fun h10 => ?_)
  refine r_iload_n hC dX6_bits_9 rfl ?_
  refine r_iload_n hC dX6_bits_10 rfl ?_
  refine r_iload_n hC dX6_bits_11 rfl ?_
  refine r_ishr hC dX6_bits_12 ?_
  rw [show ishr (14) (3) = (1 : Int) from by decide +kernel]
  refine r_iconst hC dX6_bits_13 rfl ?_
  refine r_iand hC dX6_bits_14 ?_
  rw [show iand (1) (1) = (1 : Int) from by decide +kernel]
  refine r_iaddE hC (3) dX6_bits_15 (by omega) (by unfold inR; omega) ?_
  refine r_istore_n hC dX6_bits_16 rfl ?_
  show K _ [_, _, _] _ _
  refine r_iincE hC (4) dX6_bits_17 rfl rfl (by omega) (by unfold inR; omega) ?_
  refine r_goto (tgt := 4) hC dX6_bits_20 rfl ?_
  refine r_iload_n hC dX6_bits_4 rfl ?_
  refine r_iconst hC dX6_bits_5 rfl ?_
  refine r_icmp_ge (tgt := 23) hC dX6_bits_6 rfl (fun h13 => ?_) (fun h13 => by omega)
  refine r_iload_n hC dX6_bits_23 rfl ?_
  refine y_iret hK rfl dX6_bits_24 ?_
  exact k
theorem y_bits15 {e : Ev} {d : Nat} {P : Option Vl → Mm → Prop} {σ : Mm}   (k : P (some (vI 4)) σ) : WT e (d + 1) 166 [vI 15] σ P := by
  refine WT_in fun K hK => ?_
  have hK : StpY e cX6_bits RX6 (some .int) (WT e (d + 0)) P K := hK
  have hM := hK.1
  have hC := hK.1.1
  show K 0 [some (vI 15), none, none] [] σ
  refine r_iconst hC dX6_bits_0 rfl ?_
  refine r_istore_n hC dX6_bits_1 rfl ?_
  refine r_iconst hC dX6_bits_2 rfl ?_
  refine r_istore_n hC dX6_bits_3 rfl ?_
  refine r_iload_n hC dX6_bits_4 rfl ?_
  refine r_iconst hC dX6_bits_5 rfl ?_
  refine r_icmp_ge (tgt := 23) hC dX6_bits_6 rfl (fun h1 => by omega) (fun h1 => ?_)
  refine r_iload_n hC dX6_bits_9 rfl ?_
  refine r_iload_n hC dX6_bits_10 rfl ?_
  refine r_iload_n hC dX6_bits_11 rfl ?_
  refine r_ishr hC dX6_bits_12 ?_
  rw [show ishr (15) (0) = (15 : Int) from by decide +kernel]
  refine r_iconst hC dX6_bits_13 rfl ?_
  refine r_iand hC dX6_bits_14 ?_
  rw [show iand (15) (1) = (1 : Int) from by decide +kernel]
  refine r_iaddE hC (1) dX6_bits_15 (by omega) (by unfold inR; omega) ?_
  refine r_istore_n hC dX6_bits_16 rfl ?_
  show K _ [_, _, _] _ _
  refine r_iincE hC (1) dX6_bits_17 rfl rfl (by omega) (by unfold inR; omega) ?_
  refine r_goto (tgt := 4) hC dX6_bits_20 rfl ?_
  refine r_iload_n hC dX6_bits_4 rfl ?_
  refine r_iconst hC dX6_bits_5 rfl ?_
  refine r_icmp_ge (tgt := 23) hC dX6_bits_6 rfl (fun h4 => by omega) (fun h4 => ?_)
  refine r_iload_n hC dX6_bits_9 rfl ?_
  refine r_iload_n hC dX6_bits_10 rfl ?_
  refine r_iload_n hC dX6_bits_11 rfl ?_
  refine r_ishr hC dX6_bits_12 ?_
  rw [show ishr (15) (1) = (7 : Int) from by decide +kernel]
  refine r_iconst hC dX6_bits_13 rfl ?_
  refine r_iand hC dX6_bits_14 ?_
  rw [show iand (7) (1) = (1 : Int) from by decide +kernel]
  refine r_iaddE hC (2) dX6_bits_15 (by omega) (by unfold inR; omega) ?_
  refine r_istore_n hC dX6_bits_16 rfl ?_
  refine r_iincE hC (2) dX6_bits_17 rfl rfl (by omega) (by unfold inR; omega) ?_
  show K _ [_, _, _] _ _
  refine r_goto (tgt := 4) hC dX6_bits_20 rfl ?_
  refine r_iload_n hC dX6_bits_4 rfl ?_
  refine r_iconst hC dX6_bits_5 rfl ?_
  refine r_icmp_ge (tgt := 23) hC dX6_bits_6 rfl (fun h7 => by omega) (fun h7 => ?_)
  refine r_iload_n hC dX6_bits_9 rfl ?_
  refine r_iload_n hC dX6_bits_10 rfl ?_
  refine r_iload_n hC dX6_bits_11 rfl ?_
  refine r_ishr hC dX6_bits_12 ?_
  rw [show ishr (15) (2) = (3 : Int) from by decide +kernel]
  refine r_iconst hC dX6_bits_13 rfl ?_
  refine r_iand hC dX6_bits_14 ?_
  rw [show iand (3) (1) = (1 : Int) from by decide +kernel]
  refine r_iaddE hC (3) dX6_bits_15 (by omega) (by unfold inR; omega) ?_
  refine r_istore_n hC dX6_bits_16 rfl ?_
  refine r_iincE hC (3) dX6_bits_17 rfl rfl (by omega) (by unfold inR; omega) ?_
  refine r_goto (tgt := 4) hC dX6_bits_20 rfl ?_
  refine r_iload_n hC dX6_bits_4 rfl ?_
  refine r_iconst hC dX6_bits_5 rfl ?_
  refine r_icmp_ge (tgt := 23) hC dX6_bits_6 rfl (fun h10 => by omega) (fun h10 => ?_)
  refine r_iload_n hC dX6_bits_9 rfl ?_
  refine r_iload_n hC dX6_bits_10 rfl ?_
  refine r_iload_n hC dX6_bits_11 rfl ?_
  refine r_ishr hC dX6_bits_12 ?_
  rw [show ishr (15) (3) = (1 : Int) from by decide +kernel]
  refine r_iconst hC dX6_bits_13 rfl ?_
  refine r_iand hC dX6_bits_14 ?_
  rw [show iand (1) (1) = (1 : Int) from by decide +kernel]
  refine r_iaddE hC (4) dX6_bits_15 (by omega) (by unfold inR; omega) ?_
  refine r_istore_n hC dX6_bits_16 rfl ?_
  show K _ [_, _, _] _ _
  refine r_iincE hC (4) dX6_bits_17 rfl rfl (by omega) (by unfold inR; omega) ?_
  refine r_goto (tgt := 4) hC dX6_bits_20 rfl ?_
  refine r_iload_n hC dX6_bits_4 rfl ?_
  refine r_iconst hC dX6_bits_5 rfl ?_
  refine r_icmp_ge (tgt := 23) hC dX6_bits_6 rfl (fun h13 => ?_) (fun h13 => by omega)
  refine r_iload_n hC dX6_bits_23 rfl ?_
  refine y_iret hK rfl dX6_bits_24 ?_
  exact k
theorem y_bits {e : Ev} {d : Nat} {P : Option Vl → Mm → Prop} {σ : Mm} {a : Int} (b_a : 0 ≤ a ∧ a ≤ 15) (k : P (some (vI (a % 2 + a / 2 % 2 + a / 4 % 2 + a / 8 % 2))) σ) : WT e (d + 1) 166 [vI a] σ P := by
  rcases (by omega : a = 0 ∨ a = 1 ∨ a = 2 ∨ a = 3 ∨ a = 4 ∨ a = 5 ∨ a = 6 ∨ a = 7 ∨ a = 8 ∨ a = 9 ∨ a = 10 ∨ a = 11 ∨ a = 12 ∨ a = 13 ∨ a = 14 ∨ a = 15) with rfl | rfl | rfl | rfl | rfl | rfl | rfl | rfl | rfl | rfl | rfl | rfl | rfl | rfl | rfl | rfl
  · exact y_bits0 k
  · exact y_bits1 k
  · exact y_bits2 k
  · exact y_bits3 k
  · exact y_bits4 k
  · exact y_bits5 k
  · exact y_bits6 k
  · exact y_bits7 k
  · exact y_bits8 k
  · exact y_bits9 k
  · exact y_bits10 k
  · exact y_bits11 k
  · exact y_bits12 k
  · exact y_bits13 k
  · exact y_bits14 k
  · exact y_bits15 k
theorem y_send {eb : Bool} {n : Nat} {d : Nat} {P : Option Vl → Mm → Prop} {σ : Mm} {t0 t1 t2 t3 t4 : Int} (qg0 : σ 30 0 8 = (n : Int)) (qg1 : σ 38 0 0 = t0) (qg2 : σ 38 0 1 = t1) (qg3 : σ 38 0 2 = t2) (qg4 : σ 38 0 3 = t3) (qg5 : σ 38 0 4 = t4) (hn1 : 1 ≤ n) (hn : n ≤ 242)  (k : ∀ ρ : Mm, Gx (fun c x y => c = 38 ∧ x = 0) σ ρ → ρ 38 0 0 = (ltr (σ 36 0) (σ 37 0) 0 n) → ρ 38 0 1 = (ltr (σ 36 0) (σ 37 0) 1 n) → ρ 38 0 2 = (ltr (σ 36 0) (σ 37 0) 2 n) → ρ 38 0 3 = (ltr (σ 36 0) (σ 37 0) 3 n) → ρ 38 0 4 = (apt (ltr (σ 36 0) (σ 37 0) 0 n) (ltr (σ 36 0) (σ 37 0) 1 n) (ltr (σ 36 0) (σ 37 0) 2 n) (ltr (σ 36 0) (σ 37 0) 3 n)) → P none ρ) : WT (true, eb, true) (d + 2) 165 [vR 30 0] σ P := by
  refine WT_in fun K hK => ?_
  have hK : StpY (true, eb, true) cX6_send RX6 (none) (WT (true, eb, true) (d + 1)) P K := hK
  have hM := hK.1
  have hC := hK.1.1
  show K 0 [some (vR 30 0), none, none, none, none] [] σ
  refine r_iconst hC dX6_send_0 rfl ?_
  refine r_istore_n hC dX6_send_1 rfl ?_
  refine r_iconst hC dX6_send_2 rfl ?_
  refine r_istore_n hC dX6_send_3 rfl ?_
  refine r_iload_n hC dX6_send_4 rfl ?_
  refine r_iconst hC dX6_send_5 rfl ?_
  refine r_icmp_ge (tgt := 72) hC dX6_send_6 rfl (fun h1 => by omega) (fun h1 => ?_)
  refine r_iload_n hC dX6_send_9 rfl ?_
  refine r_istore_n hC dX6_send_10 rfl ?_
  show K _ [_, _, _, _, _] _ _
  refine r_iconst hC dX6_send_11 rfl ?_
  refine r_istore hC dX6_send_12 rfl ?_
  have L14 : ∀ (n14 : Nat) (w2 w3 : Int), 0 ≤ w2 ∧ w2 ≤ 3 → 0 ≤ w3 ∧ w3 ≤ 242 → ((w2) = ltr (σ 36 0) (σ 37 0) (0) ((w3)).toNat) → ((w3) ≤ (n : Int)) → 242 - w3 < (n14 : Int) → K 14 [some (vR 30 0), some (vI 0), some (vI 0), some (vI w2), some (vI w3)] [] σ := by
    intro n14
    induction n14 with
    | zero => intro w2 w3  f_w2 f_w3 i0_14 i1_14 hm  ; omega
    | succ n14 ih14 =>
      intro w2 w3  f_w2 f_w3 i0_14 i1_14 hm14  
      refine r_iload hC dX6_send_14 rfl ?_
      refine r_aload_n hC dX6_send_16 rfl ?_
      refine z_getI (jz := 8) hM dX6_send_17 fl_RX6_105 rfl rfl rfl (fun v4 h_v4 o_v4 t_v4 => ?_)
      have e_v4 : (n : Int) = v4 := ((t_v4 ((by simp [Tk, Tb, DL, DR]))).trans qg0).symm
      subst e_v4
      refine r_icmp_ge (tgt := 53) hC dX6_send_20 rfl (fun h5 => ?_) (fun h5 => ?_)
      · have hsnd0 : w2 = ltr (σ 36 0) (σ 37 0) 0 n := at_nat (n := n) (f := fun m => ltr (σ 36 0) (σ 37 0) 0 m) i0_14 (by omega)
        refine r_aload_n hC dX6_send_53 rfl ?_
        refine z_getR hM dX6_send_54 fl_RX6_31 rfl rfl (vld_of (n := 1) rfl (by omega) (by omega)) ?_
        refine r_iload_n hC dX6_send_57 rfl ?_
        refine r_iload_n hC dX6_send_58 rfl ?_
        refine z_iastG hM dX6_send_59 rfl (by omega) (by omega) (by simp [Tl, DL, DF]) (by first | trivial | (simp only [Okv]; omega) | (simp [Okv]; try omega)) (fun ρ6 a_ρ6 q_ρ6 => ?_)
        refine r_iload_n hC dX6_send_60 rfl ?_
        refine r_iconst hC dX6_send_61 rfl ?_
        refine r_iload_n hC dX6_send_62 rfl ?_
        refine r_ishl hC dX6_send_63 ?_
        have f_v7 := ishl_fr 1 w2
        refine r_ior hC dX6_send_64 ?_
        have f_v8 := ior_fr 0 (ishl 1 w2)
        refine r_istore_n hC dX6_send_65 rfl ?_
        refine r_iincE hC (1) dX6_send_66 rfl rfl (by omega) (by unfold inR; omega) ?_
        refine r_goto (tgt := 4) hC dX6_send_69 rfl ?_
        refine r_iload_n hC dX6_send_4 rfl ?_
        refine r_iconst hC dX6_send_5 rfl ?_
        refine r_icmp_ge (tgt := 72) hC dX6_send_6 rfl (fun h9 => by omega) (fun h9 => ?_)
        refine r_iload_n hC dX6_send_9 rfl ?_
        refine r_istore_n hC dX6_send_10 rfl ?_
        show K _ [_, _, _, _, _] _ _
        refine r_iconst hC dX6_send_11 rfl ?_
        refine r_istore hC dX6_send_12 rfl ?_
        have L14 : ∀ (n14 : Nat) (w10 w11 : Int), 0 ≤ w10 ∧ w10 ≤ 3 → 0 ≤ w11 ∧ w11 ≤ 242 → ((w10) = ltr (σ 36 0) (σ 37 0) (1) ((w11)).toNat) → ((w11) ≤ (n : Int)) → 242 - w11 < (n14 : Int) → K 14 [some (vR 30 0), some (vI (ior 0 (ishl 1 w2))), some (vI 1), some (vI w10), some (vI w11)] [] ρ6 := by
          intro n14
          induction n14 with
          | zero => intro w10 w11  f_w10 f_w11 i0_14 i1_14 hm  ; omega
          | succ n14 ih14 =>
            intro w10 w11  f_w10 f_w11 i0_14 i1_14 hm14  
            refine r_iload hC dX6_send_14 rfl ?_
            refine r_aload_n hC dX6_send_16 rfl ?_
            refine z_getI (jz := 8) hM dX6_send_17 fl_RX6_105 rfl rfl rfl (fun v12 h_v12 o_v12 t_v12 => ?_)
            have e_v12 : (n : Int) = v12 := ((t_v12 ((by simp [Tk, Tb, DL, DR]))).trans ((a_ρ6 _ _ _ (by omega)).trans qg0)).symm
            subst e_v12
            refine r_icmp_ge (tgt := 53) hC dX6_send_20 rfl (fun h13 => ?_) (fun h13 => ?_)
            · have hsnd1 : w10 = ltr (σ 36 0) (σ 37 0) 1 n := at_nat (n := n) (f := fun m => ltr (σ 36 0) (σ 37 0) 1 m) i0_14 (by omega)
              refine r_aload_n hC dX6_send_53 rfl ?_
              refine z_getR hM dX6_send_54 fl_RX6_31 rfl rfl (vld_of (n := 1) rfl (by omega) (by omega)) ?_
              refine r_iload_n hC dX6_send_57 rfl ?_
              refine r_iload_n hC dX6_send_58 rfl ?_
              refine z_iastG hM dX6_send_59 rfl (by omega) (by omega) (by simp [Tl, DL, DF]) (by first | trivial | (simp only [Okv]; omega) | (simp [Okv]; try omega)) (fun ρ14 a_ρ14 q_ρ14 => ?_)
              refine r_iload_n hC dX6_send_60 rfl ?_
              refine r_iconst hC dX6_send_61 rfl ?_
              refine r_iload_n hC dX6_send_62 rfl ?_
              refine r_ishl hC dX6_send_63 ?_
              have f_v15 := ishl_fr 1 w10
              refine r_ior hC dX6_send_64 ?_
              have f_v16 := ior_fr (ior 0 (ishl 1 w2)) (ishl 1 w10)
              refine r_istore_n hC dX6_send_65 rfl ?_
              refine r_iincE hC (2) dX6_send_66 rfl rfl (by omega) (by unfold inR; omega) ?_
              refine r_goto (tgt := 4) hC dX6_send_69 rfl ?_
              refine r_iload_n hC dX6_send_4 rfl ?_
              refine r_iconst hC dX6_send_5 rfl ?_
              refine r_icmp_ge (tgt := 72) hC dX6_send_6 rfl (fun h17 => by omega) (fun h17 => ?_)
              refine r_iload_n hC dX6_send_9 rfl ?_
              refine r_istore_n hC dX6_send_10 rfl ?_
              show K _ [_, _, _, _, _] _ _
              refine r_iconst hC dX6_send_11 rfl ?_
              refine r_istore hC dX6_send_12 rfl ?_
              have L14 : ∀ (n14 : Nat) (w18 w19 : Int), 0 ≤ w18 ∧ w18 ≤ 3 → 0 ≤ w19 ∧ w19 ≤ 242 → ((w18) = ltr (σ 36 0) (σ 37 0) (2) ((w19)).toNat) → ((w19) ≤ (n : Int)) → 242 - w19 < (n14 : Int) → K 14 [some (vR 30 0), some (vI (ior (ior 0 (ishl 1 w2)) (ishl 1 w10))), some (vI 2), some (vI w18), some (vI w19)] [] ρ14 := by
                intro n14
                induction n14 with
                | zero => intro w18 w19  f_w18 f_w19 i0_14 i1_14 hm  ; omega
                | succ n14 ih14 =>
                  intro w18 w19  f_w18 f_w19 i0_14 i1_14 hm14  
                  refine r_iload hC dX6_send_14 rfl ?_
                  refine r_aload_n hC dX6_send_16 rfl ?_
                  refine z_getI (jz := 8) hM dX6_send_17 fl_RX6_105 rfl rfl rfl (fun v20 h_v20 o_v20 t_v20 => ?_)
                  have e_v20 : (n : Int) = v20 := ((t_v20 ((by simp [Tk, Tb, DL, DR]))).trans ((a_ρ14 _ _ _ (by omega)).trans ((a_ρ6 _ _ _ (by omega)).trans qg0))).symm
                  subst e_v20
                  refine r_icmp_ge (tgt := 53) hC dX6_send_20 rfl (fun h21 => ?_) (fun h21 => ?_)
                  · have hsnd2 : w18 = ltr (σ 36 0) (σ 37 0) 2 n := at_nat (n := n) (f := fun m => ltr (σ 36 0) (σ 37 0) 2 m) i0_14 (by omega)
                    refine r_aload_n hC dX6_send_53 rfl ?_
                    refine z_getR hM dX6_send_54 fl_RX6_31 rfl rfl (vld_of (n := 1) rfl (by omega) (by omega)) ?_
                    refine r_iload_n hC dX6_send_57 rfl ?_
                    refine r_iload_n hC dX6_send_58 rfl ?_
                    refine z_iastG hM dX6_send_59 rfl (by omega) (by omega) (by simp [Tl, DL, DF]) (by first | trivial | (simp only [Okv]; omega) | (simp [Okv]; try omega)) (fun ρ22 a_ρ22 q_ρ22 => ?_)
                    refine r_iload_n hC dX6_send_60 rfl ?_
                    refine r_iconst hC dX6_send_61 rfl ?_
                    refine r_iload_n hC dX6_send_62 rfl ?_
                    refine r_ishl hC dX6_send_63 ?_
                    have f_v23 := ishl_fr 1 w18
                    refine r_ior hC dX6_send_64 ?_
                    have f_v24 := ior_fr (ior (ior 0 (ishl 1 w2)) (ishl 1 w10)) (ishl 1 w18)
                    refine r_istore_n hC dX6_send_65 rfl ?_
                    refine r_iincE hC (3) dX6_send_66 rfl rfl (by omega) (by unfold inR; omega) ?_
                    refine r_goto (tgt := 4) hC dX6_send_69 rfl ?_
                    refine r_iload_n hC dX6_send_4 rfl ?_
                    refine r_iconst hC dX6_send_5 rfl ?_
                    refine r_icmp_ge (tgt := 72) hC dX6_send_6 rfl (fun h25 => by omega) (fun h25 => ?_)
                    refine r_iload_n hC dX6_send_9 rfl ?_
                    refine r_istore_n hC dX6_send_10 rfl ?_
                    show K _ [_, _, _, _, _] _ _
                    refine r_iconst hC dX6_send_11 rfl ?_
                    refine r_istore hC dX6_send_12 rfl ?_
                    have L14 : ∀ (n14 : Nat) (w26 w27 : Int), 0 ≤ w26 ∧ w26 ≤ 3 → 0 ≤ w27 ∧ w27 ≤ 242 → ((w26) = ltr (σ 36 0) (σ 37 0) (3) ((w27)).toNat) → ((w27) ≤ (n : Int)) → 242 - w27 < (n14 : Int) → K 14 [some (vR 30 0), some (vI (ior (ior (ior 0 (ishl 1 w2)) (ishl 1 w10)) (ishl 1 w18))), some (vI 3), some (vI w26), some (vI w27)] [] ρ22 := by
                      intro n14
                      induction n14 with
                      | zero => intro w26 w27  f_w26 f_w27 i0_14 i1_14 hm  ; omega
                      | succ n14 ih14 =>
                        intro w26 w27  f_w26 f_w27 i0_14 i1_14 hm14  
                        refine r_iload hC dX6_send_14 rfl ?_
                        refine r_aload_n hC dX6_send_16 rfl ?_
                        refine z_getI (jz := 8) hM dX6_send_17 fl_RX6_105 rfl rfl rfl (fun v28 h_v28 o_v28 t_v28 => ?_)
                        have e_v28 : (n : Int) = v28 := ((t_v28 ((by simp [Tk, Tb, DL, DR]))).trans ((a_ρ22 _ _ _ (by omega)).trans ((a_ρ14 _ _ _ (by omega)).trans ((a_ρ6 _ _ _ (by omega)).trans qg0)))).symm
                        subst e_v28
                        refine r_icmp_ge (tgt := 53) hC dX6_send_20 rfl (fun h29 => ?_) (fun h29 => ?_)
                        · have hsnd3 : w26 = ltr (σ 36 0) (σ 37 0) 3 n := at_nat (n := n) (f := fun m => ltr (σ 36 0) (σ 37 0) 3 m) i0_14 (by omega)
                          refine r_aload_n hC dX6_send_53 rfl ?_
                          refine z_getR hM dX6_send_54 fl_RX6_31 rfl rfl (vld_of (n := 1) rfl (by omega) (by omega)) ?_
                          refine r_iload_n hC dX6_send_57 rfl ?_
                          refine r_iload_n hC dX6_send_58 rfl ?_
                          refine z_iastG hM dX6_send_59 rfl (by omega) (by omega) (by simp [Tl, DL, DF]) (by first | trivial | (simp only [Okv]; omega) | (simp [Okv]; try omega)) (fun ρ30 a_ρ30 q_ρ30 => ?_)
                          refine r_iload_n hC dX6_send_60 rfl ?_
                          refine r_iconst hC dX6_send_61 rfl ?_
                          refine r_iload_n hC dX6_send_62 rfl ?_
                          refine r_ishl hC dX6_send_63 ?_
                          have f_v31 := ishl_fr 1 w26
                          refine r_ior hC dX6_send_64 ?_
                          have f_v32 := ior_fr (ior (ior (ior 0 (ishl 1 w2)) (ishl 1 w10)) (ishl 1 w18)) (ishl 1 w26)
                          refine r_istore_n hC dX6_send_65 rfl ?_
                          refine r_iincE hC (4) dX6_send_66 rfl rfl (by omega) (by unfold inR; omega) ?_
                          refine r_goto (tgt := 4) hC dX6_send_69 rfl ?_
                          refine r_iload_n hC dX6_send_4 rfl ?_
                          refine r_iconst hC dX6_send_5 rfl ?_
                          refine r_icmp_ge (tgt := 72) hC dX6_send_6 rfl (fun h33 => ?_) (fun h33 => by omega)
                          refine r_aload_n hC dX6_send_72 rfl ?_
                          refine z_getR hM dX6_send_73 fl_RX6_31 rfl rfl (vld_of (n := 1) rfl (by omega) (by omega)) ?_
                          refine r_iconst hC dX6_send_76 rfl ?_
                          refine r_iload_n hC dX6_send_77 rfl ?_
                          refine z_ins1 hM dX6_send_78 tl_RX6_167 rfl (Nat.le_of_ble_eq_true rfl) (Nat.le_of_ble_eq_true rfl) ?_
                          have hE := reach_ok (by omega : 0 ≤ w2 ∧ w2 ≤ 3) (by omega : 0 ≤ w10 ∧ w10 ≤ 3) (by omega : 0 ≤ w18 ∧ w18 ≤ 3) (by omega : 0 ≤ w26 ∧ w26 ≤ 3)
                          refine y_bits ⟨hE.1, hE.2.1⟩ ?_
                          refine z_iastG hM dX6_send_81 rfl (by omega) (by omega) (by simp [Tl, DL, DF]) (by first | trivial | (simp only [Okv]; omega) | (simp [Okv]; try omega)) (fun ρ34 a_ρ34 q_ρ34 => ?_)
                          refine y_vret hK rfl dX6_send_82 ?_
                          have hs0 : w2 = ltr (σ 36 0) (σ 37 0) 0 n := hsnd0
                          have hs1 : w10 = ltr (σ 36 0) (σ 37 0) 1 n := hsnd1
                          have hs2 : w18 = ltr (σ 36 0) (σ 37 0) 2 n := hsnd2
                          have hs3 : w26 = ltr (σ 36 0) (σ 37 0) 3 n := hsnd3
                          exact k _ ((((((Gx.rf).al a_ρ6 (by first | (simp; done) | omega | (simp; omega))).al a_ρ14 (by first | (simp; done) | omega | (simp; omega))).al a_ρ22 (by first | (simp; done) | omega | (simp; omega))).al a_ρ30 (by first | (simp; done) | omega | (simp; omega))).al a_ρ34 (by first | (simp; done) | omega | (simp; omega))) (by have hq := ((a_ρ34 _ _ _ (by omega)).trans ((a_ρ30 _ _ _ (by omega)).trans ((a_ρ22 _ _ _ (by omega)).trans ((a_ρ14 _ _ _ (by omega)).trans q_ρ6)))); exact hq.trans hs0) (by have hq := ((a_ρ34 _ _ _ (by omega)).trans ((a_ρ30 _ _ _ (by omega)).trans ((a_ρ22 _ _ _ (by omega)).trans q_ρ14))); exact hq.trans hs1) (by have hq := ((a_ρ34 _ _ _ (by omega)).trans ((a_ρ30 _ _ _ (by omega)).trans q_ρ22)); exact hq.trans hs2) (by have hq := ((a_ρ34 _ _ _ (by omega)).trans q_ρ30); exact hq.trans hs3) (by have hq := q_ρ34; refine hq.trans (hE.2.2.trans ?_); rw [hs0, hs1, hs2, hs3])
                        · refine r_aload_n hC dX6_send_23 rfl ?_
                          refine z_getR hM dX6_send_24 fl_RX6_25 rfl rfl (vld_of (n := 1) rfl (by omega) (by omega)) ?_
                          refine r_aload_n hC dX6_send_27 rfl ?_
                          refine z_getR hM dX6_send_28 fl_RX6_28 rfl rfl (vld_of (n := 1) rfl (by omega) (by omega)) ?_
                          refine r_iload hC dX6_send_31 rfl ?_
                          refine z_iald hM dX6_send_33 rfl (by omega) (by omega) (fun v35 h_v35 o_v35 t_v35 => ?_)
                          have w_v35 := ((t_v35 (Or.inr (Or.inr (Or.inr ⟨rfl, by first | exact True.intro | exact (rfl : true = true)⟩)))).trans ((show Gx (fun c x y => c = 38 ∧ x = 0) σ ρ22 from (((Gx.rf).al a_ρ6 (by first | (simp; done) | omega | (simp; omega))).al a_ρ14 (by first | (simp; done) | omega | (simp; omega))).al a_ρ22 (by first | (simp; done) | omega | (simp; omega))) 37 0 _ (by omega))).symm
                          subst w_v35
                          refine r_bipush hC dX6_send_34 rfl ?_
                          refine z_ins2 hM dX6_send_36 tl_RX6_164 rfl (Nat.le_of_ble_eq_true rfl) (Nat.le_of_ble_eq_true rfl) ?_
                          refine y_rest (by omega) (fun h36 => ?_)
                          refine z_iald hM dX6_send_39 rfl (by omega) (by omega) (fun v37 h_v37 o_v37 t_v37 => ?_)
                          have w_v37 := ((t_v37 (Or.inl trivial)).trans ((show Gx (fun c x y => c = 38 ∧ x = 0) σ ρ22 from (((Gx.rf).al a_ρ6 (by first | (simp; done) | omega | (simp; omega))).al a_ρ14 (by first | (simp; done) | omega | (simp; omega))).al a_ρ22 (by first | (simp; done) | omega | (simp; omega))) 36 0 _ (by omega))).symm
                          subst w_v37
                          refine r_iconst hC dX6_send_40 rfl ?_
                          refine r_iload_n hC dX6_send_41 rfl ?_
                          refine r_imulE hC ((2 * w26)) dX6_send_42 (by omega) (by unfold inR; omega) ?_
                          refine r_ishr hC dX6_send_43 ?_
                          have f_v38 := ishr_fr (σ 36 0 ((σ 37 0 w27) % 8)) (2 * w26)
                          refine r_iconst hC dX6_send_44 rfl ?_
                          refine r_iand hC dX6_send_45 ?_
                          have f_v39 := iand_rng (a := (ishr (σ 36 0 ((σ 37 0 w27) % 8)) (2 * w26))) (b := 3) (by omega) (inR_lit rfl)
                          refine r_istore_n hC dX6_send_46 rfl ?_
                          refine r_iincE hC ((w27 + 1)) dX6_send_47 rfl rfl (by omega) (by unfold inR; omega) ?_
                          refine r_goto (tgt := 14) hC dX6_send_50 rfl ?_
                          exact ih14 ((iand (ishr (σ 36 0 ((σ 37 0 w27) % 8)) (2 * w26)) 3)) ((w27 + 1))  (by omega) (by omega) (by first | rfl | (rw [ltr_stepI (by omega), ← i0_14]; rfl)) (by omega) (by omega)  
                    exact L14 244 (3) (0)  (by omega) (by omega) (by first | rfl | (rw [ltr_stepI (by omega), ← i0_14]; rfl)) (by omega) (by omega)  
                  · refine r_aload_n hC dX6_send_23 rfl ?_
                    refine z_getR hM dX6_send_24 fl_RX6_25 rfl rfl (vld_of (n := 1) rfl (by omega) (by omega)) ?_
                    refine r_aload_n hC dX6_send_27 rfl ?_
                    refine z_getR hM dX6_send_28 fl_RX6_28 rfl rfl (vld_of (n := 1) rfl (by omega) (by omega)) ?_
                    refine r_iload hC dX6_send_31 rfl ?_
                    refine z_iald hM dX6_send_33 rfl (by omega) (by omega) (fun v40 h_v40 o_v40 t_v40 => ?_)
                    have w_v40 := ((t_v40 (Or.inr (Or.inr (Or.inr ⟨rfl, by first | exact True.intro | exact (rfl : true = true)⟩)))).trans ((show Gx (fun c x y => c = 38 ∧ x = 0) σ ρ14 from ((Gx.rf).al a_ρ6 (by first | (simp; done) | omega | (simp; omega))).al a_ρ14 (by first | (simp; done) | omega | (simp; omega))) 37 0 _ (by omega))).symm
                    subst w_v40
                    refine r_bipush hC dX6_send_34 rfl ?_
                    refine z_ins2 hM dX6_send_36 tl_RX6_164 rfl (Nat.le_of_ble_eq_true rfl) (Nat.le_of_ble_eq_true rfl) ?_
                    refine y_rest (by omega) (fun h41 => ?_)
                    refine z_iald hM dX6_send_39 rfl (by omega) (by omega) (fun v42 h_v42 o_v42 t_v42 => ?_)
                    have w_v42 := ((t_v42 (Or.inl trivial)).trans ((show Gx (fun c x y => c = 38 ∧ x = 0) σ ρ14 from ((Gx.rf).al a_ρ6 (by first | (simp; done) | omega | (simp; omega))).al a_ρ14 (by first | (simp; done) | omega | (simp; omega))) 36 0 _ (by omega))).symm
                    subst w_v42
                    refine r_iconst hC dX6_send_40 rfl ?_
                    refine r_iload_n hC dX6_send_41 rfl ?_
                    refine r_imulE hC ((2 * w18)) dX6_send_42 (by omega) (by unfold inR; omega) ?_
                    refine r_ishr hC dX6_send_43 ?_
                    have f_v43 := ishr_fr (σ 36 0 ((σ 37 0 w19) % 8)) (2 * w18)
                    refine r_iconst hC dX6_send_44 rfl ?_
                    refine r_iand hC dX6_send_45 ?_
                    have f_v44 := iand_rng (a := (ishr (σ 36 0 ((σ 37 0 w19) % 8)) (2 * w18))) (b := 3) (by omega) (inR_lit rfl)
                    refine r_istore_n hC dX6_send_46 rfl ?_
                    refine r_iincE hC ((w19 + 1)) dX6_send_47 rfl rfl (by omega) (by unfold inR; omega) ?_
                    refine r_goto (tgt := 14) hC dX6_send_50 rfl ?_
                    exact ih14 ((iand (ishr (σ 36 0 ((σ 37 0 w19) % 8)) (2 * w18)) 3)) ((w19 + 1))  (by omega) (by omega) (by first | rfl | (rw [ltr_stepI (by omega), ← i0_14]; rfl)) (by omega) (by omega)  
              exact L14 244 (2) (0)  (by omega) (by omega) (by first | rfl | (rw [ltr_stepI (by omega), ← i0_14]; rfl)) (by omega) (by omega)  
            · refine r_aload_n hC dX6_send_23 rfl ?_
              refine z_getR hM dX6_send_24 fl_RX6_25 rfl rfl (vld_of (n := 1) rfl (by omega) (by omega)) ?_
              refine r_aload_n hC dX6_send_27 rfl ?_
              refine z_getR hM dX6_send_28 fl_RX6_28 rfl rfl (vld_of (n := 1) rfl (by omega) (by omega)) ?_
              refine r_iload hC dX6_send_31 rfl ?_
              refine z_iald hM dX6_send_33 rfl (by omega) (by omega) (fun v45 h_v45 o_v45 t_v45 => ?_)
              have w_v45 := ((t_v45 (Or.inr (Or.inr (Or.inr ⟨rfl, by first | exact True.intro | exact (rfl : true = true)⟩)))).trans ((show Gx (fun c x y => c = 38 ∧ x = 0) σ ρ6 from (Gx.rf).al a_ρ6 (by first | (simp; done) | omega | (simp; omega))) 37 0 _ (by omega))).symm
              subst w_v45
              refine r_bipush hC dX6_send_34 rfl ?_
              refine z_ins2 hM dX6_send_36 tl_RX6_164 rfl (Nat.le_of_ble_eq_true rfl) (Nat.le_of_ble_eq_true rfl) ?_
              refine y_rest (by omega) (fun h46 => ?_)
              refine z_iald hM dX6_send_39 rfl (by omega) (by omega) (fun v47 h_v47 o_v47 t_v47 => ?_)
              have w_v47 := ((t_v47 (Or.inl trivial)).trans ((show Gx (fun c x y => c = 38 ∧ x = 0) σ ρ6 from (Gx.rf).al a_ρ6 (by first | (simp; done) | omega | (simp; omega))) 36 0 _ (by omega))).symm
              subst w_v47
              refine r_iconst hC dX6_send_40 rfl ?_
              refine r_iload_n hC dX6_send_41 rfl ?_
              refine r_imulE hC ((2 * w10)) dX6_send_42 (by omega) (by unfold inR; omega) ?_
              refine r_ishr hC dX6_send_43 ?_
              have f_v48 := ishr_fr (σ 36 0 ((σ 37 0 w11) % 8)) (2 * w10)
              refine r_iconst hC dX6_send_44 rfl ?_
              refine r_iand hC dX6_send_45 ?_
              have f_v49 := iand_rng (a := (ishr (σ 36 0 ((σ 37 0 w11) % 8)) (2 * w10))) (b := 3) (by omega) (inR_lit rfl)
              refine r_istore_n hC dX6_send_46 rfl ?_
              refine r_iincE hC ((w11 + 1)) dX6_send_47 rfl rfl (by omega) (by unfold inR; omega) ?_
              refine r_goto (tgt := 14) hC dX6_send_50 rfl ?_
              exact ih14 ((iand (ishr (σ 36 0 ((σ 37 0 w11) % 8)) (2 * w10)) 3)) ((w11 + 1))  (by omega) (by omega) (by first | rfl | (rw [ltr_stepI (by omega), ← i0_14]; rfl)) (by omega) (by omega)  
        exact L14 244 (1) (0)  (by omega) (by omega) (by first | rfl | (rw [ltr_stepI (by omega), ← i0_14]; rfl)) (by omega) (by omega)  
      · refine r_aload_n hC dX6_send_23 rfl ?_
        refine z_getR hM dX6_send_24 fl_RX6_25 rfl rfl (vld_of (n := 1) rfl (by omega) (by omega)) ?_
        refine r_aload_n hC dX6_send_27 rfl ?_
        refine z_getR hM dX6_send_28 fl_RX6_28 rfl rfl (vld_of (n := 1) rfl (by omega) (by omega)) ?_
        refine r_iload hC dX6_send_31 rfl ?_
        refine z_iald hM dX6_send_33 rfl (by omega) (by omega) (fun v50 h_v50 o_v50 t_v50 => ?_)
        have w_v50 := ((t_v50 (Or.inr (Or.inr (Or.inr ⟨rfl, by first | exact True.intro | exact (rfl : true = true)⟩)))).trans (rfl)).symm
        subst w_v50
        refine r_bipush hC dX6_send_34 rfl ?_
        refine z_ins2 hM dX6_send_36 tl_RX6_164 rfl (Nat.le_of_ble_eq_true rfl) (Nat.le_of_ble_eq_true rfl) ?_
        refine y_rest (by omega) (fun h51 => ?_)
        refine z_iald hM dX6_send_39 rfl (by omega) (by omega) (fun v52 h_v52 o_v52 t_v52 => ?_)
        have w_v52 := ((t_v52 (Or.inl trivial)).trans (rfl)).symm
        subst w_v52
        refine r_iconst hC dX6_send_40 rfl ?_
        refine r_iload_n hC dX6_send_41 rfl ?_
        refine r_imulE hC ((2 * w2)) dX6_send_42 (by omega) (by unfold inR; omega) ?_
        refine r_ishr hC dX6_send_43 ?_
        have f_v53 := ishr_fr (σ 36 0 ((σ 37 0 w3) % 8)) (2 * w2)
        refine r_iconst hC dX6_send_44 rfl ?_
        refine r_iand hC dX6_send_45 ?_
        have f_v54 := iand_rng (a := (ishr (σ 36 0 ((σ 37 0 w3) % 8)) (2 * w2))) (b := 3) (by omega) (inR_lit rfl)
        refine r_istore_n hC dX6_send_46 rfl ?_
        refine r_iincE hC ((w3 + 1)) dX6_send_47 rfl rfl (by omega) (by unfold inR; omega) ?_
        refine r_goto (tgt := 14) hC dX6_send_50 rfl ?_
        exact ih14 ((iand (ishr (σ 36 0 ((σ 37 0 w3) % 8)) (2 * w2)) 3)) ((w3 + 1))  (by omega) (by omega) (by first | rfl | (rw [ltr_stepI (by omega), ← i0_14]; rfl)) (by omega) (by omega)  
  exact L14 244 (0) (0)  (by omega) (by omega) (by first | rfl | (rw [ltr_stepI (by omega), ← i0_14]; rfl)) (by omega) (by omega)  
theorem y_alikeFrom {eb : Bool} {n : Nat} {d : Nat} {P : Option Vl → Mm → Prop} {σ : Mm} {i : Int} (b_i : 0 ≤ i ∧ i ≤ 241) (qg0 : σ 30 0 8 = (n : Int)) (hn : n ≤ 242) (hi : i < (n : Int))  (k : ∀ t : Int, (0 ≤ t ∧ i + t ≤ (n : Int)) → 1 ≤ t → (∀ j : Int, i ≤ j → j < i + t → σ 37 0 j = σ 37 0 i) → (i + t = (n : Int) ∨ σ 37 0 (i + t) ≠ σ 37 0 i) → P (some (vI t)) σ) : WT (true, eb, true) (d + 1) 168 [vR 30 0, vI i] σ P := by
  refine WT_in fun K hK => ?_
  have hK : StpY (true, eb, true) cX6_alikeFrom RX6 (some .int) (WT (true, eb, true) (d + 0)) P K := hK
  have hM := hK.1
  have hC := hK.1.1
  show K 0 [some (vR 30 0), some (vI i), none] [] σ
  refine r_iload_n hC dX6_alikeFrom_0 rfl ?_
  refine r_istore_n hC dX6_alikeFrom_1 rfl ?_
  have L2 : ∀ (n2 : Nat) (w1 : Int), 0 ≤ w1 ∧ w1 ≤ 242 → (i ≤ (w1)) → ((w1) ≤ (n : Int)) → (∀ j : Int, i ≤ j → j < (w1) → σ 37 0 j = σ 37 0 i) → 242 - w1 < (n2 : Int) → K 2 [some (vR 30 0), some (vI i), some (vI w1)] [] σ := by
    intro n2
    induction n2 with
    | zero => intro w1  f_w1 i0_2 i1_2 i2_2 hm  ; omega
    | succ n2 ih2 =>
      intro w1  f_w1 i0_2 i1_2 i2_2 hm2  
      refine r_iload_n hC dX6_alikeFrom_2 rfl ?_
      refine r_aload_n hC dX6_alikeFrom_3 rfl ?_
      refine z_getI (jz := 8) hM dX6_alikeFrom_4 fl_RX6_105 rfl rfl rfl (fun v2 h_v2 o_v2 t_v2 => ?_)
      have e_v2 : (n : Int) = v2 := ((t_v2 ((by simp [Tk, Tb, DL, DR]))).trans qg0).symm
      subst e_v2
      refine r_icmp_ge (tgt := 31) hC dX6_alikeFrom_7 rfl (fun h3 => ?_) (fun h3 => ?_)
      · refine r_iload_n hC dX6_alikeFrom_31 rfl ?_
        refine r_iload_n hC dX6_alikeFrom_32 rfl ?_
        refine r_isubE hC ((w1 - i)) dX6_alikeFrom_33 (by omega) (by unfold inR; omega) ?_
        refine y_iret hK rfl dX6_alikeFrom_34 ?_
        have hne : i ≠ w1 := by rintro rfl; omega
        exact k (w1 - i) (by omega) (by omega) (fun j h0 h1 => i2_2 j h0 (by omega)) (by rw [show i + (w1 - i) = w1 from by omega]; omega)
      · refine r_aload_n hC dX6_alikeFrom_10 rfl ?_
        refine z_getR hM dX6_alikeFrom_11 fl_RX6_28 rfl rfl (vld_of (n := 1) rfl (by omega) (by omega)) ?_
        refine r_iload_n hC dX6_alikeFrom_14 rfl ?_
        refine z_iald hM dX6_alikeFrom_15 rfl (by omega) (by omega) (fun v4 h_v4 o_v4 t_v4 => ?_)
        have w_v4 := ((t_v4 (Or.inr (Or.inr (Or.inr ⟨rfl, by first | exact True.intro | exact (rfl : true = true)⟩)))).trans (rfl)).symm
        subst w_v4
        refine r_aload_n hC dX6_alikeFrom_16 rfl ?_
        refine z_getR hM dX6_alikeFrom_17 fl_RX6_28 rfl rfl (vld_of (n := 1) rfl (by omega) (by omega)) ?_
        refine r_iload_n hC dX6_alikeFrom_20 rfl ?_
        refine z_iald hM dX6_alikeFrom_21 rfl (by omega) (by omega) (fun v5 h_v5 o_v5 t_v5 => ?_)
        have w_v5 := ((t_v5 (Or.inr (Or.inr (Or.inr ⟨rfl, by first | exact True.intro | exact (rfl : true = true)⟩)))).trans (rfl)).symm
        subst w_v5
        refine r_icmp_ne (tgt := 31) hC dX6_alikeFrom_22 rfl (fun h6 => ?_) (fun h6 => ?_)
        · refine r_iload_n hC dX6_alikeFrom_31 rfl ?_
          refine r_iload_n hC dX6_alikeFrom_32 rfl ?_
          refine r_isubE hC ((w1 - i)) dX6_alikeFrom_33 (by omega) (by unfold inR; omega) ?_
          refine y_iret hK rfl dX6_alikeFrom_34 ?_
          have hne : i ≠ w1 := by rintro rfl; omega
          exact k (w1 - i) (by omega) (by omega) (fun j h0 h1 => i2_2 j h0 (by omega)) (by rw [show i + (w1 - i) = w1 from by omega]; omega)
        · refine r_iincE hC ((w1 + 1)) dX6_alikeFrom_25 rfl rfl (by omega) (by unfold inR; omega) ?_
          refine r_goto (tgt := 2) hC dX6_alikeFrom_28 rfl ?_
          exact ih2 ((w1 + 1))  (by omega) (by omega) (by omega) (by first | (intro j h0 h1; omega) | (intro j h0 h1; rcases (by omega : j < w1 ∨ j = w1) with h | h; exact i2_2 j h0 h; subst h; assumption)) (by omega)  
  exact L2 244 (i)  (by omega) (by omega) (by omega) (by first | (intro j h0 h1; omega) | (intro j h0 h1; rcases (by omega : j < w1 ∨ j = w1) with h | h; exact i2_2 j h0 h; subst h; assumption)) (by omega)  
theorem lke_row {v : Int → Int} {i t : Int} (h0 : 0 ≤ i) (ht : 1 ≤ t) (hb : i = 0 ∨ v i ≠ v (i - 1)) (hv : ∀ j : Int, i ≤ j → j < i + t → v j = v i) : lke v (i + t).toNat = (max (lke v i.toNat).1 t, if t > (lke v i.toNat).1 then v i else (lke v i.toNat).2.1, (lke v i.toNat).2.2.1 + 1, if (lke v i.toNat).2.2.1 + 1 = 1 then t else (lke v i.toNat).2.2.2.1, t) := by
  have h := lke_run v i.toNat (by rw [Int.toNat_of_nonneg h0]; omega) t.toNat (by omega) (fun j hj => by rw [Int.toNat_of_nonneg h0]; exact hv _ (by omega) (by omega))
  rw [show (i + t).toNat = i.toNat + t.toNat from by omega, h, Int.toNat_of_nonneg h0, Int.toNat_of_nonneg (show 0 ≤ t by omega)]
theorem lke_rows {v : Int → Int} : ∀ n : Nat, 1 ≤ n → 1 ≤ (lke v n).2.2.1
  | 0, h => by omega
  | n + 1, _ => by
    have hb := (lke_b v n).1
    show (1 : Int) ≤ (if (decide (0 < n) && decide (v n = v (n - 1))) then (lke v n).2.2.1 else (lke v n).2.2.1 + 1)
    by_cases hn : n = 0
    · subst hn
      rw [if_neg (by simp)]
      omega
    · have := lke_rows (v := v) n (by omega)
      split <;> omega
/-- once another row has begun the first one's length stays -/
theorem lke_fst {v : Int → Int} {t : Nat} (h1 : 1 ≤ t) (hv : ∀ j : Int, 0 ≤ j → j < (t : Int) → v j = v 0) : ∀ m : Nat, (m = 0 ∨ v t ≠ v 0) → (lke v (t + m)).2.2.2.1 = t ∧ (1 ≤ m → 2 ≤ (lke v (t + m)).2.2.1)
  | 0, _ => by
    have h := lke_run v 0 (Or.inl rfl) t h1 (fun j hj => by show v ((0 : Int) + j) = v 0; rw [Int.zero_add]; exact hv _ (by omega) (by omega))
    rw [Nat.zero_add] at h
    rw [Nat.add_zero, h]
    refine ⟨?_, fun q => by omega⟩
    show (if (lke v 0).2.2.1 + 1 = 1 then (t : Int) else (lke v 0).2.2.2.1) = (t : Int)
    exact if_pos rfl
  | m + 1, hm => by
    have hne : v t ≠ v 0 := by rcases hm with q | q; omega; exact q
    obtain ⟨i1, i2⟩ := lke_fst h1 hv m (Or.inr hne)
    have hr := lke_rows (v := v) (t + m) (by omega)
    have e : lke v (t + m + 1) = (let s := lke v (t + m); let same : Bool := decide (0 < t + m) && decide (v ((t + m : Nat) : Int) = v (((t + m : Nat) : Int) - 1)); let l := if same then s.2.2.2.2 + 1 else 1; let r := if same then s.2.2.1 else s.2.2.1 + 1; (if l > s.1 then l else s.1, if l > s.1 then v ((t + m : Nat) : Int) else s.2.1, r, if r = 1 then l else s.2.2.2.1, l)) := rfl
    have hge : 2 ≤ (if (decide (0 < t + m) && decide (v ((t + m : Nat) : Int) = v (((t + m : Nat) : Int) - 1))) then (lke v (t + m)).2.2.1 else (lke v (t + m)).2.2.1 + 1) := by
      by_cases hm0 : m = 0
      · subst hm0
        have : (decide (0 < t + 0) && decide (v ((t + 0 : Nat) : Int) = v (((t + 0 : Nat) : Int) - 1))) = false := by
          have q := hv ((t : Int) - 1) (by omega) (by omega)
          rw [Nat.add_zero, q]
          simp [hne]
        rw [if_neg (by rw [this]; simp)]
        omega
      · have := i2 (by omega)
        split <;> omega
    rw [show t + (m + 1) = t + m + 1 from rfl, e]
    refine ⟨?_, fun _ => hge⟩
    show (if (if (decide (0 < t + m) && decide (v ((t + m : Nat) : Int) = v (((t + m : Nat) : Int) - 1))) then (lke v (t + m)).2.2.1 else (lke v (t + m)).2.2.1 + 1) = 1 then _ else (lke v (t + m)).2.2.2.1) = (t : Int)
    rw [if_neg (by omega), i1]
theorem lke_nx {v : Int → Int} {n : Nat} {i t : Int} (hv : ∀ j : Int, i ≤ j → j < i + t → v j = v i) (he : i + t = (n : Int) ∨ v (i + t) ≠ v i) (ht : 1 ≤ t) : i + t = 0 ∨ v (i + t) ≠ v (i + t - 1) ∨ i + t = (n : Int) := by
  rcases he with h | h
  · exact Or.inr (Or.inr h)
  · rw [hv (i + t - 1) (by omega) (by omega)]
    exact Or.inr (Or.inl h)
theorem y_like {eb : Bool} {n : Nat} {d : Nat} {P : Option Vl → Mm → Prop} {σ : Mm} {t0 t1 t2 t3 t4 t5 t6 : Int} (qg0 : σ 30 0 8 = (n : Int)) (qg1 : σ 38 0 0 = t0) (qg2 : σ 38 0 1 = t1) (qg3 : σ 38 0 2 = t2) (qg4 : σ 38 0 3 = t3) (qg5 : σ 38 0 4 = t4) (qg6 : σ 38 0 5 = t5) (qg7 : σ 38 0 6 = t6) (hn1 : 1 ≤ n) (hn : n ≤ 242)  (k : ∀ ρ : Mm, Gx (fun c x y => c = 38 ∧ x = 0) σ ρ → ρ 38 0 0 = ((lke (σ 37 0) n).1) → ρ 38 0 1 = ((lke (σ 37 0) n).2.1) → ρ 38 0 2 = ((lke (σ 37 0) n).2.2.1) → ρ 38 0 3 = ((lke (σ 37 0) n).2.2.2.1) → ρ 38 0 4 = ((lke (σ 37 0) n).2.2.2.2) → ρ 38 0 5 = (σ 37 0 0) → ρ 38 0 6 = (σ 37 0 ((n : Int) - 1)) → P none ρ) : WT (true, eb, true) (d + 2) 169 [vR 30 0] σ P := by
  refine WT_in fun K hK => ?_
  have hK : StpY (true, eb, true) cX6_like RX6 (none) (WT (true, eb, true) (d + 1)) P K := hK
  have hM := hK.1
  have hC := hK.1.1
  show K 0 [some (vR 30 0), none, none, none, none, none] [] σ
  have hn1N : 1 ≤ (n : Int) ∧ (n : Int) ≤ 242 := by omega
  refine r_iconst hC dX6_like_0 rfl ?_
  refine r_istore_n hC dX6_like_1 rfl ?_
  refine r_iconst hC dX6_like_2 rfl ?_
  refine r_istore_n hC dX6_like_3 rfl ?_
  refine r_iconst hC dX6_like_4 rfl ?_
  refine r_istore_n hC dX6_like_5 rfl ?_
  show K _ [_, _, _, _, _, _] _ _
  refine r_iconst hC dX6_like_6 rfl ?_
  refine r_istore hC dX6_like_7 rfl ?_
  refine r_iconst hC dX6_like_9 rfl ?_
  refine r_istore hC dX6_like_10 rfl ?_
  have L12 : ∀ (n12 : Nat) (w1 w2 w3 w4 w5 : Int), 0 ≤ w1 ∧ w1 ≤ 242 → 0 ≤ w2 ∧ w2 ≤ 242 → -2147483648 ≤ w3 ∧ w3 ≤ 2147483647 → 0 ≤ w4 ∧ w4 ≤ 242 → 0 ≤ w5 ∧ w5 ≤ 242 → ((w1) = (lke (σ 37 0) ((w5)).toNat).2.2.1) → ((w2) = (lke (σ 37 0) ((w5)).toNat).1) → ((w3) = (lke (σ 37 0) ((w5)).toNat).2.1) → ((w4) = (lke (σ 37 0) ((w5)).toNat).2.2.2.2) → ((w5) = 0 ∨ σ 37 0 (w5) ≠ σ 37 0 ((w5) - 1) ∨ (w5) = (n : Int)) → ((w1) ≤ (w5)) → ((w5) ≤ (n : Int)) → ((w2) ≤ (w5)) → 242 - w5 < (n12 : Int) → K 12 [some (vR 30 0), some (vI w1), some (vI w2), some (vI w3), some (vI w4), some (vI w5)] [] σ := by
    intro n12
    induction n12 with
    | zero => intro w1 w2 w3 w4 w5  f_w1 f_w2 f_w3 f_w4 f_w5 i0_12 i1_12 i2_12 i3_12 i4_12 i5_12 i6_12 i7_12 hm  ; omega
    | succ n12 ih12 =>
      intro w1 w2 w3 w4 w5  f_w1 f_w2 f_w3 f_w4 f_w5 i0_12 i1_12 i2_12 i3_12 i4_12 i5_12 i6_12 i7_12 hm12  
      refine r_iload hC dX6_like_12 rfl ?_
      refine r_aload_n hC dX6_like_14 rfl ?_
      refine z_getI (jz := 8) hM dX6_like_15 fl_RX6_105 rfl rfl rfl (fun v6 h_v6 o_v6 t_v6 => ?_)
      have e_v6 : (n : Int) = v6 := ((t_v6 ((by simp [Tk, Tb, DL, DR]))).trans qg0).symm
      subst e_v6
      refine r_icmp_ge (tgt := 62) hC dX6_like_18 rfl (fun h7 => ?_) (fun h7 => ?_)
      · refine r_aload_n hC dX6_like_62 rfl ?_
        refine z_getR hM dX6_like_63 fl_RX6_31 rfl rfl (vld_of (n := 1) rfl (by omega) (by omega)) ?_
        refine r_iconst hC dX6_like_66 rfl ?_
        refine r_iload_n hC dX6_like_67 rfl ?_
        refine z_iastG hM dX6_like_68 rfl (by omega) (by omega) (by simp [Tl, DL, DF]) (by first | trivial | (simp only [Okv]; omega) | (simp [Okv]; try omega)) (fun ρ8 a_ρ8 q_ρ8 => ?_)
        refine r_aload_n hC dX6_like_69 rfl ?_
        refine z_getR hM dX6_like_70 fl_RX6_31 rfl rfl (vld_of (n := 1) rfl (by omega) (by omega)) ?_
        refine r_iconst hC dX6_like_73 rfl ?_
        refine r_iload_n hC dX6_like_74 rfl ?_
        refine z_iastG hM dX6_like_75 rfl (by omega) (by omega) (by simp [Tl, DL, DF]) (by first | trivial | (simp only [Okv]; omega) | (simp [Okv]; try omega)) (fun ρ9 a_ρ9 q_ρ9 => ?_)
        refine r_aload_n hC dX6_like_76 rfl ?_
        refine z_getR hM dX6_like_77 fl_RX6_31 rfl rfl (vld_of (n := 1) rfl (by omega) (by omega)) ?_
        refine r_iconst hC dX6_like_80 rfl ?_
        refine r_iload_n hC dX6_like_81 rfl ?_
        refine z_iastG hM dX6_like_82 rfl (by omega) (by omega) (by simp [Tl, DL, DF]) (by first | trivial | (simp only [Okv]; omega) | (simp [Okv]; try omega)) (fun ρ10 a_ρ10 q_ρ10 => ?_)
        refine r_aload_n hC dX6_like_83 rfl ?_
        refine z_getR hM dX6_like_84 fl_RX6_31 rfl rfl (vld_of (n := 1) rfl (by omega) (by omega)) ?_
        refine r_iconst hC dX6_like_87 rfl ?_
        refine r_aload_n hC dX6_like_88 rfl ?_
        refine r_iconst hC dX6_like_89 rfl ?_
        refine z_inv1 hM dX6_like_90 vl_RX6_170 rfl rfl rfl (Nat.le_of_ble_eq_true rfl) (Nat.le_of_ble_eq_true rfl) ?_
        refine y_alikeFrom (n := n) (by omega) ((a_ρ10 _ _ _ (by omega)).trans ((a_ρ9 _ _ _ (by omega)).trans ((a_ρ8 _ _ _ (by omega)).trans qg0))) hn (by omega) (fun v11 h_v11 p_v11 v_v11 e_v11 => ?_)
        rw [show (ρ10 37 0) = σ 37 0 from funext fun j => (show Gx (fun c x y => c = 38 ∧ x = 0) σ ρ10 from (((Gx.rf).al a_ρ8 (by first | (simp; done) | omega | (simp; omega))).al a_ρ9 (by first | (simp; done) | omega | (simp; omega))).al a_ρ10 (by first | (simp; done) | omega | (simp; omega))) 37 0 j (by omega)] at v_v11 e_v11
        have v_LX := v_v11
        have e_LX := e_v11
        refine z_iastG hM dX6_like_93 rfl (by omega) (by omega) (by simp [Tl, DL, DF]) (by first | trivial | (simp only [Okv]; omega) | (simp [Okv]; try omega)) (fun ρ12 a_ρ12 q_ρ12 => ?_)
        refine r_aload_n hC dX6_like_94 rfl ?_
        refine z_getR hM dX6_like_95 fl_RX6_31 rfl rfl (vld_of (n := 1) rfl (by omega) (by omega)) ?_
        refine r_iconst hC dX6_like_98 rfl ?_
        refine r_iload hC dX6_like_99 rfl ?_
        refine z_iastG hM dX6_like_101 rfl (by omega) (by omega) (by simp [Tl, DL, DF]) (by first | trivial | (simp only [Okv]; omega) | (simp [Okv]; try omega)) (fun ρ13 a_ρ13 q_ρ13 => ?_)
        refine r_aload_n hC dX6_like_102 rfl ?_
        refine z_getR hM dX6_like_103 fl_RX6_31 rfl rfl (vld_of (n := 1) rfl (by omega) (by omega)) ?_
        refine r_iconst hC dX6_like_106 rfl ?_
        refine r_aload_n hC dX6_like_107 rfl ?_
        refine z_getR hM dX6_like_108 fl_RX6_28 rfl rfl (vld_of (n := 1) rfl (by omega) (by omega)) ?_
        refine r_iconst hC dX6_like_111 rfl ?_
        refine z_iald hM dX6_like_112 rfl (by omega) (by omega) (fun v14 h_v14 o_v14 t_v14 => ?_)
        have w_v14 := ((t_v14 (Or.inr (Or.inr (Or.inr ⟨rfl, by first | exact True.intro | exact (rfl : true = true)⟩)))).trans ((show Gx (fun c x y => c = 38 ∧ x = 0) σ ρ13 from (((((Gx.rf).al a_ρ8 (by first | (simp; done) | omega | (simp; omega))).al a_ρ9 (by first | (simp; done) | omega | (simp; omega))).al a_ρ10 (by first | (simp; done) | omega | (simp; omega))).al a_ρ12 (by first | (simp; done) | omega | (simp; omega))).al a_ρ13 (by first | (simp; done) | omega | (simp; omega))) 37 0 _ (by omega))).symm
        subst w_v14
        refine z_iastG hM dX6_like_113 rfl (by omega) (by omega) (by simp [Tl, DL, DF]) (by first | trivial | (simp only [Okv]; omega) | (simp [Okv]; try omega)) (fun ρ15 a_ρ15 q_ρ15 => ?_)
        refine r_aload_n hC dX6_like_114 rfl ?_
        refine z_getR hM dX6_like_115 fl_RX6_31 rfl rfl (vld_of (n := 1) rfl (by omega) (by omega)) ?_
        refine r_bipush hC dX6_like_118 rfl ?_
        refine r_aload_n hC dX6_like_120 rfl ?_
        refine z_getR hM dX6_like_121 fl_RX6_28 rfl rfl (vld_of (n := 1) rfl (by omega) (by omega)) ?_
        refine r_aload_n hC dX6_like_124 rfl ?_
        refine z_getI (jz := 8) hM dX6_like_125 fl_RX6_105 rfl rfl rfl (fun v16 h_v16 o_v16 t_v16 => ?_)
        have e_v16 : (n : Int) = v16 := ((t_v16 ((by simp [Tk, Tb, DL, DR]))).trans ((a_ρ15 _ _ _ (by omega)).trans ((a_ρ13 _ _ _ (by omega)).trans ((a_ρ12 _ _ _ (by omega)).trans ((a_ρ10 _ _ _ (by omega)).trans ((a_ρ9 _ _ _ (by omega)).trans ((a_ρ8 _ _ _ (by omega)).trans qg0))))))).symm
        subst e_v16
        refine r_iconst hC dX6_like_128 rfl ?_
        refine r_isubE hC (((n : Int) - 1)) dX6_like_129 (by omega) (by unfold inR; omega) ?_
        refine z_iald hM dX6_like_130 rfl (by omega) (by omega) (fun v17 h_v17 o_v17 t_v17 => ?_)
        have w_v17 := ((t_v17 (Or.inr (Or.inr (Or.inr ⟨rfl, by first | exact True.intro | exact (rfl : true = true)⟩)))).trans ((show Gx (fun c x y => c = 38 ∧ x = 0) σ ρ15 from ((((((Gx.rf).al a_ρ8 (by first | (simp; done) | omega | (simp; omega))).al a_ρ9 (by first | (simp; done) | omega | (simp; omega))).al a_ρ10 (by first | (simp; done) | omega | (simp; omega))).al a_ρ12 (by first | (simp; done) | omega | (simp; omega))).al a_ρ13 (by first | (simp; done) | omega | (simp; omega))).al a_ρ15 (by first | (simp; done) | omega | (simp; omega))) 37 0 _ (by omega))).symm
        subst w_v17
        refine z_iastG hM dX6_like_131 rfl (by omega) (by omega) (by simp [Tl, DL, DF]) (by first | trivial | (simp only [Okv]; omega) | (simp [Okv]; try omega)) (fun ρ18 a_ρ18 q_ρ18 => ?_)
        refine y_vret hK rfl dX6_like_132 ?_
        have hn_ : (w5).toNat = n := by omega
        rw [hn_] at i0_12 i1_12 i2_12 i3_12
        have hf := lke_fst (v := σ 37 0) (t := (v11).toNat) (by omega) (fun j h0 h1 => v_v11 j (by omega) (by omega)) (n - (v11).toNat) (by
          rw [show (((v11).toNat : Nat) : Int) = v11 from by omega]
          rw [Int.zero_add] at e_v11
          rcases e_v11 with h | h
          · exact Or.inl (by omega)
          · exact Or.inr h)
        rw [show (v11).toNat + (n - (v11).toNat) = n from by omega] at hf
        exact k _ ((((((((Gx.rf).al a_ρ8 (by first | (simp; done) | omega | (simp; omega))).al a_ρ9 (by first | (simp; done) | omega | (simp; omega))).al a_ρ10 (by first | (simp; done) | omega | (simp; omega))).al a_ρ12 (by first | (simp; done) | omega | (simp; omega))).al a_ρ13 (by first | (simp; done) | omega | (simp; omega))).al a_ρ15 (by first | (simp; done) | omega | (simp; omega))).al a_ρ18 (by first | (simp; done) | omega | (simp; omega))) (by have hq := ((a_ρ18 _ _ _ (by omega)).trans ((a_ρ15 _ _ _ (by omega)).trans ((a_ρ13 _ _ _ (by omega)).trans ((a_ρ12 _ _ _ (by omega)).trans ((a_ρ10 _ _ _ (by omega)).trans ((a_ρ9 _ _ _ (by omega)).trans q_ρ8)))))); exact hq.trans i1_12) (by have hq := ((a_ρ18 _ _ _ (by omega)).trans ((a_ρ15 _ _ _ (by omega)).trans ((a_ρ13 _ _ _ (by omega)).trans ((a_ρ12 _ _ _ (by omega)).trans ((a_ρ10 _ _ _ (by omega)).trans q_ρ9))))); exact hq.trans i2_12) (by have hq := ((a_ρ18 _ _ _ (by omega)).trans ((a_ρ15 _ _ _ (by omega)).trans ((a_ρ13 _ _ _ (by omega)).trans ((a_ρ12 _ _ _ (by omega)).trans q_ρ10)))); exact hq.trans i0_12) (by have hq := ((a_ρ18 _ _ _ (by omega)).trans ((a_ρ15 _ _ _ (by omega)).trans ((a_ρ13 _ _ _ (by omega)).trans q_ρ12))); rw [hf.1]; omega) (by have hq := ((a_ρ18 _ _ _ (by omega)).trans ((a_ρ15 _ _ _ (by omega)).trans q_ρ13)); exact hq.trans i3_12) (by have hq := ((a_ρ18 _ _ _ (by omega)).trans q_ρ15); first | exact hq | exact hq.trans (a_ρ8 _ _ _ (by omega)) | exact hq.trans ((a_ρ9 _ _ _ (by omega)).trans (a_ρ8 _ _ _ (by omega))) | exact hq.trans ((a_ρ10 _ _ _ (by omega)).trans ((a_ρ9 _ _ _ (by omega)).trans (a_ρ8 _ _ _ (by omega)))) | exact hq.trans ((a_ρ12 _ _ _ (by omega)).trans ((a_ρ10 _ _ _ (by omega)).trans ((a_ρ9 _ _ _ (by omega)).trans (a_ρ8 _ _ _ (by omega))))) | exact hq.trans ((a_ρ13 _ _ _ (by omega)).trans ((a_ρ12 _ _ _ (by omega)).trans ((a_ρ10 _ _ _ (by omega)).trans ((a_ρ9 _ _ _ (by omega)).trans (a_ρ8 _ _ _ (by omega)))))) | exact hq.trans ((a_ρ15 _ _ _ (by omega)).trans ((a_ρ13 _ _ _ (by omega)).trans ((a_ρ12 _ _ _ (by omega)).trans ((a_ρ10 _ _ _ (by omega)).trans ((a_ρ9 _ _ _ (by omega)).trans (a_ρ8 _ _ _ (by omega))))))) | exact hq.trans ((a_ρ18 _ _ _ (by omega)).trans ((a_ρ15 _ _ _ (by omega)).trans ((a_ρ13 _ _ _ (by omega)).trans ((a_ρ12 _ _ _ (by omega)).trans ((a_ρ10 _ _ _ (by omega)).trans ((a_ρ9 _ _ _ (by omega)).trans (a_ρ8 _ _ _ (by omega))))))))) (by have hq := q_ρ18; first | exact hq | exact hq.trans (a_ρ8 _ _ _ (by omega)) | exact hq.trans ((a_ρ9 _ _ _ (by omega)).trans (a_ρ8 _ _ _ (by omega))) | exact hq.trans ((a_ρ10 _ _ _ (by omega)).trans ((a_ρ9 _ _ _ (by omega)).trans (a_ρ8 _ _ _ (by omega)))) | exact hq.trans ((a_ρ12 _ _ _ (by omega)).trans ((a_ρ10 _ _ _ (by omega)).trans ((a_ρ9 _ _ _ (by omega)).trans (a_ρ8 _ _ _ (by omega))))) | exact hq.trans ((a_ρ13 _ _ _ (by omega)).trans ((a_ρ12 _ _ _ (by omega)).trans ((a_ρ10 _ _ _ (by omega)).trans ((a_ρ9 _ _ _ (by omega)).trans (a_ρ8 _ _ _ (by omega)))))) | exact hq.trans ((a_ρ15 _ _ _ (by omega)).trans ((a_ρ13 _ _ _ (by omega)).trans ((a_ρ12 _ _ _ (by omega)).trans ((a_ρ10 _ _ _ (by omega)).trans ((a_ρ9 _ _ _ (by omega)).trans (a_ρ8 _ _ _ (by omega))))))) | exact hq.trans ((a_ρ18 _ _ _ (by omega)).trans ((a_ρ15 _ _ _ (by omega)).trans ((a_ρ13 _ _ _ (by omega)).trans ((a_ρ12 _ _ _ (by omega)).trans ((a_ρ10 _ _ _ (by omega)).trans ((a_ρ9 _ _ _ (by omega)).trans (a_ρ8 _ _ _ (by omega)))))))))
      · refine r_aload_n hC dX6_like_21 rfl ?_
        have i4_12 : w5 = 0 ∨ σ 37 0 w5 ≠ σ 37 0 (w5 - 1) := by rcases i4_12 with h | h | h; exact Or.inl h; exact Or.inr h; omega
        refine r_iload hC dX6_like_22 rfl ?_
        refine z_inv1 hM dX6_like_24 vl_RX6_170 rfl rfl rfl (Nat.le_of_ble_eq_true rfl) (Nat.le_of_ble_eq_true rfl) ?_
        refine y_alikeFrom (n := n) (by omega) qg0 hn (by omega) (fun v19 h_v19 p_v19 v_v19 e_v19 => ?_)
        have v_LX := v_v19
        have e_LX := e_v19
        refine r_istore hC dX6_like_27 rfl ?_
        have hrow := lke_row (v := σ 37 0) (i := w5) (t := v19) (by omega) (by omega) i4_12 v_v19
        refine r_iincE hC ((w1 + 1)) dX6_like_29 rfl rfl (by omega) (by unfold inR; omega) ?_
        refine r_iload hC dX6_like_32 rfl ?_
        refine r_iload_n hC dX6_like_34 rfl ?_
        refine r_icmp_gt (tgt := 41) hC dX6_like_35 rfl (fun h20 => ?_) (fun h20 => ?_)
        · refine r_iload hC dX6_like_41 rfl ?_
          refine r_istore_n hC dX6_like_43 rfl ?_
          refine r_aload_n hC dX6_like_44 rfl ?_
          refine z_getR hM dX6_like_45 fl_RX6_28 rfl rfl (vld_of (n := 1) rfl (by omega) (by omega)) ?_
          refine r_iload hC dX6_like_48 rfl ?_
          refine z_iald hM dX6_like_50 rfl (by omega) (by omega) (fun v21 h_v21 o_v21 t_v21 => ?_)
          have w_v21 := ((t_v21 (Or.inr (Or.inr (Or.inr ⟨rfl, by first | exact True.intro | exact (rfl : true = true)⟩)))).trans (rfl)).symm
          subst w_v21
          refine r_istore_n hC dX6_like_51 rfl ?_
          refine r_iload hC dX6_like_52 rfl ?_
          refine r_iload hC dX6_like_54 rfl ?_
          refine r_iaddE hC ((w5 + v19)) dX6_like_56 (by omega) (by unfold inR; omega) ?_
          refine r_istore hC dX6_like_57 rfl ?_
          refine r_goto (tgt := 12) hC dX6_like_59 rfl ?_
          exact ih12 ((w1 + 1)) (v19) ((σ 37 0 w5)) (v19) ((w5 + v19))  (by omega) (by omega) (by omega) (by omega) (by omega) (by first | rfl | (rw [hrow, ← i0_12])) (by first | rfl | (rw [hrow, ← i1_12]; dsimp only; omega)) (by first | rfl | (rw [hrow, ← i1_12, ← i2_12]; dsimp only; first | exact (if_pos (by omega)).symm | exact (if_neg (by omega)).symm)) (by first | rfl | (rw [hrow])) (by first | exact Or.inl rfl | exact lke_nx v_LX e_LX (by omega)) (by omega) (by omega) (by omega) (by omega)  
        · refine r_goto (tgt := 52) hC dX6_like_38 rfl ?_
          refine r_iload hC dX6_like_52 rfl ?_
          refine r_iload hC dX6_like_54 rfl ?_
          refine r_iaddE hC ((w5 + v19)) dX6_like_56 (by omega) (by unfold inR; omega) ?_
          refine r_istore hC dX6_like_57 rfl ?_
          refine r_goto (tgt := 12) hC dX6_like_59 rfl ?_
          exact ih12 ((w1 + 1)) (w2) (w3) (v19) ((w5 + v19))  (by omega) (by omega) (by omega) (by omega) (by omega) (by first | rfl | (rw [hrow, ← i0_12])) (by first | rfl | (rw [hrow, ← i1_12]; dsimp only; omega)) (by first | rfl | (rw [hrow, ← i1_12, ← i2_12]; dsimp only; first | exact (if_pos (by omega)).symm | exact (if_neg (by omega)).symm)) (by first | rfl | (rw [hrow])) (by first | exact Or.inl rfl | exact lke_nx v_LX e_LX (by omega)) (by omega) (by omega) (by omega) (by omega)  
  exact L12 244 (0) (0) (0) (0) (0)  (by omega) (by omega) (by omega) (by omega) (by omega) (by first | rfl | (rw [hrow, ← i0_12])) (by first | rfl | (rw [hrow, ← i1_12]; dsimp only; omega)) (by first | rfl | (rw [hrow, ← i1_12, ← i2_12]; dsimp only; first | exact (if_pos (by omega)).symm | exact (if_neg (by omega)).symm)) (by first | rfl | (rw [hrow])) (by first | exact Or.inl rfl | exact lke_nx v_LX e_LX (by omega)) (by omega) (by omega) (by omega) (by omega)  
