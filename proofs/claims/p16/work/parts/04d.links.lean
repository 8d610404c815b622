-- what the links of the code name
theorem gw1 {w : Cond} {i : Nat} (h : tables_1_1[i]? = some w) (g : goodWord w = true) : w ∈ gT := List.mem_filter.mpr ⟨List.mem_append_right _ (tb1 (List.mem_of_getElem? h)), g⟩
theorem nw1 {w : Cond} {i : Nat} (h : tables_1_1[i]? = some w) (g : isNest w = true) : w ∈ nT := List.mem_filter.mpr ⟨tb1 (List.mem_of_getElem? h), g⟩
theorem gw2 {w : Cond} {i : Nat} (h : tables_1_2[i]? = some w) (g : goodWord w = true) : w ∈ gT := List.mem_filter.mpr ⟨List.mem_append_right _ (tb2 (List.mem_of_getElem? h)), g⟩
theorem nw2 {w : Cond} {i : Nat} (h : tables_1_2[i]? = some w) (g : isNest w = true) : w ∈ nT := List.mem_filter.mpr ⟨tb2 (List.mem_of_getElem? h), g⟩
theorem gw3 {w : Cond} {i : Nat} (h : tables_1_3[i]? = some w) (g : goodWord w = true) : w ∈ gT := List.mem_filter.mpr ⟨List.mem_append_right _ (tb3 (List.mem_of_getElem? h)), g⟩
theorem nw3 {w : Cond} {i : Nat} (h : tables_1_3[i]? = some w) (g : isNest w = true) : w ∈ nT := List.mem_filter.mpr ⟨tb3 (List.mem_of_getElem? h), g⟩
theorem gw4 {w : Cond} {i : Nat} (h : tables_1_4[i]? = some w) (g : goodWord w = true) : w ∈ gT := List.mem_filter.mpr ⟨List.mem_append_right _ (tb4 (List.mem_of_getElem? h)), g⟩
theorem nw4 {w : Cond} {i : Nat} (h : tables_1_4[i]? = some w) (g : isNest w = true) : w ∈ nT := List.mem_filter.mpr ⟨tb4 (List.mem_of_getElem? h), g⟩
theorem gw5 {w : Cond} {i : Nat} (h : tables_1_5[i]? = some w) (g : goodWord w = true) : w ∈ gT := List.mem_filter.mpr ⟨List.mem_append_right _ (tb5 (List.mem_of_getElem? h)), g⟩
theorem nw5 {w : Cond} {i : Nat} (h : tables_1_5[i]? = some w) (g : isNest w = true) : w ∈ nT := List.mem_filter.mpr ⟨tb5 (List.mem_of_getElem? h), g⟩
theorem gw6 {w : Cond} {i : Nat} (h : tables_1_6[i]? = some w) (g : goodWord w = true) : w ∈ gT := List.mem_filter.mpr ⟨List.mem_append_right _ (tb6 (List.mem_of_getElem? h)), g⟩
theorem nw6 {w : Cond} {i : Nat} (h : tables_1_6[i]? = some w) (g : isNest w = true) : w ∈ nT := List.mem_filter.mpr ⟨tb6 (List.mem_of_getElem? h), g⟩
theorem pfor {y : MethodName} (h : plainName y.cls = true) : plainFor y = true := by
  unfold plainFor
  rw [h]
  rfl
theorem inG0 : ∀ w ∈ u_ws RX0 TX0 7, w ∈ gT := by
  intro w hw
  obtain ⟨k, hk, rfl⟩ := List.mem_map.mp hw
  have hk := List.mem_range.mp hk
  rcases (by omega : k = 0 ∨ k = 1 ∨ k = 2 ∨ k = 3 ∨ k = 4 ∨ k = 5 ∨ k = 6) with rfl | rfl | rfl | rfl | rfl | rfl | rfl
  · exact gw1 (i := 47) rfl rfl
  · exact gw1 (i := 49) rfl rfl
  · exact gw1 (i := 51) rfl rfl
  · exact gw1 (i := 53) rfl rfl
  · exact gw1 (i := 55) rfl rfl
  · exact gw1 (i := 57) rfl rfl
  · exact gw1 (i := 59) rfl rfl
theorem inG1 : ∀ w ∈ u_ws RX1 TX1 8, w ∈ gT := by
  intro w hw
  obtain ⟨k, hk, rfl⟩ := List.mem_map.mp hw
  have hk := List.mem_range.mp hk
  rcases (by omega : k = 0 ∨ k = 1 ∨ k = 2 ∨ k = 3 ∨ k = 4 ∨ k = 5 ∨ k = 6 ∨ k = 7) with rfl | rfl | rfl | rfl | rfl | rfl | rfl | rfl
  · exact gw1 (i := 200) rfl rfl
  · exact gw1 (i := 202) rfl rfl
  · exact gw1 (i := 204) rfl rfl
  · exact gw1 (i := 206) rfl rfl
  · exact gw1 (i := 208) rfl rfl
  · exact gw1 (i := 210) rfl rfl
  · exact gw1 (i := 212) rfl rfl
  · exact gw1 (i := 214) rfl rfl
theorem inG2 : ∀ w ∈ u_ws RX2 TX2 17, w ∈ gT := by
  intro w hw
  obtain ⟨k, hk, rfl⟩ := List.mem_map.mp hw
  have hk := List.mem_range.mp hk
  rcases (by omega : k = 0 ∨ k = 1 ∨ k = 2 ∨ k = 3 ∨ k = 4 ∨ k = 5 ∨ k = 6 ∨ k = 7 ∨ k = 8 ∨ k = 9 ∨ k = 10 ∨ k = 11 ∨ k = 12 ∨ k = 13 ∨ k = 14 ∨ k = 15 ∨ k = 16) with rfl | rfl | rfl | rfl | rfl | rfl | rfl | rfl | rfl | rfl | rfl | rfl | rfl | rfl | rfl | rfl | rfl
  · exact gw1 (i := 93) rfl rfl
  · exact gw1 (i := 95) rfl rfl
  · exact gw1 (i := 97) rfl rfl
  · exact gw1 (i := 99) rfl rfl
  · exact gw1 (i := 101) rfl rfl
  · exact gw1 (i := 103) rfl rfl
  · exact gw1 (i := 105) rfl rfl
  · exact gw1 (i := 107) rfl rfl
  · exact gw1 (i := 109) rfl rfl
  · exact gw1 (i := 111) rfl rfl
  · exact gw1 (i := 113) rfl rfl
  · exact gw1 (i := 115) rfl rfl
  · exact gw1 (i := 117) rfl rfl
  · exact gw1 (i := 119) rfl rfl
  · exact gw1 (i := 121) rfl rfl
  · exact gw1 (i := 123) rfl rfl
  · exact gw1 (i := 125) rfl rfl
theorem inG3 : ∀ w ∈ u_ws RX3 TX3 4, w ∈ gT := by
  intro w hw
  obtain ⟨k, hk, rfl⟩ := List.mem_map.mp hw
  have hk := List.mem_range.mp hk
  rcases (by omega : k = 0 ∨ k = 1 ∨ k = 2 ∨ k = 3) with rfl | rfl | rfl | rfl
  · exact gw1 (i := 141) rfl rfl
  · exact gw1 (i := 143) rfl rfl
  · exact gw1 (i := 145) rfl rfl
  · exact gw1 (i := 147) rfl rfl
theorem inG4 : ∀ w ∈ u_ws RX4 TX4 6, w ∈ gT := by
  intro w hw
  obtain ⟨k, hk, rfl⟩ := List.mem_map.mp hw
  have hk := List.mem_range.mp hk
  rcases (by omega : k = 0 ∨ k = 1 ∨ k = 2 ∨ k = 3 ∨ k = 4 ∨ k = 5) with rfl | rfl | rfl | rfl | rfl | rfl
  · exact gw1 (i := 168) rfl rfl
  · exact gw1 (i := 170) rfl rfl
  · exact gw1 (i := 172) rfl rfl
  · exact gw1 (i := 174) rfl rfl
  · exact gw1 (i := 176) rfl rfl
  · exact gw1 (i := 178) rfl rfl
theorem inG5 : ∀ w ∈ u_ws RX5 TX5 8, w ∈ gT := by
  intro w hw
  obtain ⟨k, hk, rfl⟩ := List.mem_map.mp hw
  have hk := List.mem_range.mp hk
  rcases (by omega : k = 0 ∨ k = 1 ∨ k = 2 ∨ k = 3 ∨ k = 4 ∨ k = 5 ∨ k = 6 ∨ k = 7) with rfl | rfl | rfl | rfl | rfl | rfl | rfl | rfl
  · exact gw1 (i := 229) rfl rfl
  · exact gw1 (i := 231) rfl rfl
  · exact gw1 (i := 233) rfl rfl
  · exact gw1 (i := 235) rfl rfl
  · exact gw1 (i := 237) rfl rfl
  · exact gw1 (i := 239) rfl rfl
  · exact gw2 (i := 1) rfl rfl
  · exact gw2 (i := 3) rfl rfl
theorem inG6 : ∀ w ∈ u_ws RX6 TX6 23, w ∈ gT := by
  intro w hw
  obtain ⟨k, hk, rfl⟩ := List.mem_map.mp hw
  have hk := List.mem_range.mp hk
  rcases (by omega : k = 0 ∨ k = 1 ∨ k = 2 ∨ k = 3 ∨ k = 4 ∨ k = 5 ∨ k = 6 ∨ k = 7 ∨ k = 8 ∨ k = 9 ∨ k = 10 ∨ k = 11 ∨ k = 12 ∨ k = 13 ∨ k = 14 ∨ k = 15 ∨ k = 16 ∨ k = 17 ∨ k = 18 ∨ k = 19 ∨ k = 20 ∨ k = 21 ∨ k = 22) with rfl | rfl | rfl | rfl | rfl | rfl | rfl | rfl | rfl | rfl | rfl | rfl | rfl | rfl | rfl | rfl | rfl | rfl | rfl | rfl | rfl | rfl | rfl
  · exact gw4 (i := 103) rfl rfl
  · exact gw4 (i := 105) rfl rfl
  · exact gw4 (i := 107) rfl rfl
  · exact gw4 (i := 109) rfl rfl
  · exact gw4 (i := 111) rfl rfl
  · exact gw4 (i := 113) rfl rfl
  · exact gw4 (i := 115) rfl rfl
  · exact gw4 (i := 117) rfl rfl
  · exact gw4 (i := 119) rfl rfl
  · exact gw4 (i := 121) rfl rfl
  · exact gw4 (i := 123) rfl rfl
  · exact gw4 (i := 125) rfl rfl
  · exact gw4 (i := 127) rfl rfl
  · exact gw4 (i := 129) rfl rfl
  · exact gw4 (i := 131) rfl rfl
  · exact gw4 (i := 133) rfl rfl
  · exact gw4 (i := 135) rfl rfl
  · exact gw4 (i := 137) rfl rfl
  · exact gw4 (i := 139) rfl rfl
  · exact gw4 (i := 141) rfl rfl
  · exact gw4 (i := 143) rfl rfl
  · exact gw4 (i := 145) rfl rfl
  · exact gw4 (i := 147) rfl rfl
theorem cn_0 : RX5 ≠ "java/lang/invoke/MethodHandle" ∧ RX5 ≠ "java/lang/invoke/VarHandle" := ⟨by decide +kernel, by decide +kernel⟩
theorem pn_0 : plainName RX5 = true := by decide +kernel
theorem cn_1 : RX0 ≠ "java/lang/invoke/MethodHandle" ∧ RX0 ≠ "java/lang/invoke/VarHandle" := ⟨by decide +kernel, by decide +kernel⟩
theorem pn_1 : plainName RX0 = true := by decide +kernel
theorem cn_2 : RX1 ≠ "java/lang/invoke/MethodHandle" ∧ RX1 ≠ "java/lang/invoke/VarHandle" := ⟨by decide +kernel, by decide +kernel⟩
theorem pn_2 : plainName RX1 = true := by decide +kernel
theorem cn_3 : RX2 ≠ "java/lang/invoke/MethodHandle" ∧ RX2 ≠ "java/lang/invoke/VarHandle" := ⟨by decide +kernel, by decide +kernel⟩
theorem pn_3 : plainName RX2 = true := by decide +kernel
theorem cn_4 : RX3 ≠ "java/lang/invoke/MethodHandle" ∧ RX3 ≠ "java/lang/invoke/VarHandle" := ⟨by decide +kernel, by decide +kernel⟩
theorem pn_4 : plainName RX3 = true := by decide +kernel
theorem cn_5 : RX4 ≠ "java/lang/invoke/MethodHandle" ∧ RX4 ≠ "java/lang/invoke/VarHandle" := ⟨by decide +kernel, by decide +kernel⟩
theorem pn_5 : plainName RX4 = true := by decide +kernel
theorem cn_6 : RX6 ≠ "java/lang/invoke/MethodHandle" ∧ RX6 ≠ "java/lang/invoke/VarHandle" := ⟨by decide +kernel, by decide +kernel⟩
theorem pn_6 : plainName RX6 = true := by decide +kernel
theorem cn_7 : RJ6 ≠ "java/lang/invoke/MethodHandle" ∧ RJ6 ≠ "java/lang/invoke/VarHandle" := ⟨by decide +kernel, by decide +kernel⟩
theorem cn_8 : RJ9 ≠ "java/lang/invoke/MethodHandle" ∧ RJ9 ≠ "java/lang/invoke/VarHandle" := ⟨by decide +kernel, by decide +kernel⟩
theorem cn_9 : RJ7 ≠ "java/lang/invoke/MethodHandle" ∧ RJ7 ≠ "java/lang/invoke/VarHandle" := ⟨by decide +kernel, by decide +kernel⟩
theorem ds_0 : (parseMethodDescriptor "()I").map (fun d => d.parameters.length) = some 0 := by decide +kernel
theorem ds_1 : (parseMethodDescriptor "()V").map (fun d => d.parameters.length) = some 0 := by decide +kernel
theorem ds_2 : (parseMethodDescriptor "()Z").map (fun d => d.parameters.length) = some 0 := by decide +kernel
theorem ds_3 : (parseMethodDescriptor "(I)I").map (fun d => d.parameters.length) = some 1 := by decide +kernel
theorem ds_4 : (parseMethodDescriptor "(I)LSlideFold$Lane;").map (fun d => d.parameters.length) = some 1 := by decide +kernel
theorem ds_5 : (parseMethodDescriptor "(I)V").map (fun d => d.parameters.length) = some 1 := by decide +kernel
theorem ds_6 : (parseMethodDescriptor "(I)Z").map (fun d => d.parameters.length) = some 1 := by decide +kernel
theorem ds_7 : (parseMethodDescriptor "(II)I").map (fun d => d.parameters.length) = some 2 := by decide +kernel
theorem ds_8 : (parseMethodDescriptor "(II)LSlideFold$Lane;").map (fun d => d.parameters.length) = some 2 := by decide +kernel
theorem ds_9 : (parseMethodDescriptor "(II)V").map (fun d => d.parameters.length) = some 2 := by decide +kernel
theorem ds_10 : (parseMethodDescriptor "(II)Z").map (fun d => d.parameters.length) = some 2 := by decide +kernel
theorem ds_11 : (parseMethodDescriptor "(III)I").map (fun d => d.parameters.length) = some 3 := by decide +kernel
theorem ds_12 : (parseMethodDescriptor "(III)V").map (fun d => d.parameters.length) = some 3 := by decide +kernel
theorem ds_13 : (parseMethodDescriptor "(III)Z").map (fun d => d.parameters.length) = some 3 := by decide +kernel
theorem ds_14 : (parseMethodDescriptor "(IIII)I").map (fun d => d.parameters.length) = some 4 := by decide +kernel
theorem ds_15 : (parseMethodDescriptor "(IIII)V").map (fun d => d.parameters.length) = some 4 := by decide +kernel
theorem ds_16 : (parseMethodDescriptor "(IIII)Z").map (fun d => d.parameters.length) = some 4 := by decide +kernel
theorem ds_17 : (parseMethodDescriptor "(IIIII)I").map (fun d => d.parameters.length) = some 5 := by decide +kernel
theorem ds_18 : (parseMethodDescriptor "(IIIZ)V").map (fun d => d.parameters.length) = some 4 := by decide +kernel
theorem ds_19 : (parseMethodDescriptor "(IIZ)V").map (fun d => d.parameters.length) = some 3 := by decide +kernel
theorem ds_20 : (parseMethodDescriptor "(J)I").map (fun d => d.parameters.length) = some 1 := by decide +kernel
theorem ds_21 : (parseMethodDescriptor "(LSlideFold$Flip;)V").map (fun d => d.parameters.length) = some 1 := by decide +kernel
theorem ds_22 : (parseMethodDescriptor "(LSlideFold$Lane;)V").map (fun d => d.parameters.length) = some 1 := by decide +kernel
theorem ds_23 : (parseMethodDescriptor "(LSlideFold$Lane;I)V").map (fun d => d.parameters.length) = some 2 := by decide +kernel
theorem ds_24 : (parseMethodDescriptor "(LSlideFold$Lane;II)I").map (fun d => d.parameters.length) = some 3 := by decide +kernel
theorem ds_25 : (parseMethodDescriptor "(LSlideFold$Lane;II)V").map (fun d => d.parameters.length) = some 3 := by decide +kernel
theorem ds_26 : (parseMethodDescriptor "(LSlideFold$Lane;III)I").map (fun d => d.parameters.length) = some 4 := by decide +kernel
theorem ds_27 : (parseMethodDescriptor "(LSlideFold$Lane;III)V").map (fun d => d.parameters.length) = some 4 := by decide +kernel
theorem ds_28 : (parseMethodDescriptor "(Z)I").map (fun d => d.parameters.length) = some 1 := by decide +kernel
theorem ds_29 : (parseMethodDescriptor "(ZI)V").map (fun d => d.parameters.length) = some 2 := by decide +kernel
theorem ds_30 : (parseMethodDescriptor "([II)V").map (fun d => d.parameters.length) = some 2 := by decide +kernel
theorem mokI {M : Nat} {y : MethodName} {b : ByteArray} {l : Nat} {r : Option FieldType} {k : Nat} (e : mt M = (y, b, l, r, k)) (h1 : Cond.code y b l r ∈ gT) (h2 : Cond.initialized y.cls ∈ gT) (h3 : y.cls ≠ "java/lang/invoke/MethodHandle" ∧ y.cls ≠ "java/lang/invoke/VarHandle") (h4 : (parseMethodDescriptor y.desc).map (fun d => d.parameters.length) = some k) (h5 : l ≤ 21) (h6 : plainFor y = true) : MOK M := by
  unfold MOK my mb ml mr mp
  rw [e]
  exact ⟨h1, h2, h3, h4, h5, h6⟩
