theorem tbS : ∀ w ∈ k2_sels lw_privs, w ∈ lw_tbl := fun w h => List.mem_append_left _ h
theorem tbT : ∀ w ∈ tables_1, w ∈ lw_tbl := fun w h => List.mem_append_right _ h
theorem tb1 : ∀ w ∈ tables_1_1, w ∈ lw_tbl := fun w h => tbT w (List.mem_append_left _ h)
theorem tb2 : ∀ w ∈ tables_1_2, w ∈ lw_tbl := fun w h => tbT w (List.mem_append_right _ (List.mem_append_left _ h))
theorem tb3 : ∀ w ∈ tables_1_3, w ∈ lw_tbl := fun w h => tbT w (List.mem_append_right _ (List.mem_append_right _ (List.mem_append_left _ h)))
theorem tb4 : ∀ w ∈ tables_1_4, w ∈ lw_tbl := fun w h => tbT w (List.mem_append_right _ (List.mem_append_right _ (List.mem_append_right _ (List.mem_append_left _ h))))
theorem tb5 : ∀ w ∈ tables_1_5, w ∈ lw_tbl := fun w h => tbT w (List.mem_append_right _ (List.mem_append_right _ (List.mem_append_right _ (List.mem_append_right _ (List.mem_append_left _ h)))))
theorem tb6 : ∀ w ∈ tables_1_6, w ∈ lw_tbl := fun w h => tbT w (List.mem_append_right _ (List.mem_append_right _ (List.mem_append_right _ (List.mem_append_right _ (List.mem_append_right _ (List.mem_append_left _ h))))))
theorem tb7 : ∀ w ∈ tables_1_7, w ∈ lw_tbl := fun w h => tbT w (List.mem_append_right _ (List.mem_append_right _ (List.mem_append_right _ (List.mem_append_right _ (List.mem_append_right _ (List.mem_append_right _ (List.mem_append_left _ h)))))))
theorem tb8 : ∀ w ∈ tables_1_8, w ∈ lw_tbl := fun w h => tbT w (List.mem_append_right _ (List.mem_append_right _ (List.mem_append_right _ (List.mem_append_right _ (List.mem_append_right _ (List.mem_append_right _ (List.mem_append_right _ (h))))))))
theorem zite_pos {p : Prop} [Decidable p] {a b : Prop} (h : p) (x : a) : if p then a else b := by rw [if_pos h]; exact x
theorem zite_neg {p : Prop} [Decidable p] {a b : Prop} (h : ¬ p) (x : b) : if p then a else b := by rw [if_neg h]; exact x
def zFn : List (List Bool) := [[false, true, true, false], [false, false, true, true, true, true, true, true, false, false, false, false, false, false, false, false, false], [false, false, false, false, true, true, true, true, true, true], [false, true, true, true], [true, true, true, true], [true, true, true, false, false, true, true, false, false, false, false], [true, true, true], [false, true, true], [true, false], [true, true, true, true, true, false, false], [false, true], [true, true, true, true, true, true, true, true], [true, true, false, false, false, false, false, false, false, true, false, false, false, false, false, false, false, true, true, true, false, true, true, true, false, false, false, false, false, false, false, false, false, false, true, true, true, true, true, true, false, true, false]]
theorem inT0 : ∀ w ∈ u_ws RX0 TX0 4, w ∈ zT := fun w hw => zT_mem (inX0 w hw) (List.all_eq_true.mp (show (u_ws RX0 TX0 4).all goodWord = true by decide +kernel) w hw)
theorem inT1 : ∀ w ∈ u_ws RX1 TX1 17, w ∈ zT := fun w hw => zT_mem (inX1 w hw) (List.all_eq_true.mp (show (u_ws RX1 TX1 17).all goodWord = true by decide +kernel) w hw)
theorem inT2 : ∀ w ∈ u_ws RX2 TX2 10, w ∈ zT := fun w hw => zT_mem (inX2 w hw) (List.all_eq_true.mp (show (u_ws RX2 TX2 10).all goodWord = true by decide +kernel) w hw)
theorem inT3 : ∀ w ∈ u_ws RX3 TX3 4, w ∈ zT := fun w hw => zT_mem (inX3 w hw) (List.all_eq_true.mp (show (u_ws RX3 TX3 4).all goodWord = true by decide +kernel) w hw)
theorem inT4 : ∀ w ∈ u_ws RX4 TX4 4, w ∈ zT := fun w hw => zT_mem (inX4 w hw) (List.all_eq_true.mp (show (u_ws RX4 TX4 4).all goodWord = true by decide +kernel) w hw)
theorem inT5 : ∀ w ∈ u_ws RX5 TX5 11, w ∈ zT := fun w hw => zT_mem (inX5 w hw) (List.all_eq_true.mp (show (u_ws RX5 TX5 11).all goodWord = true by decide +kernel) w hw)
theorem inT6 : ∀ w ∈ u_ws RX6 TX6 3, w ∈ zT := fun w hw => zT_mem (inX6 w hw) (List.all_eq_true.mp (show (u_ws RX6 TX6 3).all goodWord = true by decide +kernel) w hw)
theorem inT7 : ∀ w ∈ u_ws RX7 TX7 3, w ∈ zT := fun w hw => zT_mem (inX7 w hw) (List.all_eq_true.mp (show (u_ws RX7 TX7 3).all goodWord = true by decide +kernel) w hw)
theorem inT8 : ∀ w ∈ u_ws RX8 TX8 2, w ∈ zT := fun w hw => zT_mem (inX8 w hw) (List.all_eq_true.mp (show (u_ws RX8 TX8 2).all goodWord = true by decide +kernel) w hw)
theorem inT9 : ∀ w ∈ u_ws RX9 TX9 7, w ∈ zT := fun w hw => zT_mem (inX9 w hw) (List.all_eq_true.mp (show (u_ws RX9 TX9 7).all goodWord = true by decide +kernel) w hw)
theorem inT10 : ∀ w ∈ u_ws RX10 TX10 2, w ∈ zT := fun w hw => zT_mem (inX10 w hw) (List.all_eq_true.mp (show (u_ws RX10 TX10 2).all goodWord = true by decide +kernel) w hw)
theorem inT11 : ∀ w ∈ u_ws RX11 TX11 8, w ∈ zT := fun w hw => zT_mem (inX11 w hw) (List.all_eq_true.mp (show (u_ws RX11 TX11 8).all goodWord = true by decide +kernel) w hw)
theorem inT12 : ∀ w ∈ u_ws RX12 TX12 43, w ∈ zT := fun w hw => zT_mem (inX12 w hw) (List.all_eq_true.mp (show (u_ws RX12 TX12 43).all goodWord = true by decide +kernel) w hw)
set_option maxRecDepth 100000 in
theorem wd_0 : Cond.selects "ReedOracles" ⟨"ReedOracles", "numberFor", "(II)I"⟩ ⟨"ReedOracles", "numberFor", "(II)I"⟩ ∈ zT := zT_mem (tbS _ (List.mem_of_getElem? (l := k2_sels lw_privs) (i := 0) rfl)) rfl
set_option maxRecDepth 100000 in
theorem wd_1 : Cond.selects "ReedOracles$Reader" ⟨"ReedOracles$Reader", "advance", "()V"⟩ ⟨"ReedOracles$Reader", "advance", "()V"⟩ ∈ zT := zT_mem (tbS _ (List.mem_of_getElem? (l := k2_sels lw_privs) (i := 1) rfl)) rfl
set_option maxRecDepth 100000 in
theorem wd_2 : Cond.selects "ReedOracles$Reader" ⟨"ReedOracles$Reader", "passWord", "()V"⟩ ⟨"ReedOracles$Reader", "passWord", "()V"⟩ ∈ zT := zT_mem (tbS _ (List.mem_of_getElem? (l := k2_sels lw_privs) (i := 2) rfl)) rfl
set_option maxRecDepth 100000 in
theorem wd_3 : Cond.selects "ReedOracles$Reader" ⟨"ReedOracles$Reader", "passNumber", "()V"⟩ ⟨"ReedOracles$Reader", "passNumber", "()V"⟩ ∈ zT := zT_mem (tbS _ (List.mem_of_getElem? (l := k2_sels lw_privs) (i := 3) rfl)) rfl
set_option maxRecDepth 100000 in
theorem wd_4 : Cond.selects "ReedOracles$Reader" ⟨"ReedOracles$Reader", "readLine", "(I)Z"⟩ ⟨"ReedOracles$Reader", "readLine", "(I)Z"⟩ ∈ zT := zT_mem (tbS _ (List.mem_of_getElem? (l := k2_sels lw_privs) (i := 4) rfl)) rfl
set_option maxRecDepth 100000 in
theorem wd_5 : Cond.selects "ReedOracles$Reader" ⟨"ReedOracles$Reader", "lineOf", "(I)I"⟩ ⟨"ReedOracles$Reader", "lineOf", "(I)I"⟩ ∈ zT := zT_mem (tbS _ (List.mem_of_getElem? (l := k2_sels lw_privs) (i := 5) rfl)) rfl
set_option maxRecDepth 100000 in
theorem wd_6 : Cond.selects "ReedOracles$Reader" ⟨"ReedOracles$Reader", "duchyLine", "()I"⟩ ⟨"ReedOracles$Reader", "duchyLine", "()I"⟩ ∈ zT := zT_mem (tbS _ (List.mem_of_getElem? (l := k2_sels lw_privs) (i := 6) rfl)) rfl
set_option maxRecDepth 100000 in
theorem wd_7 : Cond.selects "ReedOracles$Reader" ⟨"ReedOracles$Reader", "isWord", "(Ljava/lang/String;)Z"⟩ ⟨"ReedOracles$Reader", "isWord", "(Ljava/lang/String;)Z"⟩ ∈ zT := zT_mem (tbS _ (List.mem_of_getElem? (l := k2_sels lw_privs) (i := 7) rfl)) rfl
set_option maxRecDepth 100000 in
theorem wd_8 : Cond.selects "ReedOracles$Reader" ⟨"ReedOracles$Reader", "yearLine", "()I"⟩ ⟨"ReedOracles$Reader", "yearLine", "()I"⟩ ∈ zT := zT_mem (tbS _ (List.mem_of_getElem? (l := k2_sels lw_privs) (i := 8) rfl)) rfl
set_option maxRecDepth 100000 in
theorem wd_9 : Cond.selects "ReedOracles$Reader" ⟨"ReedOracles$Reader", "logLine", "()I"⟩ ⟨"ReedOracles$Reader", "logLine", "()I"⟩ ∈ zT := zT_mem (tbS _ (List.mem_of_getElem? (l := k2_sels lw_privs) (i := 9) rfl)) rfl
set_option maxRecDepth 100000 in
theorem wd_10 : Cond.selects "ReedOracles$Reader" ⟨"ReedOracles$Reader", "isFull", "(I)Z"⟩ ⟨"ReedOracles$Reader", "isFull", "(I)Z"⟩ ∈ zT := zT_mem (tbS _ (List.mem_of_getElem? (l := k2_sels lw_privs) (i := 10) rfl)) rfl
set_option maxRecDepth 100000 in
theorem wd_11 : Cond.selects "ReedOracles$Reader" ⟨"ReedOracles$Reader", "blame", "(I)V"⟩ ⟨"ReedOracles$Reader", "blame", "(I)V"⟩ ∈ zT := zT_mem (tbS _ (List.mem_of_getElem? (l := k2_sels lw_privs) (i := 11) rfl)) rfl
set_option maxRecDepth 100000 in
theorem wd_12 : Cond.selects "ReedOracles$Reader" ⟨"ReedOracles$Reader", "canBe", "(II)Z"⟩ ⟨"ReedOracles$Reader", "canBe", "(II)Z"⟩ ∈ zT := zT_mem (tbS _ (List.mem_of_getElem? (l := k2_sels lw_privs) (i := 12) rfl)) rfl
set_option maxRecDepth 100000 in
theorem wd_13 : Cond.selects "ReedOracles$Reader" ⟨"ReedOracles$Reader", "meaningHere", "()I"⟩ ⟨"ReedOracles$Reader", "meaningHere", "()I"⟩ ∈ zT := zT_mem (tbS _ (List.mem_of_getElem? (l := k2_sels lw_privs) (i := 13) rfl)) rfl
set_option maxRecDepth 100000 in
theorem wd_14 : Cond.selects "ReedOracles$Reader" ⟨"ReedOracles$Reader", "keep", "(II)V"⟩ ⟨"ReedOracles$Reader", "keep", "(II)V"⟩ ∈ zT := zT_mem (tbS _ (List.mem_of_getElem? (l := k2_sels lw_privs) (i := 14) rfl)) rfl
set_option maxRecDepth 100000 in
theorem wd_15 : Cond.selects "ReedOracles$Duchy" ⟨"ReedOracles$Duchy", "headline", "(I)I"⟩ ⟨"ReedOracles$Duchy", "headline", "(I)I"⟩ ∈ zT := zT_mem (tbS _ (List.mem_of_getElem? (l := k2_sels lw_privs) (i := 15) rfl)) rfl
set_option maxRecDepth 100000 in
theorem wd_16 : Cond.selects "ReedOracles$Course" ⟨"ReedOracles$Course", "begin", "(LReedOracles$Duchy;)V"⟩ ⟨"ReedOracles$Course", "begin", "(LReedOracles$Duchy;)V"⟩ ∈ zT := zT_mem (tbS _ (List.mem_of_getElem? (l := k2_sels lw_privs) (i := 16) rfl)) rfl
set_option maxRecDepth 100000 in
theorem wd_17 : Cond.selects "ReedOracles$Course" ⟨"ReedOracles$Course", "apply", "(LReedOracles$Duchy;LReedOracles$Year;I)Z"⟩ ⟨"ReedOracles$Course", "apply", "(LReedOracles$Duchy;LReedOracles$Year;I)Z"⟩ ∈ zT := zT_mem (tbS _ (List.mem_of_getElem? (l := k2_sels lw_privs) (i := 17) rfl)) rfl
set_option maxRecDepth 100000 in
theorem wd_18 : Cond.selects "ReedOracles$Course" ⟨"ReedOracles$Course", "ask", "(LReedOracles$Duchy;III)Z"⟩ ⟨"ReedOracles$Course", "ask", "(LReedOracles$Duchy;III)Z"⟩ ∈ zT := zT_mem (tbS _ (List.mem_of_getElem? (l := k2_sels lw_privs) (i := 18) rfl)) rfl
set_option maxRecDepth 100000 in
theorem wd_19 : Cond.selects "ReedOracles$Course" ⟨"ReedOracles$Course", "isSound", "(LReedOracles$Duchy;I)Z"⟩ ⟨"ReedOracles$Course", "isSound", "(LReedOracles$Duchy;I)Z"⟩ ∈ zT := zT_mem (tbS _ (List.mem_of_getElem? (l := k2_sels lw_privs) (i := 19) rfl)) rfl
set_option maxRecDepth 100000 in
theorem wd_20 : Cond.selects "ReedOracles$Course" ⟨"ReedOracles$Course", "mayPlay", "(LReedOracles$Duchy;I)Z"⟩ ⟨"ReedOracles$Course", "mayPlay", "(LReedOracles$Duchy;I)Z"⟩ ∈ zT := zT_mem (tbS _ (List.mem_of_getElem? (l := k2_sels lw_privs) (i := 20) rfl)) rfl
set_option maxRecDepth 100000 in
theorem wd_21 : Cond.selects "ReedOracles$Course" ⟨"ReedOracles$Course", "blow", "(LReedOracles$Duchy;III)I"⟩ ⟨"ReedOracles$Course", "blow", "(LReedOracles$Duchy;III)I"⟩ ∈ zT := zT_mem (tbS _ (List.mem_of_getElem? (l := k2_sels lw_privs) (i := 21) rfl)) rfl
set_option maxRecDepth 100000 in
theorem wd_22 : Cond.selects "ReedOracles$Course" ⟨"ReedOracles$Course", "crack", "(I)V"⟩ ⟨"ReedOracles$Course", "crack", "(I)V"⟩ ∈ zT := zT_mem (tbS _ (List.mem_of_getElem? (l := k2_sels lw_privs) (i := 22) rfl)) rfl
set_option maxRecDepth 100000 in
theorem wd_23 : Cond.selects "ReedOracles$Course" ⟨"ReedOracles$Course", "duet", "(LReedOracles$Duchy;LReedOracles$Year;I)Z"⟩ ⟨"ReedOracles$Course", "duet", "(LReedOracles$Duchy;LReedOracles$Year;I)Z"⟩ ∈ zT := zT_mem (tbS _ (List.mem_of_getElem? (l := k2_sels lw_privs) (i := 23) rfl)) rfl
set_option maxRecDepth 100000 in
theorem wd_24 : Cond.selects "ReedOracles$Course" ⟨"ReedOracles$Course", "moisten", "(LReedOracles$Duchy;I)Z"⟩ ⟨"ReedOracles$Course", "moisten", "(LReedOracles$Duchy;I)Z"⟩ ∈ zT := zT_mem (tbS _ (List.mem_of_getElem? (l := k2_sels lw_privs) (i := 24) rfl)) rfl
set_option maxRecDepth 100000 in
theorem wd_25 : Cond.selects "ReedOracles$Course" ⟨"ReedOracles$Course", "trim", "(LReedOracles$Duchy;I)Z"⟩ ⟨"ReedOracles$Course", "trim", "(LReedOracles$Duchy;I)Z"⟩ ∈ zT := zT_mem (tbS _ (List.mem_of_getElem? (l := k2_sels lw_privs) (i := 25) rfl)) rfl
set_option maxRecDepth 100000 in
theorem wd_26 : Cond.selects "ReedOracles$Course" ⟨"ReedOracles$Course", "sleep", "(LReedOracles$Duchy;)V"⟩ ⟨"ReedOracles$Course", "sleep", "(LReedOracles$Duchy;)V"⟩ ∈ zT := zT_mem (tbS _ (List.mem_of_getElem? (l := k2_sels lw_privs) (i := 26) rfl)) rfl
set_option maxRecDepth 100000 in
theorem wd_27 : Cond.selects "ReedOracles$Course" ⟨"ReedOracles$Course", "headline", "(I)I"⟩ ⟨"ReedOracles$Course", "headline", "(I)I"⟩ ∈ zT := zT_mem (tbS _ (List.mem_of_getElem? (l := k2_sels lw_privs) (i := 27) rfl)) rfl
set_option maxRecDepth 100000 in
theorem wd_28 : Cond.selects "ReedOracles$Acts" ⟨"ReedOracles$Acts", "stepsTo", "(I)I"⟩ ⟨"ReedOracles$Acts", "stepsTo", "(I)I"⟩ ∈ zT := zT_mem (tbS _ (List.mem_of_getElem? (l := k2_sels lw_privs) (i := 28) rfl)) rfl
set_option maxRecDepth 100000 in
theorem wd_29 : Cond.selects "ReedOracles$Acts" ⟨"ReedOracles$Acts", "spread", "(II)I"⟩ ⟨"ReedOracles$Acts", "spread", "(II)I"⟩ ∈ zT := zT_mem (tbS _ (List.mem_of_getElem? (l := k2_sels lw_privs) (i := 29) rfl)) rfl
set_option maxRecDepth 100000 in
theorem wd_30 : Cond.selects "ReedOracles$Plans" ⟨"ReedOracles$Plans", "bestShare", "(II)I"⟩ ⟨"ReedOracles$Plans", "bestShare", "(II)I"⟩ ∈ zT := zT_mem (tbS _ (List.mem_of_getElem? (l := k2_sels lw_privs) (i := 30) rfl)) rfl
set_option maxRecDepth 100000 in
theorem wd_31 : Cond.selects "ReedOracles$Plans" ⟨"ReedOracles$Plans", "shareBy", "(III)I"⟩ ⟨"ReedOracles$Plans", "shareBy", "(III)I"⟩ ∈ zT := zT_mem (tbS _ (List.mem_of_getElem? (l := k2_sels lw_privs) (i := 31) rfl)) rfl
set_option maxRecDepth 100000 in
theorem wd_32 : Cond.selects "ReedOracles$Plans" ⟨"ReedOracles$Plans", "firstShare", "(LReedOracles$Duchy;II)I"⟩ ⟨"ReedOracles$Plans", "firstShare", "(LReedOracles$Duchy;II)I"⟩ ∈ zT := zT_mem (tbS _ (List.mem_of_getElem? (l := k2_sels lw_privs) (i := 32) rfl)) rfl
set_option maxRecDepth 100000 in
theorem wd_33 : Cond.selects "ReedOracles$Plans" ⟨"ReedOracles$Plans", "findLost", "(LReedOracles$Duchy;II)V"⟩ ⟨"ReedOracles$Plans", "findLost", "(LReedOracles$Duchy;II)V"⟩ ∈ zT := zT_mem (tbS _ (List.mem_of_getElem? (l := k2_sels lw_privs) (i := 33) rfl)) rfl
set_option maxRecDepth 100000 in
theorem wd_34 : Cond.selects "ReedOracles$Plans" ⟨"ReedOracles$Plans", "dareWorth", "(II)I"⟩ ⟨"ReedOracles$Plans", "dareWorth", "(II)I"⟩ ∈ zT := zT_mem (tbS _ (List.mem_of_getElem? (l := k2_sels lw_privs) (i := 34) rfl)) rfl
set_option maxRecDepth 100000 in
theorem wd_35 : Cond.selects "ReedOracles$Plans" ⟨"ReedOracles$Plans", "isLost", "(II)Z"⟩ ⟨"ReedOracles$Plans", "isLost", "(II)Z"⟩ ∈ zT := zT_mem (tbS _ (List.mem_of_getElem? (l := k2_sels lw_privs) (i := 35) rfl)) rfl
set_option maxRecDepth 100000 in
theorem wd_36 : Cond.selects "ReedOracles$Survey" ⟨"ReedOracles$Survey", "addNote", "(I)V"⟩ ⟨"ReedOracles$Survey", "addNote", "(I)V"⟩ ∈ zT := zT_mem (tbS _ (List.mem_of_getElem? (l := k2_sels lw_privs) (i := 36) rfl)) rfl
set_option maxRecDepth 100000 in
theorem wd_37 : Cond.selects "ReedOracles$Suspects" ⟨"ReedOracles$Suspects", "greatestHeap", "(LReedOracles$Duchy;III)I"⟩ ⟨"ReedOracles$Suspects", "greatestHeap", "(LReedOracles$Duchy;III)I"⟩ ∈ zT := zT_mem (tbS _ (List.mem_of_getElem? (l := k2_sels lw_privs) (i := 37) rfl)) rfl
set_option maxRecDepth 100000 in
theorem wd_38 : Cond.selects "ReedOracles$Suspects" ⟨"ReedOracles$Suspects", "nextNote", "(LReedOracles$Duchy;IIII)I"⟩ ⟨"ReedOracles$Suspects", "nextNote", "(LReedOracles$Duchy;IIII)I"⟩ ∈ zT := zT_mem (tbS _ (List.mem_of_getElem? (l := k2_sels lw_privs) (i := 38) rfl)) rfl
set_option maxRecDepth 100000 in
theorem wd_39 : Cond.selects "ReedOracles$Course" ⟨"ReedOracles$Course", "drawDeed", "(LReedOracles$Duchy;)V"⟩ ⟨"ReedOracles$Course", "drawDeed", "(LReedOracles$Duchy;)V"⟩ ∈ zT := zT_mem (tbS _ (List.mem_of_getElem? (l := k2_sels lw_privs) (i := 39) rfl)) rfl
set_option maxRecDepth 100000 in
theorem wd_40 : Cond.selects "ReedOracles$Course" ⟨"ReedOracles$Course", "below", "(I)I"⟩ ⟨"ReedOracles$Course", "below", "(I)I"⟩ ∈ zT := zT_mem (tbS _ (List.mem_of_getElem? (l := k2_sels lw_privs) (i := 40) rfl)) rfl
set_option maxRecDepth 100000 in
theorem wd_41 : Cond.selects "ReedOracles$Plans" ⟨"ReedOracles$Plans", "programWorth", "(II)I"⟩ ⟨"ReedOracles$Plans", "programWorth", "(II)I"⟩ ∈ zT := zT_mem (tbS _ (List.mem_of_getElem? (l := k2_sels lw_privs) (i := 41) rfl)) rfl
set_option maxRecDepth 100000 in
theorem wd_42 : Cond.selects "ReedOracles$Plans" ⟨"ReedOracles$Plans", "firstProgram", "(LReedOracles$Duchy;I)I"⟩ ⟨"ReedOracles$Plans", "firstProgram", "(LReedOracles$Duchy;I)I"⟩ ∈ zT := zT_mem (tbS _ (List.mem_of_getElem? (l := k2_sels lw_privs) (i := 42) rfl)) rfl
set_option maxRecDepth 100000 in
theorem wd_43 : Cond.selects "ReedOracles$Survey" ⟨"ReedOracles$Survey", "heardQuestions", "(LReedOracles$Duchy;II)I"⟩ ⟨"ReedOracles$Survey", "heardQuestions", "(LReedOracles$Duchy;II)I"⟩ ∈ zT := zT_mem (tbS _ (List.mem_of_getElem? (l := k2_sels lw_privs) (i := 43) rfl)) rfl
set_option maxRecDepth 100000 in
theorem wd_44 : Cond.selects "ReedOracles$Survey" ⟨"ReedOracles$Survey", "unionOf", "(LReedOracles$Duchy;I)I"⟩ ⟨"ReedOracles$Survey", "unionOf", "(LReedOracles$Duchy;I)I"⟩ ∈ zT := zT_mem (tbS _ (List.mem_of_getElem? (l := k2_sels lw_privs) (i := 44) rfl)) rfl
set_option maxRecDepth 100000 in
theorem wd_45 : Cond.selects "ReedOracles$Survey" ⟨"ReedOracles$Survey", "foes", "(LReedOracles$Duchy;II)I"⟩ ⟨"ReedOracles$Survey", "foes", "(LReedOracles$Duchy;II)I"⟩ ∈ zT := zT_mem (tbS _ (List.mem_of_getElem? (l := k2_sels lw_privs) (i := 45) rfl)) rfl
set_option maxRecDepth 100000 in
theorem wd_46 : Cond.selects "ReedOracles$Survey" ⟨"ReedOracles$Survey", "partners", "(LReedOracles$Duchy;IIII)I"⟩ ⟨"ReedOracles$Survey", "partners", "(LReedOracles$Duchy;IIII)I"⟩ ∈ zT := zT_mem (tbS _ (List.mem_of_getElem? (l := k2_sels lw_privs) (i := 46) rfl)) rfl
set_option maxRecDepth 100000 in
theorem wd_47 : Cond.selects "ReedOracles$Survey" ⟨"ReedOracles$Survey", "mostHeard", "(LReedOracles$Duchy;II)I"⟩ ⟨"ReedOracles$Survey", "mostHeard", "(LReedOracles$Duchy;II)I"⟩ ∈ zT := zT_mem (tbS _ (List.mem_of_getElem? (l := k2_sels lw_privs) (i := 47) rfl)) rfl
set_option maxRecDepth 100000 in
theorem wd_48 : Cond.selects "ReedOraclesModel" ⟨"ReedOraclesModel", "isOf", "(II)Z"⟩ ⟨"ReedOraclesModel", "isOf", "(II)Z"⟩ ∈ zT := zT_mem (tbS _ (List.mem_of_getElem? (l := k2_sels lw_privs) (i := 48) rfl)) rfl
set_option maxRecDepth 100000 in
theorem wd_49 : Cond.selects "ReedOraclesModel" ⟨"ReedOraclesModel", "advance", "()V"⟩ ⟨"ReedOraclesModel", "advance", "()V"⟩ ∈ zT := zT_mem (tbS _ (List.mem_of_getElem? (l := k2_sels lw_privs) (i := 49) rfl)) rfl
set_option maxRecDepth 100000 in
theorem wd_50 : Cond.selects "ReedOraclesModel" ⟨"ReedOraclesModel", "byteAt", "(I)I"⟩ ⟨"ReedOraclesModel", "byteAt", "(I)I"⟩ ∈ zT := zT_mem (tbS _ (List.mem_of_getElem? (l := k2_sels lw_privs) (i := 50) rfl)) rfl
set_option maxRecDepth 100000 in
theorem wd_51 : Cond.selects "ReedOraclesModel" ⟨"ReedOraclesModel", "duchyLine", "()V"⟩ ⟨"ReedOraclesModel", "duchyLine", "()V"⟩ ∈ zT := zT_mem (tbS _ (List.mem_of_getElem? (l := k2_sels lw_privs) (i := 51) rfl)) rfl
set_option maxRecDepth 100000 in
theorem wd_52 : Cond.selects "ReedOraclesModel" ⟨"ReedOraclesModel", "comes", "(I)Z"⟩ ⟨"ReedOraclesModel", "comes", "(I)Z"⟩ ∈ zT := zT_mem (tbS _ (List.mem_of_getElem? (l := k2_sels lw_privs) (i := 52) rfl)) rfl
set_option maxRecDepth 100000 in
theorem wd_53 : Cond.selects "ReedOraclesModel" ⟨"ReedOraclesModel", "numbered", "(II)I"⟩ ⟨"ReedOraclesModel", "numbered", "(II)I"⟩ ∈ zT := zT_mem (tbS _ (List.mem_of_getElem? (l := k2_sels lw_privs) (i := 53) rfl)) rfl
set_option maxRecDepth 100000 in
theorem wd_54 : Cond.selects "ReedOraclesModel" ⟨"ReedOraclesModel", "ends", "()V"⟩ ⟨"ReedOraclesModel", "ends", "()V"⟩ ∈ zT := zT_mem (tbS _ (List.mem_of_getElem? (l := k2_sels lw_privs) (i := 54) rfl)) rfl
set_option maxRecDepth 100000 in
theorem wd_55 : Cond.selects "ReedOraclesModel" ⟨"ReedOraclesModel", "also", "(II)V"⟩ ⟨"ReedOraclesModel", "also", "(II)V"⟩ ∈ zT := zT_mem (tbS _ (List.mem_of_getElem? (l := k2_sels lw_privs) (i := 55) rfl)) rfl
set_option maxRecDepth 100000 in
theorem wd_56 : Cond.selects "ReedOraclesModel" ⟨"ReedOraclesModel", "wordIn", "(II)I"⟩ ⟨"ReedOraclesModel", "wordIn", "(II)I"⟩ ∈ zT := zT_mem (tbS _ (List.mem_of_getElem? (l := k2_sels lw_privs) (i := 56) rfl)) rfl
set_option maxRecDepth 100000 in
theorem wd_57 : Cond.selects "ReedOraclesModel" ⟨"ReedOraclesModel", "pairTold", "(IIIIIII)V"⟩ ⟨"ReedOraclesModel", "pairTold", "(IIIIIII)V"⟩ ∈ zT := zT_mem (tbS _ (List.mem_of_getElem? (l := k2_sels lw_privs) (i := 57) rfl)) rfl
set_option maxRecDepth 100000 in
theorem wd_58 : Cond.selects "ReedOraclesModel" ⟨"ReedOraclesModel", "endsLine", "()V"⟩ ⟨"ReedOraclesModel", "endsLine", "()V"⟩ ∈ zT := zT_mem (tbS _ (List.mem_of_getElem? (l := k2_sels lw_privs) (i := 58) rfl)) rfl
set_option maxRecDepth 100000 in
theorem wd_59 : Cond.selects "ReedOraclesModel" ⟨"ReedOraclesModel", "yearLine", "()V"⟩ ⟨"ReedOraclesModel", "yearLine", "()V"⟩ ∈ zT := zT_mem (tbS _ (List.mem_of_getElem? (l := k2_sels lw_privs) (i := 59) rfl)) rfl
set_option maxRecDepth 100000 in
theorem wd_60 : Cond.selects "ReedOraclesModel" ⟨"ReedOraclesModel", "unlike", "(II)I"⟩ ⟨"ReedOraclesModel", "unlike", "(II)I"⟩ ∈ zT := zT_mem (tbS _ (List.mem_of_getElem? (l := k2_sels lw_privs) (i := 60) rfl)) rfl
set_option maxRecDepth 100000 in
theorem wd_61 : Cond.selects "ReedOraclesModel" ⟨"ReedOraclesModel", "logLine", "()V"⟩ ⟨"ReedOraclesModel", "logLine", "()V"⟩ ∈ zT := zT_mem (tbS _ (List.mem_of_getElem? (l := k2_sels lw_privs) (i := 61) rfl)) rfl
set_option maxRecDepth 100000 in
theorem wd_62 : Cond.selects "ReedOraclesModel" ⟨"ReedOraclesModel", "isDuchy", "(I)Z"⟩ ⟨"ReedOraclesModel", "isDuchy", "(I)Z"⟩ ∈ zT := zT_mem (tbS _ (List.mem_of_getElem? (l := k2_sels lw_privs) (i := 62) rfl)) rfl
set_option maxRecDepth 100000 in
theorem wd_63 : Cond.selects "ReedOraclesModel" ⟨"ReedOraclesModel", "isReed", "(I)Z"⟩ ⟨"ReedOraclesModel", "isReed", "(I)Z"⟩ ∈ zT := zT_mem (tbS _ (List.mem_of_getElem? (l := k2_sels lw_privs) (i := 63) rfl)) rfl
set_option maxRecDepth 100000 in
theorem wd_64 : Cond.selects "ReedOraclesModel" ⟨"ReedOraclesModel", "wetOf", "(I)I"⟩ ⟨"ReedOraclesModel", "wetOf", "(I)I"⟩ ∈ zT := zT_mem (tbS _ (List.mem_of_getElem? (l := k2_sels lw_privs) (i := 64) rfl)) rfl
set_option maxRecDepth 100000 in
theorem wd_65 : Cond.selects "ReedOraclesModel" ⟨"ReedOraclesModel", "keyOf", "(I)I"⟩ ⟨"ReedOraclesModel", "keyOf", "(I)I"⟩ ∈ zT := zT_mem (tbS _ (List.mem_of_getElem? (l := k2_sels lw_privs) (i := 65) rfl)) rfl
set_option maxRecDepth 100000 in
theorem wd_66 : Cond.selects "ReedOraclesModel" ⟨"ReedOraclesModel", "isPlayer", "(I)Z"⟩ ⟨"ReedOraclesModel", "isPlayer", "(I)Z"⟩ ∈ zT := zT_mem (tbS _ (List.mem_of_getElem? (l := k2_sels lw_privs) (i := 66) rfl)) rfl
set_option maxRecDepth 100000 in
theorem wd_67 : Cond.selects "ReedOraclesModel" ⟨"ReedOraclesModel", "breathOf", "(I)I"⟩ ⟨"ReedOraclesModel", "breathOf", "(I)I"⟩ ∈ zT := zT_mem (tbS _ (List.mem_of_getElem? (l := k2_sels lw_privs) (i := 67) rfl)) rfl
set_option maxRecDepth 100000 in
theorem wd_68 : Cond.selects "ReedOraclesModel" ⟨"ReedOraclesModel", "isQuestion", "(I)Z"⟩ ⟨"ReedOraclesModel", "isQuestion", "(I)Z"⟩ ∈ zT := zT_mem (tbS _ (List.mem_of_getElem? (l := k2_sels lw_privs) (i := 68) rfl)) rfl
set_option maxRecDepth 100000 in
theorem wd_69 : Cond.selects "ReedOraclesModel" ⟨"ReedOraclesModel", "depthOf", "(I)I"⟩ ⟨"ReedOraclesModel", "depthOf", "(I)I"⟩ ∈ zT := zT_mem (tbS _ (List.mem_of_getElem? (l := k2_sels lw_privs) (i := 69) rfl)) rfl
set_option maxRecDepth 100000 in
theorem wd_70 : Cond.selects "ReedOraclesModel" ⟨"ReedOraclesModel", "kindOf", "(I)I"⟩ ⟨"ReedOraclesModel", "kindOf", "(I)I"⟩ ∈ zT := zT_mem (tbS _ (List.mem_of_getElem? (l := k2_sels lw_privs) (i := 70) rfl)) rfl
set_option maxRecDepth 100000 in
theorem wd_71 : Cond.selects "ReedOraclesModel" ⟨"ReedOraclesModel", "areThree", "(IIII)Z"⟩ ⟨"ReedOraclesModel", "areThree", "(IIII)Z"⟩ ∈ zT := zT_mem (tbS _ (List.mem_of_getElem? (l := k2_sels lw_privs) (i := 71) rfl)) rfl
set_option maxRecDepth 100000 in
theorem wd_72 : Cond.selects "ReedOraclesModel" ⟨"ReedOraclesModel", "lays", "(I)V"⟩ ⟨"ReedOraclesModel", "lays", "(I)V"⟩ ∈ zT := zT_mem (tbS _ (List.mem_of_getElem? (l := k2_sels lw_privs) (i := 72) rfl)) rfl
set_option maxRecDepth 100000 in
theorem wd_73 : Cond.selects "ReedOraclesModel" ⟨"ReedOraclesModel", "answerOf", "(II)I"⟩ ⟨"ReedOraclesModel", "answerOf", "(II)I"⟩ ∈ zT := zT_mem (tbS _ (List.mem_of_getElem? (l := k2_sels lw_privs) (i := 73) rfl)) rfl
set_option maxRecDepth 100000 in
theorem wd_74 : Cond.selects "ReedOraclesModel" ⟨"ReedOraclesModel", "noteOf", "(II)I"⟩ ⟨"ReedOraclesModel", "noteOf", "(II)I"⟩ ∈ zT := zT_mem (tbS _ (List.mem_of_getElem? (l := k2_sels lw_privs) (i := 74) rfl)) rfl
set_option maxRecDepth 100000 in
theorem wd_75 : Cond.selects "ReedOraclesModel" ⟨"ReedOraclesModel", "meant", "(I)I"⟩ ⟨"ReedOraclesModel", "meant", "(I)I"⟩ ∈ zT := zT_mem (tbS _ (List.mem_of_getElem? (l := k2_sels lw_privs) (i := 75) rfl)) rfl
set_option maxRecDepth 100000 in
theorem wd_76 : Cond.selects "ReedOraclesModel" ⟨"ReedOraclesModel", "laysActs", "(III)V"⟩ ⟨"ReedOraclesModel", "laysActs", "(III)V"⟩ ∈ zT := zT_mem (tbS _ (List.mem_of_getElem? (l := k2_sels lw_privs) (i := 76) rfl)) rfl
set_option maxRecDepth 100000 in
theorem wd_77 : Cond.selects "ReedOraclesModel" ⟨"ReedOraclesModel", "isFree", "(II)Z"⟩ ⟨"ReedOraclesModel", "isFree", "(II)Z"⟩ ∈ zT := zT_mem (tbS _ (List.mem_of_getElem? (l := k2_sels lw_privs) (i := 77) rfl)) rfl
set_option maxRecDepth 100000 in
theorem wd_78 : Cond.selects "ReedOraclesModel" ⟨"ReedOraclesModel", "favourBy", "(IIIII)I"⟩ ⟨"ReedOraclesModel", "favourBy", "(IIIII)I"⟩ ∈ zT := zT_mem (tbS _ (List.mem_of_getElem? (l := k2_sels lw_privs) (i := 78) rfl)) rfl
set_option maxRecDepth 100000 in
theorem wd_79 : Cond.selects "ReedOraclesModel" ⟨"ReedOraclesModel", "gains", "(IIII)I"⟩ ⟨"ReedOraclesModel", "gains", "(IIII)I"⟩ ∈ zT := zT_mem (tbS _ (List.mem_of_getElem? (l := k2_sels lw_privs) (i := 79) rfl)) rfl
set_option maxRecDepth 100000 in
theorem wd_80 : Cond.selects "ReedOraclesModel" ⟨"ReedOraclesModel", "laysDares", "(II)V"⟩ ⟨"ReedOraclesModel", "laysDares", "(II)V"⟩ ∈ zT := zT_mem (tbS _ (List.mem_of_getElem? (l := k2_sels lw_privs) (i := 80) rfl)) rfl
set_option maxRecDepth 100000 in
theorem wd_81 : Cond.selects "ReedOraclesModel" ⟨"ReedOraclesModel", "dries", "(II)V"⟩ ⟨"ReedOraclesModel", "dries", "(II)V"⟩ ∈ zT := zT_mem (tbS _ (List.mem_of_getElem? (l := k2_sels lw_privs) (i := 81) rfl)) rfl
set_option maxRecDepth 100000 in
theorem wd_82 : Cond.selects "ReedOraclesModel" ⟨"ReedOraclesModel", "isFine", "(IIII)Z"⟩ ⟨"ReedOraclesModel", "isFine", "(IIII)Z"⟩ ∈ zT := zT_mem (tbS _ (List.mem_of_getElem? (l := k2_sels lw_privs) (i := 82) rfl)) rfl
set_option maxRecDepth 100000 in
theorem wd_83 : Cond.selects "ReedOraclesModel" ⟨"ReedOraclesModel", "sounds", "(II)Z"⟩ ⟨"ReedOraclesModel", "sounds", "(II)Z"⟩ ∈ zT := zT_mem (tbS _ (List.mem_of_getElem? (l := k2_sels lw_privs) (i := 83) rfl)) rfl
set_option maxRecDepth 100000 in
theorem wd_84 : Cond.selects "ReedOraclesModel" ⟨"ReedOraclesModel", "isPeace", "(II)Z"⟩ ⟨"ReedOraclesModel", "isPeace", "(II)Z"⟩ ∈ zT := zT_mem (tbS _ (List.mem_of_getElem? (l := k2_sels lw_privs) (i := 84) rfl)) rfl
set_option maxRecDepth 100000 in
theorem wd_85 : Cond.selects "ReedOraclesModel" ⟨"ReedOraclesModel", "areApart", "(III)Z"⟩ ⟨"ReedOraclesModel", "areApart", "(III)Z"⟩ ∈ zT := zT_mem (tbS _ (List.mem_of_getElem? (l := k2_sels lw_privs) (i := 85) rfl)) rfl
set_option maxRecDepth 100000 in
theorem wd_86 : Cond.selects "ReedOraclesModel" ⟨"ReedOraclesModel", "answerBy", "(III)I"⟩ ⟨"ReedOraclesModel", "answerBy", "(III)I"⟩ ∈ zT := zT_mem (tbS _ (List.mem_of_getElem? (l := k2_sels lw_privs) (i := 86) rfl)) rfl
set_option maxRecDepth 100000 in
theorem wd_87 : Cond.selects "ReedOraclesModel" ⟨"ReedOraclesModel", "noteByReed", "(III)I"⟩ ⟨"ReedOraclesModel", "noteByReed", "(III)I"⟩ ∈ zT := zT_mem (tbS _ (List.mem_of_getElem? (l := k2_sels lw_privs) (i := 87) rfl)) rfl
set_option maxRecDepth 100000 in
theorem wd_88 : Cond.selects "ReedOraclesModel" ⟨"ReedOraclesModel", "areTwins", "(II)Z"⟩ ⟨"ReedOraclesModel", "areTwins", "(II)Z"⟩ ∈ zT := zT_mem (tbS _ (List.mem_of_getElem? (l := k2_sels lw_privs) (i := 88) rfl)) rfl
set_option maxRecDepth 100000 in
theorem wd_89 : Cond.selects "ReedOraclesModel" ⟨"ReedOraclesModel", "cutsTo", "(I)I"⟩ ⟨"ReedOraclesModel", "cutsTo", "(I)I"⟩ ∈ zT := zT_mem (tbS _ (List.mem_of_getElem? (l := k2_sels lw_privs) (i := 89) rfl)) rfl
set_option maxRecDepth 100000 in
theorem wd_90 : Cond.selects "ReedOraclesModel" ⟨"ReedOraclesModel", "asksAround", "()Z"⟩ ⟨"ReedOraclesModel", "asksAround", "()Z"⟩ ∈ zT := zT_mem (tbS _ (List.mem_of_getElem? (l := k2_sels lw_privs) (i := 90) rfl)) rfl
set_option maxRecDepth 100000 in
theorem wd_91 : Cond.selects "ReedOraclesModel" ⟨"ReedOraclesModel", "hasAny", "(I)Z"⟩ ⟨"ReedOraclesModel", "hasAny", "(I)Z"⟩ ∈ zT := zT_mem (tbS _ (List.mem_of_getElem? (l := k2_sels lw_privs) (i := 91) rfl)) rfl
set_option maxRecDepth 100000 in
theorem wd_92 : Cond.selects "ReedOraclesModel" ⟨"ReedOraclesModel", "wishOf", "(I)I"⟩ ⟨"ReedOraclesModel", "wishOf", "(I)I"⟩ ∈ zT := zT_mem (tbS _ (List.mem_of_getElem? (l := k2_sels lw_privs) (i := 92) rfl)) rfl
set_option maxRecDepth 100000 in
theorem wd_93 : Cond.selects "ReedOraclesModel" ⟨"ReedOraclesModel", "soundsBy", "(II)I"⟩ ⟨"ReedOraclesModel", "soundsBy", "(II)I"⟩ ∈ zT := zT_mem (tbS _ (List.mem_of_getElem? (l := k2_sels lw_privs) (i := 93) rfl)) rfl
set_option maxRecDepth 100000 in
theorem wd_94 : Cond.selects "ReedOraclesModel" ⟨"ReedOraclesModel", "clearBy", "(II)I"⟩ ⟨"ReedOraclesModel", "clearBy", "(II)I"⟩ ∈ zT := zT_mem (tbS _ (List.mem_of_getElem? (l := k2_sels lw_privs) (i := 94) rfl)) rfl
set_option maxRecDepth 100000 in
theorem wd_95 : Cond.selects "ReedOraclesModel" ⟨"ReedOraclesModel", "fairBy", "(II)I"⟩ ⟨"ReedOraclesModel", "fairBy", "(II)I"⟩ ∈ zT := zT_mem (tbS _ (List.mem_of_getElem? (l := k2_sels lw_privs) (i := 95) rfl)) rfl
set_option maxRecDepth 100000 in
theorem wd_96 : Cond.selects "ReedOraclesModel" ⟨"ReedOraclesModel", "isYear", "(I)Z"⟩ ⟨"ReedOraclesModel", "isYear", "(I)Z"⟩ ∈ zT := zT_mem (tbS _ (List.mem_of_getElem? (l := k2_sels lw_privs) (i := 96) rfl)) rfl
set_option maxRecDepth 100000 in
theorem wd_97 : Cond.selects "ReedOraclesModel" ⟨"ReedOraclesModel", "runs", "(I)V"⟩ ⟨"ReedOraclesModel", "runs", "(I)V"⟩ ∈ zT := zT_mem (tbS _ (List.mem_of_getElem? (l := k2_sels lw_privs) (i := 97) rfl)) rfl
set_option maxRecDepth 100000 in
theorem wd_98 : Cond.selects "ReedOraclesModel" ⟨"ReedOraclesModel", "begins", "()V"⟩ ⟨"ReedOraclesModel", "begins", "()V"⟩ ∈ zT := zT_mem (tbS _ (List.mem_of_getElem? (l := k2_sels lw_privs) (i := 98) rfl)) rfl
set_option maxRecDepth 100000 in
theorem wd_99 : Cond.selects "ReedOraclesModel" ⟨"ReedOraclesModel", "doesTold", "(I)Z"⟩ ⟨"ReedOraclesModel", "doesTold", "(I)Z"⟩ ∈ zT := zT_mem (tbS _ (List.mem_of_getElem? (l := k2_sels lw_privs) (i := 99) rfl)) rfl
set_option maxRecDepth 100000 in
theorem wd_100 : Cond.selects "ReedOraclesModel" ⟨"ReedOraclesModel", "does", "(IIIIII)Z"⟩ ⟨"ReedOraclesModel", "does", "(IIIIII)Z"⟩ ∈ zT := zT_mem (tbS _ (List.mem_of_getElem? (l := k2_sels lw_privs) (i := 100) rfl)) rfl
set_option maxRecDepth 100000 in
theorem wd_101 : Cond.selects "ReedOraclesModel" ⟨"ReedOraclesModel", "asks", "(III)Z"⟩ ⟨"ReedOraclesModel", "asks", "(III)Z"⟩ ∈ zT := zT_mem (tbS _ (List.mem_of_getElem? (l := k2_sels lw_privs) (i := 101) rfl)) rfl
set_option maxRecDepth 100000 in
theorem wd_102 : Cond.selects "ReedOraclesModel" ⟨"ReedOraclesModel", "isWhole", "(I)Z"⟩ ⟨"ReedOraclesModel", "isWhole", "(I)Z"⟩ ∈ zT := zT_mem (tbS _ (List.mem_of_getElem? (l := k2_sels lw_privs) (i := 102) rfl)) rfl
set_option maxRecDepth 100000 in
theorem wd_103 : Cond.selects "ReedOraclesModel" ⟨"ReedOraclesModel", "mayPlay", "(I)Z"⟩ ⟨"ReedOraclesModel", "mayPlay", "(I)Z"⟩ ∈ zT := zT_mem (tbS _ (List.mem_of_getElem? (l := k2_sels lw_privs) (i := 103) rfl)) rfl
set_option maxRecDepth 100000 in
theorem wd_104 : Cond.selects "ReedOraclesModel" ⟨"ReedOraclesModel", "plays", "(III)I"⟩ ⟨"ReedOraclesModel", "plays", "(III)I"⟩ ∈ zT := zT_mem (tbS _ (List.mem_of_getElem? (l := k2_sels lw_privs) (i := 104) rfl)) rfl
set_option maxRecDepth 100000 in
theorem wd_105 : Cond.selects "ReedOraclesModel" ⟨"ReedOraclesModel", "duets", "(IIIII)Z"⟩ ⟨"ReedOraclesModel", "duets", "(IIIII)Z"⟩ ∈ zT := zT_mem (tbS _ (List.mem_of_getElem? (l := k2_sels lw_privs) (i := 105) rfl)) rfl
set_option maxRecDepth 100000 in
theorem wd_106 : Cond.selects "ReedOraclesModel" ⟨"ReedOraclesModel", "treats", "(IZ)Z"⟩ ⟨"ReedOraclesModel", "treats", "(IZ)Z"⟩ ∈ zT := zT_mem (tbS _ (List.mem_of_getElem? (l := k2_sels lw_privs) (i := 106) rfl)) rfl
set_option maxRecDepth 100000 in
theorem wd_107 : Cond.selects "ReedOraclesModel" ⟨"ReedOraclesModel", "sleeps", "()Z"⟩ ⟨"ReedOraclesModel", "sleeps", "()Z"⟩ ∈ zT := zT_mem (tbS _ (List.mem_of_getElem? (l := k2_sels lw_privs) (i := 107) rfl)) rfl
set_option maxRecDepth 100000 in
theorem wd_108 : Cond.selects "ReedOraclesModel" ⟨"ReedOraclesModel", "nowOf", "(I)I"⟩ ⟨"ReedOraclesModel", "nowOf", "(I)I"⟩ ∈ zT := zT_mem (tbS _ (List.mem_of_getElem? (l := k2_sels lw_privs) (i := 108) rfl)) rfl
set_option maxRecDepth 100000 in
theorem wd_109 : Cond.selects "ReedOraclesModel" ⟨"ReedOraclesModel", "isLog", "(I)Z"⟩ ⟨"ReedOraclesModel", "isLog", "(I)Z"⟩ ∈ zT := zT_mem (tbS _ (List.mem_of_getElem? (l := k2_sels lw_privs) (i := 109) rfl)) rfl
set_option maxRecDepth 100000 in
theorem wd_110 : Cond.selects "ReedOraclesModel" ⟨"ReedOraclesModel", "areThere", "()Z"⟩ ⟨"ReedOraclesModel", "areThere", "()Z"⟩ ∈ zT := zT_mem (tbS _ (List.mem_of_getElem? (l := k2_sels lw_privs) (i := 110) rfl)) rfl
set_option maxRecDepth 100000 in
theorem wd_111 : Cond.selects "ReedOraclesModel" ⟨"ReedOraclesModel", "isSo", "(I)Z"⟩ ⟨"ReedOraclesModel", "isSo", "(I)Z"⟩ ∈ zT := zT_mem (tbS _ (List.mem_of_getElem? (l := k2_sels lw_privs) (i := 111) rfl)) rfl
set_option maxRecDepth 100000 in
theorem wd_112 : Cond.selects "ReedOraclesModel" ⟨"ReedOraclesModel", "noteBy", "(IIII)I"⟩ ⟨"ReedOraclesModel", "noteBy", "(IIII)I"⟩ ∈ zT := zT_mem (tbS _ (List.mem_of_getElem? (l := k2_sels lw_privs) (i := 112) rfl)) rfl
set_option maxRecDepth 100000 in
theorem wd_113 : Cond.selects "ReedOraclesModel" ⟨"ReedOraclesModel", "whoseOf", "()I"⟩ ⟨"ReedOraclesModel", "whoseOf", "()I"⟩ ∈ zT := zT_mem (tbS _ (List.mem_of_getElem? (l := k2_sels lw_privs) (i := 113) rfl)) rfl
set_option maxRecDepth 100000 in
theorem wd_114 : Cond.selects "ReedOraclesModel" ⟨"ReedOraclesModel", "nextOf", "()I"⟩ ⟨"ReedOraclesModel", "nextOf", "()I"⟩ ∈ zT := zT_mem (tbS _ (List.mem_of_getElem? (l := k2_sels lw_privs) (i := 114) rfl)) rfl
set_option maxRecDepth 100000 in
theorem wd_115 : Cond.selects "ReedOraclesModel" ⟨"ReedOraclesModel", "greatestBy", "(II)I"⟩ ⟨"ReedOraclesModel", "greatestBy", "(II)I"⟩ ∈ zT := zT_mem (tbS _ (List.mem_of_getElem? (l := k2_sels lw_privs) (i := 115) rfl)) rfl
set_option maxRecDepth 100000 in
theorem wd_116 : Cond.selects "ReedOraclesModel" ⟨"ReedOraclesModel", "draws", "()V"⟩ ⟨"ReedOraclesModel", "draws", "()V"⟩ ∈ zT := zT_mem (tbS _ (List.mem_of_getElem? (l := k2_sels lw_privs) (i := 116) rfl)) rfl
set_option maxRecDepth 100000 in
theorem wd_117 : Cond.selects "ReedOraclesModel" ⟨"ReedOraclesModel", "below", "(I)I"⟩ ⟨"ReedOraclesModel", "below", "(I)I"⟩ ∈ zT := zT_mem (tbS _ (List.mem_of_getElem? (l := k2_sels lw_privs) (i := 117) rfl)) rfl
set_option maxRecDepth 100000 in
theorem wd_119 : (Jvm.Cond.initialized "ReedOracles") ∈ zT := zT_mem (tb1 _ (List.mem_of_getElem? (l := tables_1_1) (i := 1) rfl)) rfl
set_option maxRecDepth 100000 in
theorem wd_120 : (Jvm.Cond.initialized "ReedOracles$Told") ∈ zT := zT_mem (tb1 _ (List.mem_of_getElem? (l := tables_1_1) (i := 2) rfl)) rfl
set_option maxRecDepth 100000 in
theorem wd_121 : (Jvm.Cond.initialized "ReedOracles$Tape") ∈ zT := zT_mem (tb1 _ (List.mem_of_getElem? (l := tables_1_1) (i := 3) rfl)) rfl
set_option maxRecDepth 100000 in
theorem wd_122 : (Jvm.Cond.initialized "ReedOracles$Duchy") ∈ zT := zT_mem (tb1 _ (List.mem_of_getElem? (l := tables_1_1) (i := 4) rfl)) rfl
set_option maxRecDepth 100000 in
theorem wd_123 : (Jvm.Cond.initialized "ReedOracles$Year") ∈ zT := zT_mem (tb1 _ (List.mem_of_getElem? (l := tables_1_1) (i := 5) rfl)) rfl
set_option maxRecDepth 100000 in
theorem wd_124 : (Jvm.Cond.initialized "ReedOracles$Log") ∈ zT := zT_mem (tb1 _ (List.mem_of_getElem? (l := tables_1_1) (i := 6) rfl)) rfl
set_option maxRecDepth 100000 in
theorem wd_125 : (Jvm.Cond.initialized "ReedOracles$Reader") ∈ zT := zT_mem (tb1 _ (List.mem_of_getElem? (l := tables_1_1) (i := 7) rfl)) rfl
set_option maxRecDepth 100000 in
theorem wd_126 : (Jvm.Cond.initialized "ReedOracles$Course") ∈ zT := zT_mem (tb1 _ (List.mem_of_getElem? (l := tables_1_1) (i := 8) rfl)) rfl
set_option maxRecDepth 100000 in
theorem wd_127 : (Jvm.Cond.initialized "ReedOracles$Acts") ∈ zT := zT_mem (tb1 _ (List.mem_of_getElem? (l := tables_1_1) (i := 9) rfl)) rfl
set_option maxRecDepth 100000 in
theorem wd_128 : (Jvm.Cond.initialized "ReedOracles$Plans") ∈ zT := zT_mem (tb1 _ (List.mem_of_getElem? (l := tables_1_1) (i := 10) rfl)) rfl
set_option maxRecDepth 100000 in
theorem wd_129 : (Jvm.Cond.initialized "ReedOracles$Suspects") ∈ zT := zT_mem (tb1 _ (List.mem_of_getElem? (l := tables_1_1) (i := 11) rfl)) rfl
set_option maxRecDepth 100000 in
theorem wd_130 : (Jvm.Cond.initialized "ReedOracles$Survey") ∈ zT := zT_mem (tb1 _ (List.mem_of_getElem? (l := tables_1_1) (i := 12) rfl)) rfl
set_option maxRecDepth 100000 in
theorem wd_131 : (Jvm.Cond.initialized "ReedOraclesModel") ∈ zT := zT_mem (tb1 _ (List.mem_of_getElem? (l := tables_1_1) (i := 13) rfl)) rfl
set_option maxRecDepth 100000 in
theorem wd_136 : (Jvm.Cond.initialized "java/lang/System") ∈ zT := zT_mem (tb1 _ (List.mem_of_getElem? (l := tables_1_1) (i := 18) rfl)) rfl
set_option maxRecDepth 100000 in
theorem wd_137 : (Jvm.Cond.initialized "java/lang/Math") ∈ zT := zT_mem (tb1 _ (List.mem_of_getElem? (l := tables_1_1) (i := 19) rfl)) rfl
set_option maxRecDepth 100000 in
theorem wd_138 : (Jvm.Cond.initialized "java/util/Arrays") ∈ zT := zT_mem (tb1 _ (List.mem_of_getElem? (l := tables_1_1) (i := 20) rfl)) rfl
set_option maxRecDepth 100000 in
theorem wd_139 : (Jvm.Cond.initialized "java/lang/Integer") ∈ zT := zT_mem (tb1 _ (List.mem_of_getElem? (l := tables_1_1) (i := 21) rfl)) rfl
set_option maxRecDepth 100000 in
theorem wd_140 : (Jvm.Cond.classLink "ReedOraclesLaw" (7 : Nat) "ReedOracles") ∈ zT := zT_mem (tb1 _ (List.mem_of_getElem? (l := tables_1_1) (i := 22) rfl)) rfl
set_option maxRecDepth 100000 in
theorem wd_141 : (Jvm.Cond.instantiable "ReedOracles" (8 : Nat)) ∈ zT := zT_mem (tb1 _ (List.mem_of_getElem? (l := tables_1_1) (i := 23) rfl)) rfl
set_option maxRecDepth 100000 in
theorem wd_142 : (Jvm.Cond.methodLink "ReedOraclesLaw" (9 : Nat) ({ cls := "ReedOracles", name := "<init>", desc := "()V" } : Jvm.MethodName)) ∈ zT := zT_mem (tb1 _ (List.mem_of_getElem? (l := tables_1_1) (i := 24) rfl)) rfl
set_option maxRecDepth 100000 in
theorem wd_143 : (Jvm.Cond.instanceMethod ({ cls := "ReedOracles", name := "<init>", desc := "()V" } : Jvm.MethodName)) ∈ zT := zT_mem (tb1 _ (List.mem_of_getElem? (l := tables_1_1) (i := 25) rfl)) rfl
set_option maxRecDepth 100000 in
theorem wd_144 : (Jvm.Cond.code ({ cls := "ReedOracles", name := "<init>", desc := "()V" } : Jvm.MethodName) prog_1_method_1_code (1 : Nat) (Option.none : Option Jvm.ClassFile.FieldType)) ∈ zT := zT_mem (tb1 _ (List.mem_of_getElem? (l := tables_1_1) (i := 26) rfl)) rfl
set_option maxRecDepth 100000 in
theorem wd_145 : (Jvm.Cond.methodLink "ReedOracles" (1 : Nat) ({ cls := "java/lang/Object", name := "<init>", desc := "()V" } : Jvm.MethodName)) ∈ zT := zT_mem (tb1 _ (List.mem_of_getElem? (l := tables_1_1) (i := 27) rfl)) rfl
set_option maxRecDepth 100000 in
theorem wd_146 : (Jvm.Cond.instanceMethod ({ cls := "java/lang/Object", name := "<init>", desc := "()V" } : Jvm.MethodName)) ∈ zT := zT_mem (tb1 _ (List.mem_of_getElem? (l := tables_1_1) (i := 28) rfl)) rfl
set_option maxRecDepth 100000 in
theorem wd_147 : (Jvm.Cond.code ({ cls := "java/lang/Object", name := "<init>", desc := "()V" } : Jvm.MethodName) object_method_1_code (1 : Nat) (Option.none : Option Jvm.ClassFile.FieldType)) ∈ zT := zT_mem (tb1 _ (List.mem_of_getElem? (l := tables_1_1) (i := 29) rfl)) rfl
set_option maxRecDepth 100000 in
theorem wd_148 : (Jvm.Cond.classLink "ReedOracles" (7 : Nat) "ReedOracles$Told") ∈ zT := zT_mem (tb1 _ (List.mem_of_getElem? (l := tables_1_1) (i := 30) rfl)) rfl
set_option maxRecDepth 100000 in
theorem wd_149 : (Jvm.Cond.instantiable "ReedOracles$Told" (7 : Nat)) ∈ zT := zT_mem (tb1 _ (List.mem_of_getElem? (l := tables_1_1) (i := 31) rfl)) rfl
set_option maxRecDepth 100000 in
theorem wd_150 : (Jvm.Cond.methodLink "ReedOracles" (9 : Nat) ({ cls := "ReedOracles$Told", name := "<init>", desc := "()V" } : Jvm.MethodName)) ∈ zT := zT_mem (tb1 _ (List.mem_of_getElem? (l := tables_1_1) (i := 32) rfl)) rfl
set_option maxRecDepth 100000 in
theorem wd_151 : (Jvm.Cond.instanceMethod ({ cls := "ReedOracles$Told", name := "<init>", desc := "()V" } : Jvm.MethodName)) ∈ zT := zT_mem (tb1 _ (List.mem_of_getElem? (l := tables_1_1) (i := 33) rfl)) rfl
set_option maxRecDepth 100000 in
theorem wd_152 : (Jvm.Cond.code ({ cls := "ReedOracles$Told", name := "<init>", desc := "()V" } : Jvm.MethodName) prog_11_method_1_code (2 : Nat) (Option.none : Option Jvm.ClassFile.FieldType)) ∈ zT := zT_mem (tb1 _ (List.mem_of_getElem? (l := tables_1_1) (i := 34) rfl)) rfl
set_option maxRecDepth 100000 in
theorem wd_153 : (Jvm.Cond.methodLink "ReedOracles$Told" (3 : Nat) ({ cls := "java/lang/Object", name := "<init>", desc := "()V" } : Jvm.MethodName)) ∈ zT := zT_mem (tb1 _ (List.mem_of_getElem? (l := tables_1_1) (i := 35) rfl)) rfl
set_option maxRecDepth 100000 in
theorem wd_154 : (Jvm.Cond.classLink "ReedOracles$Told" (9 : Nat) "ReedOracles$Tape") ∈ zT := zT_mem (tb1 _ (List.mem_of_getElem? (l := tables_1_1) (i := 36) rfl)) rfl
set_option maxRecDepth 100000 in
theorem wd_155 : (Jvm.Cond.instantiable "ReedOracles$Tape" (2 : Nat)) ∈ zT := zT_mem (tb1 _ (List.mem_of_getElem? (l := tables_1_1) (i := 37) rfl)) rfl
set_option maxRecDepth 100000 in
theorem wd_156 : (Jvm.Cond.methodLink "ReedOracles$Told" (11 : Nat) ({ cls := "ReedOracles$Tape", name := "<init>", desc := "()V" } : Jvm.MethodName)) ∈ zT := zT_mem (tb1 _ (List.mem_of_getElem? (l := tables_1_1) (i := 38) rfl)) rfl
set_option maxRecDepth 100000 in
theorem wd_157 : (Jvm.Cond.instanceMethod ({ cls := "ReedOracles$Tape", name := "<init>", desc := "()V" } : Jvm.MethodName)) ∈ zT := zT_mem (tb1 _ (List.mem_of_getElem? (l := tables_1_1) (i := 39) rfl)) rfl
set_option maxRecDepth 100000 in
theorem wd_158 : (Jvm.Cond.code ({ cls := "ReedOracles$Tape", name := "<init>", desc := "()V" } : Jvm.MethodName) prog_10_method_1_code (1 : Nat) (Option.none : Option Jvm.ClassFile.FieldType)) ∈ zT := zT_mem (tb1 _ (List.mem_of_getElem? (l := tables_1_1) (i := 40) rfl)) rfl
set_option maxRecDepth 100000 in
theorem wd_159 : (Jvm.Cond.methodLink "ReedOracles$Tape" (3 : Nat) ({ cls := "java/lang/Object", name := "<init>", desc := "()V" } : Jvm.MethodName)) ∈ zT := zT_mem (tb1 _ (List.mem_of_getElem? (l := tables_1_1) (i := 41) rfl)) rfl
set_option maxRecDepth 100000 in
theorem wd_160 : (Jvm.Cond.fieldLink "ReedOracles$Tape" (9 : Nat) "ReedOracles$Tape" "bytes" "[B") ∈ zT := zT_mem (tb1 _ (List.mem_of_getElem? (l := tables_1_1) (i := 42) rfl)) rfl
set_option maxRecDepth 100000 in
theorem wd_161 : (Jvm.Cond.fieldLink "ReedOracles$Reader" (182 : Nat) "ReedOracles$Tape" "bytes" "[B") ∈ zT := zT_mem (tb1 _ (List.mem_of_getElem? (l := tables_1_1) (i := 43) rfl)) rfl
set_option maxRecDepth 100000 in
theorem wd_162 : (Jvm.Cond.fieldLink "ReedOracles$Tape" (15 : Nat) "ReedOracles$Tape" "size" "I") ∈ zT := zT_mem (tb1 _ (List.mem_of_getElem? (l := tables_1_1) (i := 44) rfl)) rfl
set_option maxRecDepth 100000 in
theorem wd_163 : (Jvm.Cond.fieldLink "ReedOracles" (68 : Nat) "ReedOracles$Tape" "size" "I") ∈ zT := zT_mem (tb1 _ (List.mem_of_getElem? (l := tables_1_1) (i := 45) rfl)) rfl
set_option maxRecDepth 100000 in
theorem wd_164 : (Jvm.Cond.fieldLink "ReedOracles$Told" (69 : Nat) "ReedOracles$Tape" "size" "I") ∈ zT := zT_mem (tb1 _ (List.mem_of_getElem? (l := tables_1_1) (i := 46) rfl)) rfl
set_option maxRecDepth 100000 in
theorem wd_165 : (Jvm.Cond.fieldLink "ReedOracles$Reader" (192 : Nat) "ReedOracles$Tape" "size" "I") ∈ zT := zT_mem (tb1 _ (List.mem_of_getElem? (l := tables_1_1) (i := 47) rfl)) rfl
set_option maxRecDepth 100000 in
theorem wd_171 : (Jvm.Cond.arrayClass Jvm.ClassFile.FieldType.byte) ∈ zT := zT_mem (tb1 _ (List.mem_of_getElem? (l := tables_1_1) (i := 53) rfl)) rfl
set_option maxRecDepth 100000 in
theorem wd_172 : (Jvm.Cond.classLink "ReedOracles$Told" (22 : Nat) "ReedOracles$Duchy") ∈ zT := zT_mem (tb1 _ (List.mem_of_getElem? (l := tables_1_1) (i := 54) rfl)) rfl
set_option maxRecDepth 100000 in
theorem wd_174 : (Jvm.Cond.classLink "ReedOracles$Told" (28 : Nat) "ReedOracles$Year") ∈ zT := zT_mem (tb1 _ (List.mem_of_getElem? (l := tables_1_1) (i := 56) rfl)) rfl
set_option maxRecDepth 100000 in
theorem wd_176 : (Jvm.Cond.classLink "ReedOracles$Told" (34 : Nat) "ReedOracles$Log") ∈ zT := zT_mem (tb1 _ (List.mem_of_getElem? (l := tables_1_1) (i := 58) rfl)) rfl
set_option maxRecDepth 100000 in
theorem wd_178 : (Jvm.Cond.instantiable "ReedOracles$Duchy" (10 : Nat)) ∈ zT := zT_mem (tb1 _ (List.mem_of_getElem? (l := tables_1_1) (i := 60) rfl)) rfl
set_option maxRecDepth 100000 in
theorem wd_179 : (Jvm.Cond.methodLink "ReedOracles$Told" (40 : Nat) ({ cls := "ReedOracles$Duchy", name := "<init>", desc := "()V" } : Jvm.MethodName)) ∈ zT := zT_mem (tb1 _ (List.mem_of_getElem? (l := tables_1_1) (i := 61) rfl)) rfl
set_option maxRecDepth 100000 in
theorem wd_180 : (Jvm.Cond.instanceMethod ({ cls := "ReedOracles$Duchy", name := "<init>", desc := "()V" } : Jvm.MethodName)) ∈ zT := zT_mem (tb1 _ (List.mem_of_getElem? (l := tables_1_1) (i := 62) rfl)) rfl
set_option maxRecDepth 100000 in
theorem wd_181 : (Jvm.Cond.code ({ cls := "ReedOracles$Duchy", name := "<init>", desc := "()V" } : Jvm.MethodName) prog_4_method_1_code (1 : Nat) (Option.none : Option Jvm.ClassFile.FieldType)) ∈ zT := zT_mem (tb1 _ (List.mem_of_getElem? (l := tables_1_1) (i := 63) rfl)) rfl
set_option maxRecDepth 100000 in
theorem wd_182 : (Jvm.Cond.methodLink "ReedOracles$Duchy" (3 : Nat) ({ cls := "java/lang/Object", name := "<init>", desc := "()V" } : Jvm.MethodName)) ∈ zT := zT_mem (tb1 _ (List.mem_of_getElem? (l := tables_1_1) (i := 64) rfl)) rfl
set_option maxRecDepth 100000 in
theorem wd_183 : (Jvm.Cond.fieldLink "ReedOracles$Duchy" (30 : Nat) "ReedOracles$Duchy" "reeds" "I") ∈ zT := zT_mem (tb1 _ (List.mem_of_getElem? (l := tables_1_1) (i := 65) rfl)) rfl
set_option maxRecDepth 100000 in
theorem wd_184 : (Jvm.Cond.fieldLink "ReedOracles$Plans" (24 : Nat) "ReedOracles$Duchy" "reeds" "I") ∈ zT := zT_mem (tb1 _ (List.mem_of_getElem? (l := tables_1_1) (i := 66) rfl)) rfl
set_option maxRecDepth 100000 in
theorem wd_185 : (Jvm.Cond.fieldLink "ReedOracles$Survey" (40 : Nat) "ReedOracles$Duchy" "reeds" "I") ∈ zT := zT_mem (tb1 _ (List.mem_of_getElem? (l := tables_1_1) (i := 67) rfl)) rfl
set_option maxRecDepth 100000 in
theorem wd_186 : (Jvm.Cond.fieldLink "ReedOracles$Reader" (99 : Nat) "ReedOracles$Duchy" "reeds" "I") ∈ zT := zT_mem (tb1 _ (List.mem_of_getElem? (l := tables_1_1) (i := 68) rfl)) rfl
set_option maxRecDepth 100000 in
theorem wd_187 : (Jvm.Cond.fieldLink "ReedOracles$Suspects" (51 : Nat) "ReedOracles$Duchy" "reeds" "I") ∈ zT := zT_mem (tb1 _ (List.mem_of_getElem? (l := tables_1_1) (i := 69) rfl)) rfl
set_option maxRecDepth 100000 in
theorem wd_188 : (Jvm.Cond.fieldLink "ReedOracles$Course" (154 : Nat) "ReedOracles$Duchy" "reeds" "I") ∈ zT := zT_mem (tb1 _ (List.mem_of_getElem? (l := tables_1_1) (i := 70) rfl)) rfl
set_option maxRecDepth 100000 in
theorem wd_189 : (Jvm.Cond.fieldLink "ReedOracles$Duchy" (34 : Nat) "ReedOracles$Duchy" "players" "I") ∈ zT := zT_mem (tb1 _ (List.mem_of_getElem? (l := tables_1_1) (i := 71) rfl)) rfl
set_option maxRecDepth 100000 in
theorem wd_190 : (Jvm.Cond.fieldLink "ReedOracles$Survey" (21 : Nat) "ReedOracles$Duchy" "players" "I") ∈ zT := zT_mem (tb1 _ (List.mem_of_getElem? (l := tables_1_1) (i := 72) rfl)) rfl
set_option maxRecDepth 100000 in
theorem wd_191 : (Jvm.Cond.fieldLink "ReedOracles$Reader" (102 : Nat) "ReedOracles$Duchy" "players" "I") ∈ zT := zT_mem (tb1 _ (List.mem_of_getElem? (l := tables_1_1) (i := 73) rfl)) rfl
set_option maxRecDepth 100000 in
theorem wd_192 : (Jvm.Cond.fieldLink "ReedOracles$Suspects" (60 : Nat) "ReedOracles$Duchy" "players" "I") ∈ zT := zT_mem (tb1 _ (List.mem_of_getElem? (l := tables_1_1) (i := 74) rfl)) rfl
set_option maxRecDepth 100000 in
theorem wd_193 : (Jvm.Cond.fieldLink "ReedOracles$Course" (166 : Nat) "ReedOracles$Duchy" "players" "I") ∈ zT := zT_mem (tb1 _ (List.mem_of_getElem? (l := tables_1_1) (i := 75) rfl)) rfl
set_option maxRecDepth 100000 in
theorem wd_194 : (Jvm.Cond.fieldLink "ReedOracles$Duchy" (37 : Nat) "ReedOracles$Duchy" "questions" "I") ∈ zT := zT_mem (tb1 _ (List.mem_of_getElem? (l := tables_1_1) (i := 76) rfl)) rfl
set_option maxRecDepth 100000 in
theorem wd_195 : (Jvm.Cond.fieldLink "ReedOracles$Survey" (27 : Nat) "ReedOracles$Duchy" "questions" "I") ∈ zT := zT_mem (tb1 _ (List.mem_of_getElem? (l := tables_1_1) (i := 77) rfl)) rfl
set_option maxRecDepth 100000 in
theorem wd_196 : (Jvm.Cond.fieldLink "ReedOracles$Plans" (30 : Nat) "ReedOracles$Duchy" "questions" "I") ∈ zT := zT_mem (tb1 _ (List.mem_of_getElem? (l := tables_1_1) (i := 78) rfl)) rfl
set_option maxRecDepth 100000 in
theorem wd_197 : (Jvm.Cond.fieldLink "ReedOracles$Reader" (105 : Nat) "ReedOracles$Duchy" "questions" "I") ∈ zT := zT_mem (tb1 _ (List.mem_of_getElem? (l := tables_1_1) (i := 79) rfl)) rfl
set_option maxRecDepth 100000 in
theorem wd_198 : (Jvm.Cond.fieldLink "ReedOracles$Suspects" (63 : Nat) "ReedOracles$Duchy" "questions" "I") ∈ zT := zT_mem (tb1 _ (List.mem_of_getElem? (l := tables_1_1) (i := 80) rfl)) rfl
set_option maxRecDepth 100000 in
theorem wd_199 : (Jvm.Cond.fieldLink "ReedOracles$Course" (169 : Nat) "ReedOracles$Duchy" "questions" "I") ∈ zT := zT_mem (tb1 _ (List.mem_of_getElem? (l := tables_1_1) (i := 81) rfl)) rfl
set_option maxRecDepth 100000 in
theorem wd_200 : (Jvm.Cond.fieldLink "ReedOracles$Duchy" (40 : Nat) "ReedOracles$Duchy" "cold" "I") ∈ zT := zT_mem (tb1 _ (List.mem_of_getElem? (l := tables_1_1) (i := 82) rfl)) rfl
set_option maxRecDepth 100000 in
theorem wd_201 : (Jvm.Cond.fieldLink "ReedOracles$Acts" (40 : Nat) "ReedOracles$Duchy" "cold" "I") ∈ zT := zT_mem (tb1 _ (List.mem_of_getElem? (l := tables_1_1) (i := 83) rfl)) rfl
set_option maxRecDepth 100000 in
theorem wd_202 : (Jvm.Cond.fieldLink "ReedOracles$Course" (71 : Nat) "ReedOracles$Duchy" "cold" "I") ∈ zT := zT_mem (tb1 _ (List.mem_of_getElem? (l := tables_1_1) (i := 84) rfl)) rfl
set_option maxRecDepth 100000 in
theorem wd_203 : (Jvm.Cond.fieldLink "ReedOracles$Suspects" (33 : Nat) "ReedOracles$Duchy" "cold" "I") ∈ zT := zT_mem (tb1 _ (List.mem_of_getElem? (l := tables_1_1) (i := 85) rfl)) rfl
set_option maxRecDepth 100000 in
theorem wd_204 : (Jvm.Cond.fieldLink "ReedOracles$Reader" (123 : Nat) "ReedOracles$Duchy" "cold" "I") ∈ zT := zT_mem (tb1 _ (List.mem_of_getElem? (l := tables_1_1) (i := 86) rfl)) rfl
set_option maxRecDepth 100000 in
theorem wd_205 : (Jvm.Cond.fieldLink "ReedOracles" (189 : Nat) "ReedOracles$Duchy" "cold" "I") ∈ zT := zT_mem (tb1 _ (List.mem_of_getElem? (l := tables_1_1) (i := 87) rfl)) rfl
set_option maxRecDepth 100000 in
theorem wd_206 : (Jvm.Cond.fieldLink "ReedOracles$Duchy" (9 : Nat) "ReedOracles$Duchy" "wet" "[I") ∈ zT := zT_mem (tb1 _ (List.mem_of_getElem? (l := tables_1_1) (i := 88) rfl)) rfl
set_option maxRecDepth 100000 in
theorem wd_207 : (Jvm.Cond.fieldLink "ReedOracles$Course" (30 : Nat) "ReedOracles$Duchy" "wet" "[I") ∈ zT := zT_mem (tb1 _ (List.mem_of_getElem? (l := tables_1_1) (i := 89) rfl)) rfl
set_option maxRecDepth 100000 in
theorem wd_208 : (Jvm.Cond.fieldLink "ReedOracles$Acts" (32 : Nat) "ReedOracles$Duchy" "wet" "[I") ∈ zT := zT_mem (tb1 _ (List.mem_of_getElem? (l := tables_1_1) (i := 90) rfl)) rfl
set_option maxRecDepth 100000 in
theorem wd_209 : (Jvm.Cond.fieldLink "ReedOracles$Survey" (43 : Nat) "ReedOracles$Duchy" "wet" "[I") ∈ zT := zT_mem (tb1 _ (List.mem_of_getElem? (l := tables_1_1) (i := 91) rfl)) rfl
set_option maxRecDepth 100000 in
theorem wd_210 : (Jvm.Cond.fieldLink "ReedOracles$Suspects" (54 : Nat) "ReedOracles$Duchy" "wet" "[I") ∈ zT := zT_mem (tb1 _ (List.mem_of_getElem? (l := tables_1_1) (i := 92) rfl)) rfl
set_option maxRecDepth 100000 in
theorem wd_211 : (Jvm.Cond.fieldLink "ReedOracles$Duchy" (15 : Nat) "ReedOracles$Duchy" "key" "[I") ∈ zT := zT_mem (tb1 _ (List.mem_of_getElem? (l := tables_1_1) (i := 93) rfl)) rfl
set_option maxRecDepth 100000 in
theorem wd_212 : (Jvm.Cond.fieldLink "ReedOracles$Course" (39 : Nat) "ReedOracles$Duchy" "key" "[I") ∈ zT := zT_mem (tb1 _ (List.mem_of_getElem? (l := tables_1_1) (i := 94) rfl)) rfl
set_option maxRecDepth 100000 in
theorem wd_213 : (Jvm.Cond.fieldLink "ReedOracles$Acts" (37 : Nat) "ReedOracles$Duchy" "key" "[I") ∈ zT := zT_mem (tb1 _ (List.mem_of_getElem? (l := tables_1_1) (i := 95) rfl)) rfl
set_option maxRecDepth 100000 in
theorem wd_214 : (Jvm.Cond.fieldLink "ReedOracles$Survey" (46 : Nat) "ReedOracles$Duchy" "key" "[I") ∈ zT := zT_mem (tb1 _ (List.mem_of_getElem? (l := tables_1_1) (i := 96) rfl)) rfl
set_option maxRecDepth 100000 in
theorem wd_215 : (Jvm.Cond.fieldLink "ReedOracles$Suspects" (57 : Nat) "ReedOracles$Duchy" "key" "[I") ∈ zT := zT_mem (tb1 _ (List.mem_of_getElem? (l := tables_1_1) (i := 97) rfl)) rfl
set_option maxRecDepth 100000 in
theorem wd_216 : (Jvm.Cond.fieldLink "ReedOracles$Duchy" (18 : Nat) "ReedOracles$Duchy" "breath" "[I") ∈ zT := zT_mem (tb1 _ (List.mem_of_getElem? (l := tables_1_1) (i := 98) rfl)) rfl
set_option maxRecDepth 100000 in
theorem wd_217 : (Jvm.Cond.fieldLink "ReedOracles$Survey" (118 : Nat) "ReedOracles$Duchy" "breath" "[I") ∈ zT := zT_mem (tb1 _ (List.mem_of_getElem? (l := tables_1_1) (i := 99) rfl)) rfl
set_option maxRecDepth 100000 in
theorem wd_218 : (Jvm.Cond.fieldLink "ReedOracles$Duchy" (21 : Nat) "ReedOracles$Duchy" "depth" "[I") ∈ zT := zT_mem (tb1 _ (List.mem_of_getElem? (l := tables_1_1) (i := 100) rfl)) rfl
set_option maxRecDepth 100000 in
theorem wd_219 : (Jvm.Cond.fieldLink "ReedOracles$Survey" (69 : Nat) "ReedOracles$Duchy" "depth" "[I") ∈ zT := zT_mem (tb1 _ (List.mem_of_getElem? (l := tables_1_1) (i := 101) rfl)) rfl
set_option maxRecDepth 100000 in
theorem wd_220 : (Jvm.Cond.fieldLink "ReedOracles$Duchy" (24 : Nat) "ReedOracles$Duchy" "kind" "[I") ∈ zT := zT_mem (tb1 _ (List.mem_of_getElem? (l := tables_1_1) (i := 102) rfl)) rfl
set_option maxRecDepth 100000 in
theorem wd_221 : (Jvm.Cond.fieldLink "ReedOracles$Duchy" (27 : Nat) "ReedOracles$Duchy" "means" "[I") ∈ zT := zT_mem (tb1 _ (List.mem_of_getElem? (l := tables_1_1) (i := 103) rfl)) rfl
set_option maxRecDepth 100000 in
theorem wd_222 : (Jvm.Cond.fieldLink "ReedOracles$Acts" (74 : Nat) "ReedOracles$Duchy" "means" "[I") ∈ zT := zT_mem (tb1 _ (List.mem_of_getElem? (l := tables_1_1) (i := 104) rfl)) rfl
set_option maxRecDepth 100000 in
theorem wd_223 : (Jvm.Cond.fieldLink "ReedOracles$Reader" (126 : Nat) "ReedOracles$Duchy" "means" "[I") ∈ zT := zT_mem (tb1 _ (List.mem_of_getElem? (l := tables_1_1) (i := 105) rfl)) rfl
set_option maxRecDepth 100000 in
theorem wd_224 : (Jvm.Cond.fieldLink "ReedOracles$Survey" (106 : Nat) "ReedOracles$Duchy" "means" "[I") ∈ zT := zT_mem (tb1 _ (List.mem_of_getElem? (l := tables_1_1) (i := 106) rfl)) rfl
set_option maxRecDepth 100000 in
theorem wd_246 : (Jvm.Cond.arrayClass Jvm.ClassFile.FieldType.int) ∈ zT := zT_mem (tb1 _ (List.mem_of_getElem? (l := tables_1_1) (i := 128) rfl)) rfl
set_option maxRecDepth 100000 in
theorem wd_247 : (Jvm.Cond.instantiable "ReedOracles$Year" (2 : Nat)) ∈ zT := zT_mem (tb1 _ (List.mem_of_getElem? (l := tables_1_1) (i := 129) rfl)) rfl
set_option maxRecDepth 100000 in
theorem wd_248 : (Jvm.Cond.methodLink "ReedOracles$Told" (41 : Nat) ({ cls := "ReedOracles$Year", name := "<init>", desc := "()V" } : Jvm.MethodName)) ∈ zT := zT_mem (tb1 _ (List.mem_of_getElem? (l := tables_1_1) (i := 130) rfl)) rfl
set_option maxRecDepth 100000 in
theorem wd_249 : (Jvm.Cond.instanceMethod ({ cls := "ReedOracles$Year", name := "<init>", desc := "()V" } : Jvm.MethodName)) ∈ zT := zT_mem (tb1 _ (List.mem_of_getElem? (l := tables_1_1) (i := 131) rfl)) rfl
set_option maxRecDepth 100000 in
theorem wd_250 : (Jvm.Cond.code ({ cls := "ReedOracles$Year", name := "<init>", desc := "()V" } : Jvm.MethodName) prog_12_method_1_code (1 : Nat) (Option.none : Option Jvm.ClassFile.FieldType)) ∈ zT := zT_mem (tb1 _ (List.mem_of_getElem? (l := tables_1_1) (i := 132) rfl)) rfl
set_option maxRecDepth 100000 in
theorem wd_251 : (Jvm.Cond.methodLink "ReedOracles$Year" (3 : Nat) ({ cls := "java/lang/Object", name := "<init>", desc := "()V" } : Jvm.MethodName)) ∈ zT := zT_mem (tb1 _ (List.mem_of_getElem? (l := tables_1_1) (i := 133) rfl)) rfl
set_option maxRecDepth 100000 in
theorem wd_252 : (Jvm.Cond.fieldLink "ReedOracles$Year" (15 : Nat) "ReedOracles$Year" "size" "I") ∈ zT := zT_mem (tb1 _ (List.mem_of_getElem? (l := tables_1_1) (i := 134) rfl)) rfl
set_option maxRecDepth 100000 in
theorem wd_253 : (Jvm.Cond.fieldLink "ReedOracles$Reader" (43 : Nat) "ReedOracles$Year" "size" "I") ∈ zT := zT_mem (tb1 _ (List.mem_of_getElem? (l := tables_1_1) (i := 135) rfl)) rfl
set_option maxRecDepth 100000 in
theorem wd_254 : (Jvm.Cond.fieldLink "ReedOracles$Course" (82 : Nat) "ReedOracles$Year" "size" "I") ∈ zT := zT_mem (tb1 _ (List.mem_of_getElem? (l := tables_1_1) (i := 136) rfl)) rfl
set_option maxRecDepth 100000 in
theorem wd_255 : (Jvm.Cond.fieldLink "ReedOracles" (130 : Nat) "ReedOracles$Year" "size" "I") ∈ zT := zT_mem (tb1 _ (List.mem_of_getElem? (l := tables_1_1) (i := 137) rfl)) rfl
set_option maxRecDepth 100000 in
theorem wd_256 : (Jvm.Cond.fieldLink "ReedOracles$Year" (11 : Nat) "ReedOracles$Year" "cells" "[I") ∈ zT := zT_mem (tb1 _ (List.mem_of_getElem? (l := tables_1_1) (i := 138) rfl)) rfl
set_option maxRecDepth 100000 in
theorem wd_262 : (Jvm.Cond.instantiable "ReedOracles$Log" (4 : Nat)) ∈ zT := zT_mem (tb1 _ (List.mem_of_getElem? (l := tables_1_1) (i := 144) rfl)) rfl
set_option maxRecDepth 100000 in
theorem wd_263 : (Jvm.Cond.methodLink "ReedOracles$Told" (42 : Nat) ({ cls := "ReedOracles$Log", name := "<init>", desc := "()V" } : Jvm.MethodName)) ∈ zT := zT_mem (tb1 _ (List.mem_of_getElem? (l := tables_1_1) (i := 145) rfl)) rfl
set_option maxRecDepth 100000 in
theorem wd_264 : (Jvm.Cond.instanceMethod ({ cls := "ReedOracles$Log", name := "<init>", desc := "()V" } : Jvm.MethodName)) ∈ zT := zT_mem (tb1 _ (List.mem_of_getElem? (l := tables_1_1) (i := 146) rfl)) rfl
set_option maxRecDepth 100000 in
theorem wd_265 : (Jvm.Cond.code ({ cls := "ReedOracles$Log", name := "<init>", desc := "()V" } : Jvm.MethodName) prog_5_method_1_code (1 : Nat) (Option.none : Option Jvm.ClassFile.FieldType)) ∈ zT := zT_mem (tb1 _ (List.mem_of_getElem? (l := tables_1_1) (i := 147) rfl)) rfl
set_option maxRecDepth 100000 in
theorem wd_266 : (Jvm.Cond.methodLink "ReedOracles$Log" (3 : Nat) ({ cls := "java/lang/Object", name := "<init>", desc := "()V" } : Jvm.MethodName)) ∈ zT := zT_mem (tb1 _ (List.mem_of_getElem? (l := tables_1_1) (i := 148) rfl)) rfl
set_option maxRecDepth 100000 in
theorem wd_267 : (Jvm.Cond.fieldLink "ReedOracles$Log" (21 : Nat) "ReedOracles$Log" "size" "I") ∈ zT := zT_mem (tb1 _ (List.mem_of_getElem? (l := tables_1_1) (i := 149) rfl)) rfl
set_option maxRecDepth 100000 in
theorem wd_268 : (Jvm.Cond.fieldLink "ReedOracles$Reader" (47 : Nat) "ReedOracles$Log" "size" "I") ∈ zT := zT_mem (tb1 _ (List.mem_of_getElem? (l := tables_1_1) (i := 150) rfl)) rfl
set_option maxRecDepth 100000 in
theorem wd_269 : (Jvm.Cond.fieldLink "ReedOracles$Suspects" (26 : Nat) "ReedOracles$Log" "size" "I") ∈ zT := zT_mem (tb1 _ (List.mem_of_getElem? (l := tables_1_1) (i := 151) rfl)) rfl
set_option maxRecDepth 100000 in
theorem wd_270 : (Jvm.Cond.fieldLink "ReedOracles$Duchy" (59 : Nat) "ReedOracles$Log" "size" "I") ∈ zT := zT_mem (tb1 _ (List.mem_of_getElem? (l := tables_1_1) (i := 152) rfl)) rfl
set_option maxRecDepth 100000 in
theorem wd_271 : (Jvm.Cond.fieldLink "ReedOracles" (233 : Nat) "ReedOracles$Log" "size" "I") ∈ zT := zT_mem (tb1 _ (List.mem_of_getElem? (l := tables_1_1) (i := 153) rfl)) rfl
set_option maxRecDepth 100000 in
theorem wd_272 : (Jvm.Cond.fieldLink "ReedOracles$Log" (9 : Nat) "ReedOracles$Log" "player" "[I") ∈ zT := zT_mem (tb1 _ (List.mem_of_getElem? (l := tables_1_1) (i := 154) rfl)) rfl
set_option maxRecDepth 100000 in
theorem wd_273 : (Jvm.Cond.fieldLink "ReedOracles$Suspects" (38 : Nat) "ReedOracles$Log" "player" "[I") ∈ zT := zT_mem (tb1 _ (List.mem_of_getElem? (l := tables_1_1) (i := 155) rfl)) rfl
set_option maxRecDepth 100000 in
theorem wd_274 : (Jvm.Cond.fieldLink "ReedOracles$Duchy" (64 : Nat) "ReedOracles$Log" "player" "[I") ∈ zT := zT_mem (tb1 _ (List.mem_of_getElem? (l := tables_1_1) (i := 156) rfl)) rfl
set_option maxRecDepth 100000 in
theorem wd_275 : (Jvm.Cond.fieldLink "ReedOracles$Log" (15 : Nat) "ReedOracles$Log" "question" "[I") ∈ zT := zT_mem (tb1 _ (List.mem_of_getElem? (l := tables_1_1) (i := 157) rfl)) rfl
set_option maxRecDepth 100000 in
theorem wd_276 : (Jvm.Cond.fieldLink "ReedOracles$Suspects" (41 : Nat) "ReedOracles$Log" "question" "[I") ∈ zT := zT_mem (tb1 _ (List.mem_of_getElem? (l := tables_1_1) (i := 158) rfl)) rfl
set_option maxRecDepth 100000 in
theorem wd_277 : (Jvm.Cond.fieldLink "ReedOracles$Duchy" (67 : Nat) "ReedOracles$Log" "question" "[I") ∈ zT := zT_mem (tb1 _ (List.mem_of_getElem? (l := tables_1_1) (i := 159) rfl)) rfl
set_option maxRecDepth 100000 in
theorem wd_278 : (Jvm.Cond.fieldLink "ReedOracles$Log" (18 : Nat) "ReedOracles$Log" "heard" "[I") ∈ zT := zT_mem (tb1 _ (List.mem_of_getElem? (l := tables_1_1) (i := 160) rfl)) rfl
set_option maxRecDepth 100000 in
theorem wd_279 : (Jvm.Cond.fieldLink "ReedOracles$Suspects" (48 : Nat) "ReedOracles$Log" "heard" "[I") ∈ zT := zT_mem (tb1 _ (List.mem_of_getElem? (l := tables_1_1) (i := 161) rfl)) rfl
set_option maxRecDepth 100000 in
theorem wd_289 : (Jvm.Cond.fieldLink "ReedOracles$Told" (12 : Nat) "ReedOracles$Told" "tape" "LReedOracles$Tape;") ∈ zT := zT_mem (tb1 _ (List.mem_of_getElem? (l := tables_1_1) (i := 171) rfl)) rfl
set_option maxRecDepth 100000 in
theorem wd_290 : (Jvm.Cond.fieldLink "ReedOracles" (22 : Nat) "ReedOracles$Told" "tape" "LReedOracles$Tape;") ∈ zT := zT_mem (tb1 _ (List.mem_of_getElem? (l := tables_1_1) (i := 172) rfl)) rfl
set_option maxRecDepth 100000 in
theorem wd_291 : (Jvm.Cond.fieldLink "ReedOracles$Told" (18 : Nat) "ReedOracles$Told" "counts" "[I") ∈ zT := zT_mem (tb1 _ (List.mem_of_getElem? (l := tables_1_1) (i := 173) rfl)) rfl
set_option maxRecDepth 100000 in
theorem wd_292 : (Jvm.Cond.fieldLink "ReedOracles" (355 : Nat) "ReedOracles$Told" "counts" "[I") ∈ zT := zT_mem (tb1 _ (List.mem_of_getElem? (l := tables_1_1) (i := 174) rfl)) rfl
set_option maxRecDepth 100000 in
theorem wd_293 : (Jvm.Cond.fieldLink "ReedOracles$Told" (24 : Nat) "ReedOracles$Told" "duchies" "[LReedOracles$Duchy;") ∈ zT := zT_mem (tb1 _ (List.mem_of_getElem? (l := tables_1_1) (i := 175) rfl)) rfl
set_option maxRecDepth 100000 in
theorem wd_294 : (Jvm.Cond.fieldLink "ReedOracles$Told" (30 : Nat) "ReedOracles$Told" "years" "[LReedOracles$Year;") ∈ zT := zT_mem (tb1 _ (List.mem_of_getElem? (l := tables_1_1) (i := 176) rfl)) rfl
set_option maxRecDepth 100000 in
theorem wd_295 : (Jvm.Cond.fieldLink "ReedOracles$Told" (36 : Nat) "ReedOracles$Told" "logs" "[LReedOracles$Log;") ∈ zT := zT_mem (tb1 _ (List.mem_of_getElem? (l := tables_1_1) (i := 177) rfl)) rfl
set_option maxRecDepth 100000 in
theorem wd_296 : (Jvm.Cond.fieldLink "ReedOracles$Told" (43 : Nat) "ReedOracles$Told" "fault" "I") ∈ zT := zT_mem (tb1 _ (List.mem_of_getElem? (l := tables_1_1) (i := 178) rfl)) rfl
set_option maxRecDepth 100000 in
theorem wd_297 : (Jvm.Cond.fieldLink "ReedOracles" (99 : Nat) "ReedOracles$Told" "fault" "I") ∈ zT := zT_mem (tb1 _ (List.mem_of_getElem? (l := tables_1_1) (i := 179) rfl)) rfl
set_option maxRecDepth 100000 in
theorem wd_298 : (Jvm.Cond.fieldLink "ReedOracles$Told" (47 : Nat) "ReedOracles$Told" "place" "I") ∈ zT := zT_mem (tb1 _ (List.mem_of_getElem? (l := tables_1_1) (i := 180) rfl)) rfl
set_option maxRecDepth 100000 in
theorem wd_299 : (Jvm.Cond.fieldLink "ReedOracles" (100 : Nat) "ReedOracles$Told" "place" "I") ∈ zT := zT_mem (tb1 _ (List.mem_of_getElem? (l := tables_1_1) (i := 181) rfl)) rfl
set_option maxRecDepth 100000 in
theorem wd_316 : (Jvm.Cond.classLink "ReedOracles" (20 : Nat) "ReedOracles$Reader") ∈ zT := zT_mem (tb1 _ (List.mem_of_getElem? (l := tables_1_1) (i := 198) rfl)) rfl
set_option maxRecDepth 100000 in
theorem wd_317 : (Jvm.Cond.instantiable "ReedOracles$Reader" (11 : Nat)) ∈ zT := zT_mem (tb1 _ (List.mem_of_getElem? (l := tables_1_1) (i := 199) rfl)) rfl
set_option maxRecDepth 100000 in
theorem wd_318 : (Jvm.Cond.methodLink "ReedOracles" (26 : Nat) ({ cls := "ReedOracles$Reader", name := "<init>", desc := "(LReedOracles$Tape;)V" } : Jvm.MethodName)) ∈ zT := zT_mem (tb1 _ (List.mem_of_getElem? (l := tables_1_1) (i := 200) rfl)) rfl
set_option maxRecDepth 100000 in
theorem wd_319 : (Jvm.Cond.instanceMethod ({ cls := "ReedOracles$Reader", name := "<init>", desc := "(LReedOracles$Tape;)V" } : Jvm.MethodName)) ∈ zT := zT_mem (tb1 _ (List.mem_of_getElem? (l := tables_1_1) (i := 201) rfl)) rfl
set_option maxRecDepth 100000 in
theorem wd_320 : (Jvm.Cond.code ({ cls := "ReedOracles$Reader", name := "<init>", desc := "(LReedOracles$Tape;)V" } : Jvm.MethodName) prog_7_method_1_code (2 : Nat) (Option.none : Option Jvm.ClassFile.FieldType)) ∈ zT := zT_mem (tb1 _ (List.mem_of_getElem? (l := tables_1_1) (i := 202) rfl)) rfl
set_option maxRecDepth 100000 in
theorem wd_321 : (Jvm.Cond.methodLink "ReedOracles$Reader" (3 : Nat) ({ cls := "java/lang/Object", name := "<init>", desc := "()V" } : Jvm.MethodName)) ∈ zT := zT_mem (tb1 _ (List.mem_of_getElem? (l := tables_1_1) (i := 203) rfl)) rfl
set_option maxRecDepth 100000 in
theorem wd_322 : (Jvm.Cond.classLink "ReedOracles$Reader" (15 : Nat) "ReedOracles$Duchy") ∈ zT := zT_mem (tb1 _ (List.mem_of_getElem? (l := tables_1_1) (i := 204) rfl)) rfl
set_option maxRecDepth 100000 in
theorem wd_323 : (Jvm.Cond.methodLink "ReedOracles$Reader" (17 : Nat) ({ cls := "ReedOracles$Duchy", name := "<init>", desc := "()V" } : Jvm.MethodName)) ∈ zT := zT_mem (tb1 _ (List.mem_of_getElem? (l := tables_1_1) (i := 205) rfl)) rfl
set_option maxRecDepth 100000 in
theorem wd_324 : (Jvm.Cond.classLink "ReedOracles$Reader" (22 : Nat) "ReedOracles$Year") ∈ zT := zT_mem (tb1 _ (List.mem_of_getElem? (l := tables_1_1) (i := 206) rfl)) rfl
set_option maxRecDepth 100000 in
theorem wd_325 : (Jvm.Cond.methodLink "ReedOracles$Reader" (24 : Nat) ({ cls := "ReedOracles$Year", name := "<init>", desc := "()V" } : Jvm.MethodName)) ∈ zT := zT_mem (tb1 _ (List.mem_of_getElem? (l := tables_1_1) (i := 207) rfl)) rfl
set_option maxRecDepth 100000 in
theorem wd_326 : (Jvm.Cond.classLink "ReedOracles$Reader" (29 : Nat) "ReedOracles$Log") ∈ zT := zT_mem (tb1 _ (List.mem_of_getElem? (l := tables_1_1) (i := 208) rfl)) rfl
set_option maxRecDepth 100000 in
theorem wd_327 : (Jvm.Cond.methodLink "ReedOracles$Reader" (31 : Nat) ({ cls := "ReedOracles$Log", name := "<init>", desc := "()V" } : Jvm.MethodName)) ∈ zT := zT_mem (tb1 _ (List.mem_of_getElem? (l := tables_1_1) (i := 209) rfl)) rfl
set_option maxRecDepth 100000 in
theorem wd_328 : (Jvm.Cond.fieldLink "ReedOracles$Reader" (18 : Nat) "ReedOracles$Reader" "duchy" "LReedOracles$Duchy;") ∈ zT := zT_mem (tb1 _ (List.mem_of_getElem? (l := tables_1_1) (i := 210) rfl)) rfl
set_option maxRecDepth 100000 in
theorem wd_329 : (Jvm.Cond.fieldLink "ReedOracles$Told" (72 : Nat) "ReedOracles$Reader" "duchy" "LReedOracles$Duchy;") ∈ zT := zT_mem (tb1 _ (List.mem_of_getElem? (l := tables_1_1) (i := 211) rfl)) rfl
set_option maxRecDepth 100000 in
theorem wd_330 : (Jvm.Cond.fieldLink "ReedOracles$Reader" (25 : Nat) "ReedOracles$Reader" "year" "LReedOracles$Year;") ∈ zT := zT_mem (tb1 _ (List.mem_of_getElem? (l := tables_1_1) (i := 212) rfl)) rfl
set_option maxRecDepth 100000 in
theorem wd_331 : (Jvm.Cond.fieldLink "ReedOracles$Told" (78 : Nat) "ReedOracles$Reader" "year" "LReedOracles$Year;") ∈ zT := zT_mem (tb1 _ (List.mem_of_getElem? (l := tables_1_1) (i := 213) rfl)) rfl
set_option maxRecDepth 100000 in
theorem wd_332 : (Jvm.Cond.fieldLink "ReedOracles$Reader" (32 : Nat) "ReedOracles$Reader" "log" "LReedOracles$Log;") ∈ zT := zT_mem (tb1 _ (List.mem_of_getElem? (l := tables_1_1) (i := 214) rfl)) rfl
set_option maxRecDepth 100000 in
theorem wd_333 : (Jvm.Cond.fieldLink "ReedOracles$Told" (82 : Nat) "ReedOracles$Reader" "log" "LReedOracles$Log;") ∈ zT := zT_mem (tb1 _ (List.mem_of_getElem? (l := tables_1_1) (i := 215) rfl)) rfl
set_option maxRecDepth 100000 in
theorem wd_334 : (Jvm.Cond.fieldLink "ReedOracles$Reader" (48 : Nat) "ReedOracles$Reader" "fault" "I") ∈ zT := zT_mem (tb1 _ (List.mem_of_getElem? (l := tables_1_1) (i := 216) rfl)) rfl
set_option maxRecDepth 100000 in
theorem wd_335 : (Jvm.Cond.fieldLink "ReedOracles" (89 : Nat) "ReedOracles$Reader" "fault" "I") ∈ zT := zT_mem (tb1 _ (List.mem_of_getElem? (l := tables_1_1) (i := 217) rfl)) rfl
set_option maxRecDepth 100000 in
theorem wd_336 : (Jvm.Cond.fieldLink "ReedOracles$Reader" (51 : Nat) "ReedOracles$Reader" "place" "I") ∈ zT := zT_mem (tb1 _ (List.mem_of_getElem? (l := tables_1_1) (i := 218) rfl)) rfl
set_option maxRecDepth 100000 in
theorem wd_337 : (Jvm.Cond.fieldLink "ReedOracles" (92 : Nat) "ReedOracles$Reader" "place" "I") ∈ zT := zT_mem (tb1 _ (List.mem_of_getElem? (l := tables_1_1) (i := 219) rfl)) rfl
set_option maxRecDepth 100000 in
theorem wd_338 : (Jvm.Cond.fieldLink "ReedOracles$Reader" (9 : Nat) "ReedOracles$Reader" "tape" "LReedOracles$Tape;") ∈ zT := zT_mem (tb1 _ (List.mem_of_getElem? (l := tables_1_1) (i := 220) rfl)) rfl
set_option maxRecDepth 100000 in
theorem wd_339 : (Jvm.Cond.fieldLink "ReedOracles$Reader" (36 : Nat) "ReedOracles$Reader" "row" "[I") ∈ zT := zT_mem (tb1 _ (List.mem_of_getElem? (l := tables_1_1) (i := 221) rfl)) rfl
set_option maxRecDepth 100000 in
theorem wd_340 : (Jvm.Cond.fieldLink "ReedOracles$Reader" (54 : Nat) "ReedOracles$Reader" "at" "I") ∈ zT := zT_mem (tb1 _ (List.mem_of_getElem? (l := tables_1_1) (i := 222) rfl)) rfl
set_option maxRecDepth 100000 in
theorem wd_341 : (Jvm.Cond.fieldLink "ReedOracles$Reader" (67 : Nat) "ReedOracles$Reader" "start" "I") ∈ zT := zT_mem (tb1 _ (List.mem_of_getElem? (l := tables_1_1) (i := 223) rfl)) rfl
set_option maxRecDepth 100000 in
theorem wd_342 : (Jvm.Cond.fieldLink "ReedOracles$Reader" (60 : Nat) "ReedOracles$Reader" "token" "I") ∈ zT := zT_mem (tb1 _ (List.mem_of_getElem? (l := tables_1_1) (i := 224) rfl)) rfl
set_option maxRecDepth 100000 in
theorem wd_343 : (Jvm.Cond.fieldLink "ReedOracles$Reader" (84 : Nat) "ReedOracles$Reader" "value" "I") ∈ zT := zT_mem (tb1 _ (List.mem_of_getElem? (l := tables_1_1) (i := 225) rfl)) rfl
set_option maxRecDepth 100000 in
theorem wd_367 : (Jvm.Cond.classLink "ReedOracles" (33 : Nat) "ReedOracles$Course") ∈ zT := zT_mem (tb2 _ (List.mem_of_getElem? (l := tables_1_2) (i := 9) rfl)) rfl
set_option maxRecDepth 100000 in
theorem wd_368 : (Jvm.Cond.instantiable "ReedOracles$Course" (17 : Nat)) ∈ zT := zT_mem (tb2 _ (List.mem_of_getElem? (l := tables_1_2) (i := 10) rfl)) rfl
set_option maxRecDepth 100000 in
theorem wd_369 : (Jvm.Cond.methodLink "ReedOracles" (35 : Nat) ({ cls := "ReedOracles$Course", name := "<init>", desc := "()V" } : Jvm.MethodName)) ∈ zT := zT_mem (tb2 _ (List.mem_of_getElem? (l := tables_1_2) (i := 11) rfl)) rfl
set_option maxRecDepth 100000 in
theorem wd_370 : (Jvm.Cond.instanceMethod ({ cls := "ReedOracles$Course", name := "<init>", desc := "()V" } : Jvm.MethodName)) ∈ zT := zT_mem (tb2 _ (List.mem_of_getElem? (l := tables_1_2) (i := 12) rfl)) rfl
set_option maxRecDepth 100000 in
theorem wd_371 : (Jvm.Cond.code ({ cls := "ReedOracles$Course", name := "<init>", desc := "()V" } : Jvm.MethodName) prog_3_method_1_code (1 : Nat) (Option.none : Option Jvm.ClassFile.FieldType)) ∈ zT := zT_mem (tb2 _ (List.mem_of_getElem? (l := tables_1_2) (i := 13) rfl)) rfl
set_option maxRecDepth 100000 in
theorem wd_372 : (Jvm.Cond.methodLink "ReedOracles$Course" (3 : Nat) ({ cls := "java/lang/Object", name := "<init>", desc := "()V" } : Jvm.MethodName)) ∈ zT := zT_mem (tb2 _ (List.mem_of_getElem? (l := tables_1_2) (i := 14) rfl)) rfl
set_option maxRecDepth 100000 in
theorem wd_373 : (Jvm.Cond.fieldLink "ReedOracles$Course" (46 : Nat) "ReedOracles$Course" "done" "I") ∈ zT := zT_mem (tb2 _ (List.mem_of_getElem? (l := tables_1_2) (i := 15) rfl)) rfl
set_option maxRecDepth 100000 in
theorem wd_374 : (Jvm.Cond.fieldLink "ReedOracles" (135 : Nat) "ReedOracles$Course" "done" "I") ∈ zT := zT_mem (tb2 _ (List.mem_of_getElem? (l := tables_1_2) (i := 16) rfl)) rfl
set_option maxRecDepth 100000 in
theorem wd_375 : (Jvm.Cond.fieldLink "ReedOracles$Course" (50 : Nat) "ReedOracles$Course" "liar" "I") ∈ zT := zT_mem (tb2 _ (List.mem_of_getElem? (l := tables_1_2) (i := 17) rfl)) rfl
set_option maxRecDepth 100000 in
theorem wd_376 : (Jvm.Cond.fieldLink "ReedOracles" (318 : Nat) "ReedOracles$Course" "liar" "I") ∈ zT := zT_mem (tb2 _ (List.mem_of_getElem? (l := tables_1_2) (i := 18) rfl)) rfl
set_option maxRecDepth 100000 in
theorem wd_377 : (Jvm.Cond.fieldLink "ReedOracles$Course" (9 : Nat) "ReedOracles$Course" "wet" "[I") ∈ zT := zT_mem (tb2 _ (List.mem_of_getElem? (l := tables_1_2) (i := 19) rfl)) rfl
set_option maxRecDepth 100000 in
theorem wd_378 : (Jvm.Cond.fieldLink "ReedOracles$Course" (15 : Nat) "ReedOracles$Course" "key" "[I") ∈ zT := zT_mem (tb2 _ (List.mem_of_getElem? (l := tables_1_2) (i := 20) rfl)) rfl
set_option maxRecDepth 100000 in
theorem wd_379 : (Jvm.Cond.fieldLink "ReedOracles$Course" (18 : Nat) "ReedOracles$Course" "played" "[I") ∈ zT := zT_mem (tb2 _ (List.mem_of_getElem? (l := tables_1_2) (i := 21) rfl)) rfl
set_option maxRecDepth 100000 in
theorem wd_380 : (Jvm.Cond.fieldLink "ReedOracles$Course" (21 : Nat) "ReedOracles$Course" "playedInAll" "[I") ∈ zT := zT_mem (tb2 _ (List.mem_of_getElem? (l := tables_1_2) (i := 22) rfl)) rfl
set_option maxRecDepth 100000 in
theorem wd_381 : (Jvm.Cond.fieldLink "ReedOracles$Course" (24 : Nat) "ReedOracles$Course" "asked" "[I") ∈ zT := zT_mem (tb2 _ (List.mem_of_getElem? (l := tables_1_2) (i := 23) rfl)) rfl
set_option maxRecDepth 100000 in
theorem wd_382 : (Jvm.Cond.fieldLink "ReedOracles$Course" (27 : Nat) "ReedOracles$Course" "answered" "[I") ∈ zT := zT_mem (tb2 _ (List.mem_of_getElem? (l := tables_1_2) (i := 24) rfl)) rfl
set_option maxRecDepth 100000 in
theorem wd_383 : (Jvm.Cond.fieldLink "ReedOracles$Course" (53 : Nat) "ReedOracles$Course" "cracked" "I") ∈ zT := zT_mem (tb2 _ (List.mem_of_getElem? (l := tables_1_2) (i := 25) rfl)) rfl
set_option maxRecDepth 100000 in
theorem wd_384 : (Jvm.Cond.fieldLink "ReedOracles$Course" (56 : Nat) "ReedOracles$Course" "nights" "I") ∈ zT := zT_mem (tb2 _ (List.mem_of_getElem? (l := tables_1_2) (i := 26) rfl)) rfl
set_option maxRecDepth 100000 in
theorem wd_385 : (Jvm.Cond.fieldLink "ReedOracles$Course" (59 : Nat) "ReedOracles$Course" "deaths" "I") ∈ zT := zT_mem (tb2 _ (List.mem_of_getElem? (l := tables_1_2) (i := 27) rfl)) rfl
set_option maxRecDepth 100000 in
theorem wd_386 : (Jvm.Cond.fieldLink "ReedOracles$Course" (62 : Nat) "ReedOracles$Course" "marches" "I") ∈ zT := zT_mem (tb2 _ (List.mem_of_getElem? (l := tables_1_2) (i := 28) rfl)) rfl
set_option maxRecDepth 100000 in
theorem wd_387 : (Jvm.Cond.fieldLink "ReedOracles$Course" (65 : Nat) "ReedOracles$Course" "clashes" "I") ∈ zT := zT_mem (tb2 _ (List.mem_of_getElem? (l := tables_1_2) (i := 29) rfl)) rfl
set_option maxRecDepth 100000 in
theorem wd_388 : (Jvm.Cond.fieldLink "ReedOracles$Course" (68 : Nat) "ReedOracles$Course" "coughs" "I") ∈ zT := zT_mem (tb2 _ (List.mem_of_getElem? (l := tables_1_2) (i := 30) rfl)) rfl
set_option maxRecDepth 100000 in
theorem wd_389 : (Jvm.Cond.fieldLink "ReedOracles$Course" (74 : Nat) "ReedOracles$Course" "cold" "I") ∈ zT := zT_mem (tb2 _ (List.mem_of_getElem? (l := tables_1_2) (i := 31) rfl)) rfl
set_option maxRecDepth 100000 in
theorem wd_390 : (Jvm.Cond.fieldLink "ReedOracles$Course" (75 : Nat) "ReedOracles$Course" "lastNote" "I") ∈ zT := zT_mem (tb2 _ (List.mem_of_getElem? (l := tables_1_2) (i := 32) rfl)) rfl
set_option maxRecDepth 100000 in
theorem wd_391 : (Jvm.Cond.fieldLink "ReedOracles$Course" (157 : Nat) "ReedOracles$Course" "seed" "I") ∈ zT := zT_mem (tb2 _ (List.mem_of_getElem? (l := tables_1_2) (i := 33) rfl)) rfl
set_option maxRecDepth 100000 in
theorem wd_427 : (Jvm.Cond.classLink "ReedOracles" (40 : Nat) "ReedOracles$Acts") ∈ zT := zT_mem (tb2 _ (List.mem_of_getElem? (l := tables_1_2) (i := 69) rfl)) rfl
set_option maxRecDepth 100000 in
theorem wd_428 : (Jvm.Cond.instantiable "ReedOracles$Acts" (4 : Nat)) ∈ zT := zT_mem (tb2 _ (List.mem_of_getElem? (l := tables_1_2) (i := 70) rfl)) rfl
set_option maxRecDepth 100000 in
theorem wd_429 : (Jvm.Cond.methodLink "ReedOracles" (42 : Nat) ({ cls := "ReedOracles$Acts", name := "<init>", desc := "()V" } : Jvm.MethodName)) ∈ zT := zT_mem (tb2 _ (List.mem_of_getElem? (l := tables_1_2) (i := 71) rfl)) rfl
set_option maxRecDepth 100000 in
theorem wd_430 : (Jvm.Cond.instanceMethod ({ cls := "ReedOracles$Acts", name := "<init>", desc := "()V" } : Jvm.MethodName)) ∈ zT := zT_mem (tb2 _ (List.mem_of_getElem? (l := tables_1_2) (i := 72) rfl)) rfl
set_option maxRecDepth 100000 in
theorem wd_431 : (Jvm.Cond.code ({ cls := "ReedOracles$Acts", name := "<init>", desc := "()V" } : Jvm.MethodName) prog_2_method_1_code (1 : Nat) (Option.none : Option Jvm.ClassFile.FieldType)) ∈ zT := zT_mem (tb2 _ (List.mem_of_getElem? (l := tables_1_2) (i := 73) rfl)) rfl
set_option maxRecDepth 100000 in
theorem wd_432 : (Jvm.Cond.methodLink "ReedOracles$Acts" (3 : Nat) ({ cls := "java/lang/Object", name := "<init>", desc := "()V" } : Jvm.MethodName)) ∈ zT := zT_mem (tb2 _ (List.mem_of_getElem? (l := tables_1_2) (i := 74) rfl)) rfl
set_option maxRecDepth 100000 in
theorem wd_433 : (Jvm.Cond.fieldLink "ReedOracles$Acts" (18 : Nat) "ReedOracles$Acts" "length" "I") ∈ zT := zT_mem (tb2 _ (List.mem_of_getElem? (l := tables_1_2) (i := 75) rfl)) rfl
set_option maxRecDepth 100000 in
theorem wd_434 : (Jvm.Cond.fieldLink "ReedOracles" (149 : Nat) "ReedOracles$Acts" "length" "I") ∈ zT := zT_mem (tb2 _ (List.mem_of_getElem? (l := tables_1_2) (i := 76) rfl)) rfl
set_option maxRecDepth 100000 in
theorem wd_435 : (Jvm.Cond.fieldLink "ReedOracles$Acts" (11 : Nat) "ReedOracles$Acts" "origin" "[I") ∈ zT := zT_mem (tb2 _ (List.mem_of_getElem? (l := tables_1_2) (i := 77) rfl)) rfl
set_option maxRecDepth 100000 in
theorem wd_436 : (Jvm.Cond.fieldLink "ReedOracles$Acts" (15 : Nat) "ReedOracles$Acts" "queue" "[I") ∈ zT := zT_mem (tb2 _ (List.mem_of_getElem? (l := tables_1_2) (i := 78) rfl)) rfl
set_option maxRecDepth 100000 in
theorem wd_437 : (Jvm.Cond.fieldLink "ReedOracles$Acts" (64 : Nat) "ReedOracles$Acts" "goal" "I") ∈ zT := zT_mem (tb2 _ (List.mem_of_getElem? (l := tables_1_2) (i := 79) rfl)) rfl
set_option maxRecDepth 100000 in
theorem wd_447 : (Jvm.Cond.classLink "ReedOracles" (47 : Nat) "ReedOracles$Plans") ∈ zT := zT_mem (tb2 _ (List.mem_of_getElem? (l := tables_1_2) (i := 89) rfl)) rfl
set_option maxRecDepth 100000 in
theorem wd_448 : (Jvm.Cond.instantiable "ReedOracles$Plans" (4 : Nat)) ∈ zT := zT_mem (tb2 _ (List.mem_of_getElem? (l := tables_1_2) (i := 90) rfl)) rfl
set_option maxRecDepth 100000 in
theorem wd_449 : (Jvm.Cond.methodLink "ReedOracles" (49 : Nat) ({ cls := "ReedOracles$Plans", name := "<init>", desc := "()V" } : Jvm.MethodName)) ∈ zT := zT_mem (tb2 _ (List.mem_of_getElem? (l := tables_1_2) (i := 91) rfl)) rfl
set_option maxRecDepth 100000 in
theorem wd_450 : (Jvm.Cond.instanceMethod ({ cls := "ReedOracles$Plans", name := "<init>", desc := "()V" } : Jvm.MethodName)) ∈ zT := zT_mem (tb2 _ (List.mem_of_getElem? (l := tables_1_2) (i := 92) rfl)) rfl
set_option maxRecDepth 100000 in
theorem wd_451 : (Jvm.Cond.code ({ cls := "ReedOracles$Plans", name := "<init>", desc := "()V" } : Jvm.MethodName) prog_6_method_1_code (1 : Nat) (Option.none : Option Jvm.ClassFile.FieldType)) ∈ zT := zT_mem (tb2 _ (List.mem_of_getElem? (l := tables_1_2) (i := 93) rfl)) rfl
set_option maxRecDepth 100000 in
theorem wd_452 : (Jvm.Cond.methodLink "ReedOracles$Plans" (3 : Nat) ({ cls := "java/lang/Object", name := "<init>", desc := "()V" } : Jvm.MethodName)) ∈ zT := zT_mem (tb2 _ (List.mem_of_getElem? (l := tables_1_2) (i := 94) rfl)) rfl
set_option maxRecDepth 100000 in
theorem wd_453 : (Jvm.Cond.fieldLink "ReedOracles$Plans" (11 : Nat) "ReedOracles$Plans" "shared" "[I") ∈ zT := zT_mem (tb2 _ (List.mem_of_getElem? (l := tables_1_2) (i := 95) rfl)) rfl
set_option maxRecDepth 100000 in
theorem wd_454 : (Jvm.Cond.fieldLink "ReedOracles$Plans" (15 : Nat) "ReedOracles$Plans" "wished" "[I") ∈ zT := zT_mem (tb2 _ (List.mem_of_getElem? (l := tables_1_2) (i := 96) rfl)) rfl
set_option maxRecDepth 100000 in
theorem wd_455 : (Jvm.Cond.fieldLink "ReedOracles$Plans" (18 : Nat) "ReedOracles$Plans" "worth" "[I") ∈ zT := zT_mem (tb2 _ (List.mem_of_getElem? (l := tables_1_2) (i := 97) rfl)) rfl
set_option maxRecDepth 100000 in
theorem wd_456 : (Jvm.Cond.fieldLink "ReedOracles$Plans" (21 : Nat) "ReedOracles$Plans" "lost" "[I") ∈ zT := zT_mem (tb2 _ (List.mem_of_getElem? (l := tables_1_2) (i := 98) rfl)) rfl
set_option maxRecDepth 100000 in
theorem wd_466 : (Jvm.Cond.classLink "ReedOracles" (54 : Nat) "ReedOracles$Suspects") ∈ zT := zT_mem (tb2 _ (List.mem_of_getElem? (l := tables_1_2) (i := 108) rfl)) rfl
set_option maxRecDepth 100000 in
theorem wd_467 : (Jvm.Cond.instantiable "ReedOracles$Suspects" (3 : Nat)) ∈ zT := zT_mem (tb2 _ (List.mem_of_getElem? (l := tables_1_2) (i := 109) rfl)) rfl
set_option maxRecDepth 100000 in
theorem wd_468 : (Jvm.Cond.methodLink "ReedOracles" (56 : Nat) ({ cls := "ReedOracles$Suspects", name := "<init>", desc := "()V" } : Jvm.MethodName)) ∈ zT := zT_mem (tb2 _ (List.mem_of_getElem? (l := tables_1_2) (i := 110) rfl)) rfl
set_option maxRecDepth 100000 in
theorem wd_469 : (Jvm.Cond.instanceMethod ({ cls := "ReedOracles$Suspects", name := "<init>", desc := "()V" } : Jvm.MethodName)) ∈ zT := zT_mem (tb2 _ (List.mem_of_getElem? (l := tables_1_2) (i := 111) rfl)) rfl
set_option maxRecDepth 100000 in
theorem wd_470 : (Jvm.Cond.code ({ cls := "ReedOracles$Suspects", name := "<init>", desc := "()V" } : Jvm.MethodName) prog_9_method_1_code (1 : Nat) (Option.none : Option Jvm.ClassFile.FieldType)) ∈ zT := zT_mem (tb2 _ (List.mem_of_getElem? (l := tables_1_2) (i := 112) rfl)) rfl
set_option maxRecDepth 100000 in
theorem wd_471 : (Jvm.Cond.methodLink "ReedOracles$Suspects" (3 : Nat) ({ cls := "java/lang/Object", name := "<init>", desc := "()V" } : Jvm.MethodName)) ∈ zT := zT_mem (tb2 _ (List.mem_of_getElem? (l := tables_1_2) (i := 113) rfl)) rfl
set_option maxRecDepth 100000 in
theorem wd_472 : (Jvm.Cond.fieldLink "ReedOracles$Suspects" (18 : Nat) "ReedOracles$Suspects" "size" "I") ∈ zT := zT_mem (tb2 _ (List.mem_of_getElem? (l := tables_1_2) (i := 114) rfl)) rfl
set_option maxRecDepth 100000 in
theorem wd_473 : (Jvm.Cond.fieldLink "ReedOracles" (222 : Nat) "ReedOracles$Suspects" "size" "I") ∈ zT := zT_mem (tb2 _ (List.mem_of_getElem? (l := tables_1_2) (i := 115) rfl)) rfl
set_option maxRecDepth 100000 in
theorem wd_474 : (Jvm.Cond.fieldLink "ReedOracles$Suspects" (9 : Nat) "ReedOracles$Suspects" "list" "[I") ∈ zT := zT_mem (tb2 _ (List.mem_of_getElem? (l := tables_1_2) (i := 116) rfl)) rfl
set_option maxRecDepth 100000 in
theorem wd_475 : (Jvm.Cond.fieldLink "ReedOracles$Suspects" (15 : Nat) "ReedOracles$Suspects" "heap" "[I") ∈ zT := zT_mem (tb2 _ (List.mem_of_getElem? (l := tables_1_2) (i := 117) rfl)) rfl
set_option maxRecDepth 100000 in
theorem wd_483 : (Jvm.Cond.classLink "ReedOracles" (61 : Nat) "ReedOracles$Survey") ∈ zT := zT_mem (tb2 _ (List.mem_of_getElem? (l := tables_1_2) (i := 125) rfl)) rfl
set_option maxRecDepth 100000 in
theorem wd_484 : (Jvm.Cond.instantiable "ReedOracles$Survey" (3 : Nat)) ∈ zT := zT_mem (tb2 _ (List.mem_of_getElem? (l := tables_1_2) (i := 126) rfl)) rfl
set_option maxRecDepth 100000 in
theorem wd_485 : (Jvm.Cond.methodLink "ReedOracles" (63 : Nat) ({ cls := "ReedOracles$Survey", name := "<init>", desc := "()V" } : Jvm.MethodName)) ∈ zT := zT_mem (tb2 _ (List.mem_of_getElem? (l := tables_1_2) (i := 127) rfl)) rfl
set_option maxRecDepth 100000 in
theorem wd_486 : (Jvm.Cond.instanceMethod ({ cls := "ReedOracles$Survey", name := "<init>", desc := "()V" } : Jvm.MethodName)) ∈ zT := zT_mem (tb2 _ (List.mem_of_getElem? (l := tables_1_2) (i := 128) rfl)) rfl
set_option maxRecDepth 100000 in
theorem wd_487 : (Jvm.Cond.code ({ cls := "ReedOracles$Survey", name := "<init>", desc := "()V" } : Jvm.MethodName) prog_8_method_1_code (1 : Nat) (Option.none : Option Jvm.ClassFile.FieldType)) ∈ zT := zT_mem (tb2 _ (List.mem_of_getElem? (l := tables_1_2) (i := 129) rfl)) rfl
set_option maxRecDepth 100000 in
theorem wd_488 : (Jvm.Cond.methodLink "ReedOracles$Survey" (3 : Nat) ({ cls := "java/lang/Object", name := "<init>", desc := "()V" } : Jvm.MethodName)) ∈ zT := zT_mem (tb2 _ (List.mem_of_getElem? (l := tables_1_2) (i := 130) rfl)) rfl
set_option maxRecDepth 100000 in
theorem wd_489 : (Jvm.Cond.fieldLink "ReedOracles$Survey" (9 : Nat) "ReedOracles$Survey" "heap" "[I") ∈ zT := zT_mem (tb2 _ (List.mem_of_getElem? (l := tables_1_2) (i := 131) rfl)) rfl
set_option maxRecDepth 100000 in
theorem wd_490 : (Jvm.Cond.fieldLink "ReedOracles" (196 : Nat) "ReedOracles$Survey" "heap" "[I") ∈ zT := zT_mem (tb2 _ (List.mem_of_getElem? (l := tables_1_2) (i := 132) rfl)) rfl
set_option maxRecDepth 100000 in
theorem wd_491 : (Jvm.Cond.fieldLink "ReedOracles$Survey" (15 : Nat) "ReedOracles$Survey" "owned" "[I") ∈ zT := zT_mem (tb2 _ (List.mem_of_getElem? (l := tables_1_2) (i := 133) rfl)) rfl
set_option maxRecDepth 100000 in
theorem wd_492 : (Jvm.Cond.fieldLink "ReedOracles" (340 : Nat) "ReedOracles$Survey" "owned" "[I") ∈ zT := zT_mem (tb2 _ (List.mem_of_getElem? (l := tables_1_2) (i := 134) rfl)) rfl
set_option maxRecDepth 100000 in
theorem wd_493 : (Jvm.Cond.fieldLink "ReedOracles$Survey" (18 : Nat) "ReedOracles$Survey" "sets" "[I") ∈ zT := zT_mem (tb2 _ (List.mem_of_getElem? (l := tables_1_2) (i := 135) rfl)) rfl
set_option maxRecDepth 100000 in
theorem wd_501 : (Jvm.Cond.fieldLink "ReedOracles" (10 : Nat) "ReedOracles" "now" "LReedOracles$Told;") ∈ zT := zT_mem (tb2 _ (List.mem_of_getElem? (l := tables_1_2) (i := 143) rfl)) rfl
set_option maxRecDepth 100000 in
theorem wd_502 : (Jvm.Cond.fieldLink "ReedOracles" (16 : Nat) "ReedOracles" "images" "[LReedOracles$Told;") ∈ zT := zT_mem (tb2 _ (List.mem_of_getElem? (l := tables_1_2) (i := 144) rfl)) rfl
set_option maxRecDepth 100000 in
theorem wd_503 : (Jvm.Cond.fieldLink "ReedOracles" (29 : Nat) "ReedOracles" "reader" "LReedOracles$Reader;") ∈ zT := zT_mem (tb2 _ (List.mem_of_getElem? (l := tables_1_2) (i := 145) rfl)) rfl
set_option maxRecDepth 100000 in
theorem wd_504 : (Jvm.Cond.fieldLink "ReedOracles" (36 : Nat) "ReedOracles" "course" "LReedOracles$Course;") ∈ zT := zT_mem (tb2 _ (List.mem_of_getElem? (l := tables_1_2) (i := 146) rfl)) rfl
set_option maxRecDepth 100000 in
theorem wd_505 : (Jvm.Cond.fieldLink "ReedOracles" (43 : Nat) "ReedOracles" "acts" "LReedOracles$Acts;") ∈ zT := zT_mem (tb2 _ (List.mem_of_getElem? (l := tables_1_2) (i := 147) rfl)) rfl
set_option maxRecDepth 100000 in
theorem wd_506 : (Jvm.Cond.fieldLink "ReedOracles" (50 : Nat) "ReedOracles" "plans" "LReedOracles$Plans;") ∈ zT := zT_mem (tb2 _ (List.mem_of_getElem? (l := tables_1_2) (i := 148) rfl)) rfl
set_option maxRecDepth 100000 in
theorem wd_507 : (Jvm.Cond.fieldLink "ReedOracles" (57 : Nat) "ReedOracles" "suspects" "LReedOracles$Suspects;") ∈ zT := zT_mem (tb2 _ (List.mem_of_getElem? (l := tables_1_2) (i := 149) rfl)) rfl
set_option maxRecDepth 100000 in
theorem wd_508 : (Jvm.Cond.fieldLink "ReedOracles" (64 : Nat) "ReedOracles" "survey" "LReedOracles$Survey;") ∈ zT := zT_mem (tb2 _ (List.mem_of_getElem? (l := tables_1_2) (i := 150) rfl)) rfl
set_option maxRecDepth 100000 in
theorem wd_526 : (Jvm.Cond.methodLink "ReedOraclesLaw" (13 : Nat) ({ cls := "ReedOracles", name := "feed", desc := "(IIIII)I" } : Jvm.MethodName)) ∈ zT := zT_mem (tb2 _ (List.mem_of_getElem? (l := tables_1_2) (i := 168) rfl)) rfl
set_option maxRecDepth 100000 in
theorem wd_527 : (Jvm.Cond.instanceMethod ({ cls := "ReedOracles", name := "feed", desc := "(IIIII)I" } : Jvm.MethodName)) ∈ zT := zT_mem (tb2 _ (List.mem_of_getElem? (l := tables_1_2) (i := 169) rfl)) rfl
set_option maxRecDepth 100000 in
theorem wd_528 : (Jvm.Cond.selects "ReedOracles" ({ cls := "ReedOracles", name := "feed", desc := "(IIIII)I" } : Jvm.MethodName) ({ cls := "ReedOracles", name := "feed", desc := "(IIIII)I" } : Jvm.MethodName)) ∈ zT := zT_mem (tb2 _ (List.mem_of_getElem? (l := tables_1_2) (i := 170) rfl)) rfl
set_option maxRecDepth 100000 in
theorem wd_529 : (Jvm.Cond.code ({ cls := "ReedOracles", name := "feed", desc := "(IIIII)I" } : Jvm.MethodName) prog_1_method_2_code (7 : Nat) (Option.some Jvm.ClassFile.FieldType.int)) ∈ zT := zT_mem (tb2 _ (List.mem_of_getElem? (l := tables_1_2) (i := 171) rfl)) rfl
set_option maxRecDepth 100000 in
theorem wd_530 : (Jvm.Cond.methodLink "ReedOracles" (74 : Nat) ({ cls := "ReedOracles$Tape", name := "append", desc := "(I)V" } : Jvm.MethodName)) ∈ zT := zT_mem (tb2 _ (List.mem_of_getElem? (l := tables_1_2) (i := 172) rfl)) rfl
set_option maxRecDepth 100000 in
theorem wd_531 : (Jvm.Cond.instanceMethod ({ cls := "ReedOracles$Tape", name := "append", desc := "(I)V" } : Jvm.MethodName)) ∈ zT := zT_mem (tb2 _ (List.mem_of_getElem? (l := tables_1_2) (i := 173) rfl)) rfl
set_option maxRecDepth 100000 in
theorem wd_532 : (Jvm.Cond.selects "ReedOracles$Tape" ({ cls := "ReedOracles$Tape", name := "append", desc := "(I)V" } : Jvm.MethodName) ({ cls := "ReedOracles$Tape", name := "append", desc := "(I)V" } : Jvm.MethodName)) ∈ zT := zT_mem (tb2 _ (List.mem_of_getElem? (l := tables_1_2) (i := 174) rfl)) rfl
set_option maxRecDepth 100000 in
theorem wd_533 : (Jvm.Cond.code ({ cls := "ReedOracles$Tape", name := "append", desc := "(I)V" } : Jvm.MethodName) prog_10_method_2_code (3 : Nat) (Option.none : Option Jvm.ClassFile.FieldType)) ∈ zT := zT_mem (tb2 _ (List.mem_of_getElem? (l := tables_1_2) (i := 175) rfl)) rfl
set_option maxRecDepth 100000 in
theorem wd_534 : (Jvm.Cond.methodLink "ReedOraclesLaw" (18 : Nat) ({ cls := "ReedOracles", name := "end", desc := "(I)I" } : Jvm.MethodName)) ∈ zT := zT_mem (tb2 _ (List.mem_of_getElem? (l := tables_1_2) (i := 176) rfl)) rfl
set_option maxRecDepth 100000 in
theorem wd_535 : (Jvm.Cond.instanceMethod ({ cls := "ReedOracles", name := "end", desc := "(I)I" } : Jvm.MethodName)) ∈ zT := zT_mem (tb2 _ (List.mem_of_getElem? (l := tables_1_2) (i := 177) rfl)) rfl
set_option maxRecDepth 100000 in
theorem wd_536 : (Jvm.Cond.selects "ReedOracles" ({ cls := "ReedOracles", name := "end", desc := "(I)I" } : Jvm.MethodName) ({ cls := "ReedOracles", name := "end", desc := "(I)I" } : Jvm.MethodName)) ∈ zT := zT_mem (tb2 _ (List.mem_of_getElem? (l := tables_1_2) (i := 178) rfl)) rfl
set_option maxRecDepth 100000 in
theorem wd_537 : (Jvm.Cond.code ({ cls := "ReedOracles", name := "end", desc := "(I)I" } : Jvm.MethodName) prog_1_method_3_code (2 : Nat) (Option.some Jvm.ClassFile.FieldType.int)) ∈ zT := zT_mem (tb2 _ (List.mem_of_getElem? (l := tables_1_2) (i := 179) rfl)) rfl
set_option maxRecDepth 100000 in
theorem wd_538 : (Jvm.Cond.methodLink "ReedOraclesLaw" (23 : Nat) ({ cls := "ReedOracles", name := "text", desc := "(II)I" } : Jvm.MethodName)) ∈ zT := zT_mem (tb2 _ (List.mem_of_getElem? (l := tables_1_2) (i := 180) rfl)) rfl
set_option maxRecDepth 100000 in
theorem wd_539 : (Jvm.Cond.instanceMethod ({ cls := "ReedOracles", name := "text", desc := "(II)I" } : Jvm.MethodName)) ∈ zT := zT_mem (tb2 _ (List.mem_of_getElem? (l := tables_1_2) (i := 181) rfl)) rfl
set_option maxRecDepth 100000 in
theorem wd_540 : (Jvm.Cond.selects "ReedOracles" ({ cls := "ReedOracles", name := "text", desc := "(II)I" } : Jvm.MethodName) ({ cls := "ReedOracles", name := "text", desc := "(II)I" } : Jvm.MethodName)) ∈ zT := zT_mem (tb2 _ (List.mem_of_getElem? (l := tables_1_2) (i := 182) rfl)) rfl
set_option maxRecDepth 100000 in
theorem wd_541 : (Jvm.Cond.code ({ cls := "ReedOracles", name := "text", desc := "(II)I" } : Jvm.MethodName) prog_1_method_4_code (4 : Nat) (Option.some Jvm.ClassFile.FieldType.int)) ∈ zT := zT_mem (tb2 _ (List.mem_of_getElem? (l := tables_1_2) (i := 183) rfl)) rfl
set_option maxRecDepth 100000 in
theorem wd_542 : (Jvm.Cond.methodLink "ReedOracles" (78 : Nat) ({ cls := "ReedOracles", name := "numberFor", desc := "(II)I" } : Jvm.MethodName)) ∈ zT := zT_mem (tb2 _ (List.mem_of_getElem? (l := tables_1_2) (i := 184) rfl)) rfl
set_option maxRecDepth 100000 in
theorem wd_544 : (Jvm.Cond.instanceMethod ({ cls := "ReedOracles", name := "numberFor", desc := "(II)I" } : Jvm.MethodName)) ∈ zT := zT_mem (tb2 _ (List.mem_of_getElem? (l := tables_1_2) (i := 186) rfl)) rfl
set_option maxRecDepth 100000 in
theorem wd_545 : (Jvm.Cond.code ({ cls := "ReedOracles", name := "numberFor", desc := "(II)I" } : Jvm.MethodName) prog_1_method_41_code (5 : Nat) (Option.some Jvm.ClassFile.FieldType.int)) ∈ zT := zT_mem (tb2 _ (List.mem_of_getElem? (l := tables_1_2) (i := 187) rfl)) rfl
set_option maxRecDepth 100000 in
theorem wd_546 : (Jvm.Cond.methodLink "ReedOracles" (352 : Nat) ({ cls := "ReedOracles", name := "isSort", desc := "(I)Z" } : Jvm.MethodName)) ∈ zT := zT_mem (tb2 _ (List.mem_of_getElem? (l := tables_1_2) (i := 188) rfl)) rfl
set_option maxRecDepth 100000 in
theorem wd_547 : (Jvm.Cond.static ({ cls := "ReedOracles", name := "isSort", desc := "(I)Z" } : Jvm.MethodName)) ∈ zT := zT_mem (tb2 _ (List.mem_of_getElem? (l := tables_1_2) (i := 189) rfl)) rfl
set_option maxRecDepth 100000 in
theorem wd_548 : (Jvm.Cond.code ({ cls := "ReedOracles", name := "isSort", desc := "(I)Z" } : Jvm.MethodName) prog_1_method_42_code (1 : Nat) (Option.some Jvm.ClassFile.FieldType.boolean)) ∈ zT := zT_mem (tb2 _ (List.mem_of_getElem? (l := tables_1_2) (i := 190) rfl)) rfl
set_option maxRecDepth 100000 in
theorem wd_549 : (Jvm.Cond.methodLink "ReedOracles" (82 : Nat) ({ cls := "ReedOracles$Told", name := "endTape", desc := "(II)V" } : Jvm.MethodName)) ∈ zT := zT_mem (tb2 _ (List.mem_of_getElem? (l := tables_1_2) (i := 191) rfl)) rfl
set_option maxRecDepth 100000 in
theorem wd_550 : (Jvm.Cond.instanceMethod ({ cls := "ReedOracles$Told", name := "endTape", desc := "(II)V" } : Jvm.MethodName)) ∈ zT := zT_mem (tb2 _ (List.mem_of_getElem? (l := tables_1_2) (i := 192) rfl)) rfl
set_option maxRecDepth 100000 in
theorem wd_551 : (Jvm.Cond.selects "ReedOracles$Told" ({ cls := "ReedOracles$Told", name := "endTape", desc := "(II)V" } : Jvm.MethodName) ({ cls := "ReedOracles$Told", name := "endTape", desc := "(II)V" } : Jvm.MethodName)) ∈ zT := zT_mem (tb2 _ (List.mem_of_getElem? (l := tables_1_2) (i := 193) rfl)) rfl
set_option maxRecDepth 100000 in
theorem wd_552 : (Jvm.Cond.code ({ cls := "ReedOracles$Told", name := "endTape", desc := "(II)V" } : Jvm.MethodName) prog_11_method_3_code (3 : Nat) (Option.none : Option Jvm.ClassFile.FieldType)) ∈ zT := zT_mem (tb2 _ (List.mem_of_getElem? (l := tables_1_2) (i := 194) rfl)) rfl
set_option maxRecDepth 100000 in
theorem wd_553 : (Jvm.Cond.methodLink "ReedOracles" (86 : Nat) ({ cls := "ReedOracles$Reader", name := "read", desc := "(I)V" } : Jvm.MethodName)) ∈ zT := zT_mem (tb2 _ (List.mem_of_getElem? (l := tables_1_2) (i := 195) rfl)) rfl
set_option maxRecDepth 100000 in
theorem wd_554 : (Jvm.Cond.instanceMethod ({ cls := "ReedOracles$Reader", name := "read", desc := "(I)V" } : Jvm.MethodName)) ∈ zT := zT_mem (tb2 _ (List.mem_of_getElem? (l := tables_1_2) (i := 196) rfl)) rfl
set_option maxRecDepth 100000 in
theorem wd_555 : (Jvm.Cond.selects "ReedOracles$Reader" ({ cls := "ReedOracles$Reader", name := "read", desc := "(I)V" } : Jvm.MethodName) ({ cls := "ReedOracles$Reader", name := "read", desc := "(I)V" } : Jvm.MethodName)) ∈ zT := zT_mem (tb2 _ (List.mem_of_getElem? (l := tables_1_2) (i := 197) rfl)) rfl
set_option maxRecDepth 100000 in
theorem wd_556 : (Jvm.Cond.code ({ cls := "ReedOracles$Reader", name := "read", desc := "(I)V" } : Jvm.MethodName) prog_7_method_2_code (3 : Nat) (Option.none : Option Jvm.ClassFile.FieldType)) ∈ zT := zT_mem (tb2 _ (List.mem_of_getElem? (l := tables_1_2) (i := 198) rfl)) rfl
set_option maxRecDepth 100000 in
theorem wd_557 : (Jvm.Cond.methodLink "ReedOracles$Reader" (40 : Nat) ({ cls := "ReedOracles$Duchy", name := "reset", desc := "()V" } : Jvm.MethodName)) ∈ zT := zT_mem (tb2 _ (List.mem_of_getElem? (l := tables_1_2) (i := 199) rfl)) rfl
set_option maxRecDepth 100000 in
theorem wd_558 : (Jvm.Cond.instanceMethod ({ cls := "ReedOracles$Duchy", name := "reset", desc := "()V" } : Jvm.MethodName)) ∈ zT := zT_mem (tb2 _ (List.mem_of_getElem? (l := tables_1_2) (i := 200) rfl)) rfl
set_option maxRecDepth 100000 in
theorem wd_559 : (Jvm.Cond.selects "ReedOracles$Duchy" ({ cls := "ReedOracles$Duchy", name := "reset", desc := "()V" } : Jvm.MethodName) ({ cls := "ReedOracles$Duchy", name := "reset", desc := "()V" } : Jvm.MethodName)) ∈ zT := zT_mem (tb2 _ (List.mem_of_getElem? (l := tables_1_2) (i := 201) rfl)) rfl
set_option maxRecDepth 100000 in
theorem wd_560 : (Jvm.Cond.code ({ cls := "ReedOracles$Duchy", name := "reset", desc := "()V" } : Jvm.MethodName) prog_4_method_2_code (2 : Nat) (Option.none : Option Jvm.ClassFile.FieldType)) ∈ zT := zT_mem (tb2 _ (List.mem_of_getElem? (l := tables_1_2) (i := 202) rfl)) rfl
set_option maxRecDepth 100000 in
theorem wd_561 : (Jvm.Cond.methodLink "ReedOracles$Reader" (57 : Nat) ({ cls := "ReedOracles$Reader", name := "advance", desc := "()V" } : Jvm.MethodName)) ∈ zT := zT_mem (tb2 _ (List.mem_of_getElem? (l := tables_1_2) (i := 203) rfl)) rfl
set_option maxRecDepth 100000 in
theorem wd_563 : (Jvm.Cond.instanceMethod ({ cls := "ReedOracles$Reader", name := "advance", desc := "()V" } : Jvm.MethodName)) ∈ zT := zT_mem (tb2 _ (List.mem_of_getElem? (l := tables_1_2) (i := 205) rfl)) rfl
set_option maxRecDepth 100000 in
theorem wd_564 : (Jvm.Cond.code ({ cls := "ReedOracles$Reader", name := "advance", desc := "()V" } : Jvm.MethodName) prog_7_method_14_code (1 : Nat) (Option.none : Option Jvm.ClassFile.FieldType)) ∈ zT := zT_mem (tb2 _ (List.mem_of_getElem? (l := tables_1_2) (i := 206) rfl)) rfl
set_option maxRecDepth 100000 in
theorem wd_565 : (Jvm.Cond.methodLink "ReedOracles$Reader" (193 : Nat) ({ cls := "ReedOracles$Reader", name := "isLetter", desc := "(B)Z" } : Jvm.MethodName)) ∈ zT := zT_mem (tb2 _ (List.mem_of_getElem? (l := tables_1_2) (i := 207) rfl)) rfl
set_option maxRecDepth 100000 in
theorem wd_566 : (Jvm.Cond.static ({ cls := "ReedOracles$Reader", name := "isLetter", desc := "(B)Z" } : Jvm.MethodName)) ∈ zT := zT_mem (tb2 _ (List.mem_of_getElem? (l := tables_1_2) (i := 208) rfl)) rfl
set_option maxRecDepth 100000 in
theorem wd_567 : (Jvm.Cond.code ({ cls := "ReedOracles$Reader", name := "isLetter", desc := "(B)Z" } : Jvm.MethodName) prog_7_method_17_code (1 : Nat) (Option.some Jvm.ClassFile.FieldType.boolean)) ∈ zT := zT_mem (tb2 _ (List.mem_of_getElem? (l := tables_1_2) (i := 209) rfl)) rfl
set_option maxRecDepth 100000 in
theorem wd_568 : (Jvm.Cond.methodLink "ReedOracles$Reader" (197 : Nat) ({ cls := "ReedOracles$Reader", name := "passWord", desc := "()V" } : Jvm.MethodName)) ∈ zT := zT_mem (tb2 _ (List.mem_of_getElem? (l := tables_1_2) (i := 210) rfl)) rfl
set_option maxRecDepth 100000 in
theorem wd_570 : (Jvm.Cond.instanceMethod ({ cls := "ReedOracles$Reader", name := "passWord", desc := "()V" } : Jvm.MethodName)) ∈ zT := zT_mem (tb2 _ (List.mem_of_getElem? (l := tables_1_2) (i := 212) rfl)) rfl
set_option maxRecDepth 100000 in
theorem wd_571 : (Jvm.Cond.code ({ cls := "ReedOracles$Reader", name := "passWord", desc := "()V" } : Jvm.MethodName) prog_7_method_15_code (1 : Nat) (Option.none : Option Jvm.ClassFile.FieldType)) ∈ zT := zT_mem (tb2 _ (List.mem_of_getElem? (l := tables_1_2) (i := 213) rfl)) rfl
set_option maxRecDepth 100000 in
theorem wd_572 : (Jvm.Cond.methodLink "ReedOracles$Reader" (200 : Nat) ({ cls := "ReedOracles$Reader", name := "isDigit", desc := "(B)Z" } : Jvm.MethodName)) ∈ zT := zT_mem (tb2 _ (List.mem_of_getElem? (l := tables_1_2) (i := 214) rfl)) rfl
set_option maxRecDepth 100000 in
theorem wd_573 : (Jvm.Cond.static ({ cls := "ReedOracles$Reader", name := "isDigit", desc := "(B)Z" } : Jvm.MethodName)) ∈ zT := zT_mem (tb2 _ (List.mem_of_getElem? (l := tables_1_2) (i := 215) rfl)) rfl
set_option maxRecDepth 100000 in
theorem wd_574 : (Jvm.Cond.code ({ cls := "ReedOracles$Reader", name := "isDigit", desc := "(B)Z" } : Jvm.MethodName) prog_7_method_18_code (1 : Nat) (Option.some Jvm.ClassFile.FieldType.boolean)) ∈ zT := zT_mem (tb2 _ (List.mem_of_getElem? (l := tables_1_2) (i := 216) rfl)) rfl
set_option maxRecDepth 100000 in
theorem wd_575 : (Jvm.Cond.methodLink "ReedOracles$Reader" (203 : Nat) ({ cls := "ReedOracles$Reader", name := "passNumber", desc := "()V" } : Jvm.MethodName)) ∈ zT := zT_mem (tb2 _ (List.mem_of_getElem? (l := tables_1_2) (i := 217) rfl)) rfl
set_option maxRecDepth 100000 in
theorem wd_577 : (Jvm.Cond.instanceMethod ({ cls := "ReedOracles$Reader", name := "passNumber", desc := "()V" } : Jvm.MethodName)) ∈ zT := zT_mem (tb2 _ (List.mem_of_getElem? (l := tables_1_2) (i := 219) rfl)) rfl
set_option maxRecDepth 100000 in
theorem wd_578 : (Jvm.Cond.code ({ cls := "ReedOracles$Reader", name := "passNumber", desc := "()V" } : Jvm.MethodName) prog_7_method_16_code (1 : Nat) (Option.none : Option Jvm.ClassFile.FieldType)) ∈ zT := zT_mem (tb2 _ (List.mem_of_getElem? (l := tables_1_2) (i := 220) rfl)) rfl
set_option maxRecDepth 100000 in
theorem wd_579 : (Jvm.Cond.methodLink "ReedOracles$Reader" (63 : Nat) ({ cls := "ReedOracles$Reader", name := "readLine", desc := "(I)Z" } : Jvm.MethodName)) ∈ zT := zT_mem (tb2 _ (List.mem_of_getElem? (l := tables_1_2) (i := 221) rfl)) rfl
set_option maxRecDepth 100000 in
theorem wd_581 : (Jvm.Cond.instanceMethod ({ cls := "ReedOracles$Reader", name := "readLine", desc := "(I)Z" } : Jvm.MethodName)) ∈ zT := zT_mem (tb2 _ (List.mem_of_getElem? (l := tables_1_2) (i := 223) rfl)) rfl
set_option maxRecDepth 100000 in
theorem wd_582 : (Jvm.Cond.code ({ cls := "ReedOracles$Reader", name := "readLine", desc := "(I)Z" } : Jvm.MethodName) prog_7_method_3_code (4 : Nat) (Option.some Jvm.ClassFile.FieldType.boolean)) ∈ zT := zT_mem (tb2 _ (List.mem_of_getElem? (l := tables_1_2) (i := 224) rfl)) rfl
set_option maxRecDepth 100000 in
theorem wd_583 : (Jvm.Cond.methodLink "ReedOracles$Reader" (70 : Nat) ({ cls := "ReedOracles$Reader", name := "lineOf", desc := "(I)I" } : Jvm.MethodName)) ∈ zT := zT_mem (tb2 _ (List.mem_of_getElem? (l := tables_1_2) (i := 225) rfl)) rfl
set_option maxRecDepth 100000 in
theorem wd_585 : (Jvm.Cond.instanceMethod ({ cls := "ReedOracles$Reader", name := "lineOf", desc := "(I)I" } : Jvm.MethodName)) ∈ zT := zT_mem (tb2 _ (List.mem_of_getElem? (l := tables_1_2) (i := 227) rfl)) rfl
set_option maxRecDepth 100000 in
theorem wd_586 : (Jvm.Cond.code ({ cls := "ReedOracles$Reader", name := "lineOf", desc := "(I)I" } : Jvm.MethodName) prog_7_method_8_code (2 : Nat) (Option.some Jvm.ClassFile.FieldType.int)) ∈ zT := zT_mem (tb2 _ (List.mem_of_getElem? (l := tables_1_2) (i := 228) rfl)) rfl
set_option maxRecDepth 100000 in
theorem wd_587 : (Jvm.Cond.methodLink "ReedOracles$Reader" (136 : Nat) ({ cls := "ReedOracles$Reader", name := "duchyLine", desc := "()I" } : Jvm.MethodName)) ∈ zT := zT_mem (tb2 _ (List.mem_of_getElem? (l := tables_1_2) (i := 229) rfl)) rfl
set_option maxRecDepth 100000 in
theorem wd_589 : (Jvm.Cond.instanceMethod ({ cls := "ReedOracles$Reader", name := "duchyLine", desc := "()I" } : Jvm.MethodName)) ∈ zT := zT_mem (tb2 _ (List.mem_of_getElem? (l := tables_1_2) (i := 231) rfl)) rfl
set_option maxRecDepth 100000 in
theorem wd_590 : (Jvm.Cond.code ({ cls := "ReedOracles$Reader", name := "duchyLine", desc := "()I" } : Jvm.MethodName) prog_7_method_9_code (1 : Nat) (Option.some Jvm.ClassFile.FieldType.int)) ∈ zT := zT_mem (tb2 _ (List.mem_of_getElem? (l := tables_1_2) (i := 232) rfl)) rfl
set_option maxRecDepth 100000 in
theorem wd_592 : (Jvm.Cond.methodLink "ReedOracles$Reader" (147 : Nat) ({ cls := "ReedOracles$Reader", name := "isWord", desc := "(Ljava/lang/String;)Z" } : Jvm.MethodName)) ∈ zT := zT_mem (tb2 _ (List.mem_of_getElem? (l := tables_1_2) (i := 234) rfl)) rfl
set_option maxRecDepth 100000 in
theorem wd_594 : (Jvm.Cond.instanceMethod ({ cls := "ReedOracles$Reader", name := "isWord", desc := "(Ljava/lang/String;)Z" } : Jvm.MethodName)) ∈ zT := zT_mem (tb2 _ (List.mem_of_getElem? (l := tables_1_2) (i := 236) rfl)) rfl
set_option maxRecDepth 100000 in
theorem wd_595 : (Jvm.Cond.code ({ cls := "ReedOracles$Reader", name := "isWord", desc := "(Ljava/lang/String;)Z" } : Jvm.MethodName) prog_7_method_13_code (3 : Nat) (Option.some Jvm.ClassFile.FieldType.boolean)) ∈ zT := zT_mem (tb2 _ (List.mem_of_getElem? (l := tables_1_2) (i := 237) rfl)) rfl
set_option maxRecDepth 100000 in
theorem wd_596 : (Jvm.Cond.methodLink "ReedOracles$Reader" (177 : Nat) ({ cls := "java/lang/String", name := "length", desc := "()I" } : Jvm.MethodName)) ∈ zT := zT_mem (tb2 _ (List.mem_of_getElem? (l := tables_1_2) (i := 238) rfl)) rfl
set_option maxRecDepth 100000 in
theorem wd_606 : (Jvm.Cond.methodLink "ReedOracles$Reader" (188 : Nat) ({ cls := "java/lang/String", name := "charAt", desc := "(I)C" } : Jvm.MethodName)) ∈ zT := zT_mem (tb3 _ (List.mem_of_getElem? (l := tables_1_3) (i := 8) rfl)) rfl
set_option maxRecDepth 100000 in
theorem wd_648 : (Jvm.Cond.methodLink "ReedOracles$Reader" (139 : Nat) ({ cls := "ReedOracles$Reader", name := "yearLine", desc := "()I" } : Jvm.MethodName)) ∈ zT := zT_mem (tb3 _ (List.mem_of_getElem? (l := tables_1_3) (i := 50) rfl)) rfl
set_option maxRecDepth 100000 in
theorem wd_650 : (Jvm.Cond.instanceMethod ({ cls := "ReedOracles$Reader", name := "yearLine", desc := "()I" } : Jvm.MethodName)) ∈ zT := zT_mem (tb3 _ (List.mem_of_getElem? (l := tables_1_3) (i := 52) rfl)) rfl
set_option maxRecDepth 100000 in
theorem wd_651 : (Jvm.Cond.code ({ cls := "ReedOracles$Reader", name := "yearLine", desc := "()I" } : Jvm.MethodName) prog_7_method_10_code (1 : Nat) (Option.some Jvm.ClassFile.FieldType.int)) ∈ zT := zT_mem (tb3 _ (List.mem_of_getElem? (l := tables_1_3) (i := 53) rfl)) rfl
set_option maxRecDepth 100000 in
theorem wd_657 : (Jvm.Cond.methodLink "ReedOracles$Reader" (142 : Nat) ({ cls := "ReedOracles$Reader", name := "logLine", desc := "()I" } : Jvm.MethodName)) ∈ zT := zT_mem (tb3 _ (List.mem_of_getElem? (l := tables_1_3) (i := 59) rfl)) rfl
set_option maxRecDepth 100000 in
theorem wd_659 : (Jvm.Cond.instanceMethod ({ cls := "ReedOracles$Reader", name := "logLine", desc := "()I" } : Jvm.MethodName)) ∈ zT := zT_mem (tb3 _ (List.mem_of_getElem? (l := tables_1_3) (i := 61) rfl)) rfl
set_option maxRecDepth 100000 in
theorem wd_660 : (Jvm.Cond.code ({ cls := "ReedOracles$Reader", name := "logLine", desc := "()I" } : Jvm.MethodName) prog_7_method_11_code (1 : Nat) (Option.some Jvm.ClassFile.FieldType.int)) ∈ zT := zT_mem (tb3 _ (List.mem_of_getElem? (l := tables_1_3) (i := 62) rfl)) rfl
set_option maxRecDepth 100000 in
theorem wd_663 : (Jvm.Cond.methodLink "ReedOracles$Reader" (74 : Nat) ({ cls := "ReedOracles$Reader", name := "isFull", desc := "(I)Z" } : Jvm.MethodName)) ∈ zT := zT_mem (tb3 _ (List.mem_of_getElem? (l := tables_1_3) (i := 65) rfl)) rfl
set_option maxRecDepth 100000 in
theorem wd_665 : (Jvm.Cond.instanceMethod ({ cls := "ReedOracles$Reader", name := "isFull", desc := "(I)Z" } : Jvm.MethodName)) ∈ zT := zT_mem (tb3 _ (List.mem_of_getElem? (l := tables_1_3) (i := 67) rfl)) rfl
set_option maxRecDepth 100000 in
theorem wd_666 : (Jvm.Cond.code ({ cls := "ReedOracles$Reader", name := "isFull", desc := "(I)Z" } : Jvm.MethodName) prog_7_method_5_code (2 : Nat) (Option.some Jvm.ClassFile.FieldType.boolean)) ∈ zT := zT_mem (tb3 _ (List.mem_of_getElem? (l := tables_1_3) (i := 68) rfl)) rfl
set_option maxRecDepth 100000 in
theorem wd_667 : (Jvm.Cond.methodLink "ReedOracles$Reader" (77 : Nat) ({ cls := "ReedOracles$Reader", name := "blame", desc := "(I)V" } : Jvm.MethodName)) ∈ zT := zT_mem (tb3 _ (List.mem_of_getElem? (l := tables_1_3) (i := 69) rfl)) rfl
set_option maxRecDepth 100000 in
theorem wd_669 : (Jvm.Cond.instanceMethod ({ cls := "ReedOracles$Reader", name := "blame", desc := "(I)V" } : Jvm.MethodName)) ∈ zT := zT_mem (tb3 _ (List.mem_of_getElem? (l := tables_1_3) (i := 71) rfl)) rfl
set_option maxRecDepth 100000 in
theorem wd_670 : (Jvm.Cond.code ({ cls := "ReedOracles$Reader", name := "blame", desc := "(I)V" } : Jvm.MethodName) prog_7_method_4_code (2 : Nat) (Option.none : Option Jvm.ClassFile.FieldType)) ∈ zT := zT_mem (tb3 _ (List.mem_of_getElem? (l := tables_1_3) (i := 72) rfl)) rfl
set_option maxRecDepth 100000 in
theorem wd_671 : (Jvm.Cond.fieldLink "ReedOracles$Reader" (81 : Nat) "ReedOracles$Reader" "NUMBERS" "[I") ∈ zT := zT_mem (tb3 _ (List.mem_of_getElem? (l := tables_1_3) (i := 73) rfl)) rfl
set_option maxRecDepth 100000 in
theorem wd_673 : (Jvm.Cond.methodLink "ReedOracles$Reader" (87 : Nat) ({ cls := "ReedOracles$Reader", name := "canBe", desc := "(II)Z" } : Jvm.MethodName)) ∈ zT := zT_mem (tb3 _ (List.mem_of_getElem? (l := tables_1_3) (i := 75) rfl)) rfl
set_option maxRecDepth 100000 in
theorem wd_675 : (Jvm.Cond.instanceMethod ({ cls := "ReedOracles$Reader", name := "canBe", desc := "(II)Z" } : Jvm.MethodName)) ∈ zT := zT_mem (tb3 _ (List.mem_of_getElem? (l := tables_1_3) (i := 77) rfl)) rfl
set_option maxRecDepth 100000 in
theorem wd_676 : (Jvm.Cond.code ({ cls := "ReedOracles$Reader", name := "canBe", desc := "(II)Z" } : Jvm.MethodName) prog_7_method_6_code (5 : Nat) (Option.some Jvm.ClassFile.FieldType.boolean)) ∈ zT := zT_mem (tb3 _ (List.mem_of_getElem? (l := tables_1_3) (i := 78) rfl)) rfl
set_option maxRecDepth 100000 in
theorem wd_677 : (Jvm.Cond.fieldLink "ReedOracles$Reader" (108 : Nat) "ReedOracles$Reader" "LEAST" "[I") ∈ zT := zT_mem (tb3 _ (List.mem_of_getElem? (l := tables_1_3) (i := 79) rfl)) rfl
set_option maxRecDepth 100000 in
theorem wd_679 : (Jvm.Cond.fieldLink "ReedOracles$Reader" (111 : Nat) "ReedOracles$Reader" "GREATEST" "[I") ∈ zT := zT_mem (tb3 _ (List.mem_of_getElem? (l := tables_1_3) (i := 81) rfl)) rfl
set_option maxRecDepth 100000 in
theorem wd_681 : (Jvm.Cond.methodLink "ReedOracles$Reader" (91 : Nat) ({ cls := "ReedOracles$Reader", name := "meaningHere", desc := "()I" } : Jvm.MethodName)) ∈ zT := zT_mem (tb3 _ (List.mem_of_getElem? (l := tables_1_3) (i := 83) rfl)) rfl
set_option maxRecDepth 100000 in
theorem wd_683 : (Jvm.Cond.instanceMethod ({ cls := "ReedOracles$Reader", name := "meaningHere", desc := "()I" } : Jvm.MethodName)) ∈ zT := zT_mem (tb3 _ (List.mem_of_getElem? (l := tables_1_3) (i := 85) rfl)) rfl
set_option maxRecDepth 100000 in
theorem wd_684 : (Jvm.Cond.code ({ cls := "ReedOracles$Reader", name := "meaningHere", desc := "()I" } : Jvm.MethodName) prog_7_method_12_code (1 : Nat) (Option.some Jvm.ClassFile.FieldType.int)) ∈ zT := zT_mem (tb3 _ (List.mem_of_getElem? (l := tables_1_3) (i := 86) rfl)) rfl
set_option maxRecDepth 100000 in
theorem wd_688 : (Jvm.Cond.methodLink "ReedOracles$Reader" (95 : Nat) ({ cls := "ReedOracles$Reader", name := "keep", desc := "(II)V" } : Jvm.MethodName)) ∈ zT := zT_mem (tb3 _ (List.mem_of_getElem? (l := tables_1_3) (i := 90) rfl)) rfl
set_option maxRecDepth 100000 in
theorem wd_690 : (Jvm.Cond.instanceMethod ({ cls := "ReedOracles$Reader", name := "keep", desc := "(II)V" } : Jvm.MethodName)) ∈ zT := zT_mem (tb3 _ (List.mem_of_getElem? (l := tables_1_3) (i := 92) rfl)) rfl
set_option maxRecDepth 100000 in
theorem wd_691 : (Jvm.Cond.code ({ cls := "ReedOracles$Reader", name := "keep", desc := "(II)V" } : Jvm.MethodName) prog_7_method_7_code (3 : Nat) (Option.none : Option Jvm.ClassFile.FieldType)) ∈ zT := zT_mem (tb3 _ (List.mem_of_getElem? (l := tables_1_3) (i := 93) rfl)) rfl
set_option maxRecDepth 100000 in
theorem wd_692 : (Jvm.Cond.methodLink "ReedOracles$Reader" (114 : Nat) ({ cls := "ReedOracles$Duchy", name := "addReed", desc := "(II)V" } : Jvm.MethodName)) ∈ zT := zT_mem (tb3 _ (List.mem_of_getElem? (l := tables_1_3) (i := 94) rfl)) rfl
set_option maxRecDepth 100000 in
theorem wd_693 : (Jvm.Cond.instanceMethod ({ cls := "ReedOracles$Duchy", name := "addReed", desc := "(II)V" } : Jvm.MethodName)) ∈ zT := zT_mem (tb3 _ (List.mem_of_getElem? (l := tables_1_3) (i := 95) rfl)) rfl
set_option maxRecDepth 100000 in
theorem wd_694 : (Jvm.Cond.selects "ReedOracles$Duchy" ({ cls := "ReedOracles$Duchy", name := "addReed", desc := "(II)V" } : Jvm.MethodName) ({ cls := "ReedOracles$Duchy", name := "addReed", desc := "(II)V" } : Jvm.MethodName)) ∈ zT := zT_mem (tb3 _ (List.mem_of_getElem? (l := tables_1_3) (i := 96) rfl)) rfl
set_option maxRecDepth 100000 in
theorem wd_695 : (Jvm.Cond.code ({ cls := "ReedOracles$Duchy", name := "addReed", desc := "(II)V" } : Jvm.MethodName) prog_4_method_4_code (3 : Nat) (Option.none : Option Jvm.ClassFile.FieldType)) ∈ zT := zT_mem (tb3 _ (List.mem_of_getElem? (l := tables_1_3) (i := 97) rfl)) rfl
set_option maxRecDepth 100000 in
theorem wd_696 : (Jvm.Cond.methodLink "ReedOracles$Reader" (117 : Nat) ({ cls := "ReedOracles$Duchy", name := "addPlayer", desc := "(I)V" } : Jvm.MethodName)) ∈ zT := zT_mem (tb3 _ (List.mem_of_getElem? (l := tables_1_3) (i := 98) rfl)) rfl
set_option maxRecDepth 100000 in
theorem wd_697 : (Jvm.Cond.instanceMethod ({ cls := "ReedOracles$Duchy", name := "addPlayer", desc := "(I)V" } : Jvm.MethodName)) ∈ zT := zT_mem (tb3 _ (List.mem_of_getElem? (l := tables_1_3) (i := 99) rfl)) rfl
set_option maxRecDepth 100000 in
theorem wd_698 : (Jvm.Cond.selects "ReedOracles$Duchy" ({ cls := "ReedOracles$Duchy", name := "addPlayer", desc := "(I)V" } : Jvm.MethodName) ({ cls := "ReedOracles$Duchy", name := "addPlayer", desc := "(I)V" } : Jvm.MethodName)) ∈ zT := zT_mem (tb3 _ (List.mem_of_getElem? (l := tables_1_3) (i := 100) rfl)) rfl
set_option maxRecDepth 100000 in
theorem wd_699 : (Jvm.Cond.code ({ cls := "ReedOracles$Duchy", name := "addPlayer", desc := "(I)V" } : Jvm.MethodName) prog_4_method_5_code (2 : Nat) (Option.none : Option Jvm.ClassFile.FieldType)) ∈ zT := zT_mem (tb3 _ (List.mem_of_getElem? (l := tables_1_3) (i := 101) rfl)) rfl
set_option maxRecDepth 100000 in
theorem wd_700 : (Jvm.Cond.methodLink "ReedOracles$Reader" (120 : Nat) ({ cls := "ReedOracles$Duchy", name := "addQuestion", desc := "(II)V" } : Jvm.MethodName)) ∈ zT := zT_mem (tb3 _ (List.mem_of_getElem? (l := tables_1_3) (i := 102) rfl)) rfl
set_option maxRecDepth 100000 in
theorem wd_701 : (Jvm.Cond.instanceMethod ({ cls := "ReedOracles$Duchy", name := "addQuestion", desc := "(II)V" } : Jvm.MethodName)) ∈ zT := zT_mem (tb3 _ (List.mem_of_getElem? (l := tables_1_3) (i := 103) rfl)) rfl
set_option maxRecDepth 100000 in
theorem wd_702 : (Jvm.Cond.selects "ReedOracles$Duchy" ({ cls := "ReedOracles$Duchy", name := "addQuestion", desc := "(II)V" } : Jvm.MethodName) ({ cls := "ReedOracles$Duchy", name := "addQuestion", desc := "(II)V" } : Jvm.MethodName)) ∈ zT := zT_mem (tb3 _ (List.mem_of_getElem? (l := tables_1_3) (i := 104) rfl)) rfl
set_option maxRecDepth 100000 in
theorem wd_703 : (Jvm.Cond.code ({ cls := "ReedOracles$Duchy", name := "addQuestion", desc := "(II)V" } : Jvm.MethodName) prog_4_method_6_code (3 : Nat) (Option.none : Option Jvm.ClassFile.FieldType)) ∈ zT := zT_mem (tb3 _ (List.mem_of_getElem? (l := tables_1_3) (i := 105) rfl)) rfl
set_option maxRecDepth 100000 in
theorem wd_704 : (Jvm.Cond.methodLink "ReedOracles$Reader" (129 : Nat) ({ cls := "ReedOracles$Log", name := "add", desc := "(III)V" } : Jvm.MethodName)) ∈ zT := zT_mem (tb3 _ (List.mem_of_getElem? (l := tables_1_3) (i := 106) rfl)) rfl
set_option maxRecDepth 100000 in
theorem wd_705 : (Jvm.Cond.instanceMethod ({ cls := "ReedOracles$Log", name := "add", desc := "(III)V" } : Jvm.MethodName)) ∈ zT := zT_mem (tb3 _ (List.mem_of_getElem? (l := tables_1_3) (i := 107) rfl)) rfl
set_option maxRecDepth 100000 in
theorem wd_706 : (Jvm.Cond.selects "ReedOracles$Log" ({ cls := "ReedOracles$Log", name := "add", desc := "(III)V" } : Jvm.MethodName) ({ cls := "ReedOracles$Log", name := "add", desc := "(III)V" } : Jvm.MethodName)) ∈ zT := zT_mem (tb3 _ (List.mem_of_getElem? (l := tables_1_3) (i := 108) rfl)) rfl
set_option maxRecDepth 100000 in
theorem wd_707 : (Jvm.Cond.code ({ cls := "ReedOracles$Log", name := "add", desc := "(III)V" } : Jvm.MethodName) prog_5_method_3_code (4 : Nat) (Option.none : Option Jvm.ClassFile.FieldType)) ∈ zT := zT_mem (tb3 _ (List.mem_of_getElem? (l := tables_1_3) (i := 109) rfl)) rfl
set_option maxRecDepth 100000 in
theorem wd_708 : (Jvm.Cond.methodLink "ReedOracles$Reader" (133 : Nat) ({ cls := "ReedOracles$Year", name := "add", desc := "(I[II)V" } : Jvm.MethodName)) ∈ zT := zT_mem (tb3 _ (List.mem_of_getElem? (l := tables_1_3) (i := 110) rfl)) rfl
set_option maxRecDepth 100000 in
theorem wd_709 : (Jvm.Cond.instanceMethod ({ cls := "ReedOracles$Year", name := "add", desc := "(I[II)V" } : Jvm.MethodName)) ∈ zT := zT_mem (tb3 _ (List.mem_of_getElem? (l := tables_1_3) (i := 111) rfl)) rfl
set_option maxRecDepth 100000 in
theorem wd_710 : (Jvm.Cond.selects "ReedOracles$Year" ({ cls := "ReedOracles$Year", name := "add", desc := "(I[II)V" } : Jvm.MethodName) ({ cls := "ReedOracles$Year", name := "add", desc := "(I[II)V" } : Jvm.MethodName)) ∈ zT := zT_mem (tb3 _ (List.mem_of_getElem? (l := tables_1_3) (i := 112) rfl)) rfl
set_option maxRecDepth 100000 in
theorem wd_711 : (Jvm.Cond.code ({ cls := "ReedOracles$Year", name := "add", desc := "(I[II)V" } : Jvm.MethodName) prog_12_method_3_code (6 : Nat) (Option.none : Option Jvm.ClassFile.FieldType)) ∈ zT := zT_mem (tb3 _ (List.mem_of_getElem? (l := tables_1_3) (i := 113) rfl)) rfl
set_option maxRecDepth 100000 in
theorem wd_712 : (Jvm.Cond.methodLink "ReedOracles" (95 : Nat) ({ cls := "ReedOracles$Told", name := "put", desc := "(IILReedOracles$Reader;)V" } : Jvm.MethodName)) ∈ zT := zT_mem (tb3 _ (List.mem_of_getElem? (l := tables_1_3) (i := 114) rfl)) rfl
set_option maxRecDepth 100000 in
theorem wd_713 : (Jvm.Cond.instanceMethod ({ cls := "ReedOracles$Told", name := "put", desc := "(IILReedOracles$Reader;)V" } : Jvm.MethodName)) ∈ zT := zT_mem (tb3 _ (List.mem_of_getElem? (l := tables_1_3) (i := 115) rfl)) rfl
set_option maxRecDepth 100000 in
theorem wd_714 : (Jvm.Cond.selects "ReedOracles$Told" ({ cls := "ReedOracles$Told", name := "put", desc := "(IILReedOracles$Reader;)V" } : Jvm.MethodName) ({ cls := "ReedOracles$Told", name := "put", desc := "(IILReedOracles$Reader;)V" } : Jvm.MethodName)) ∈ zT := zT_mem (tb3 _ (List.mem_of_getElem? (l := tables_1_3) (i := 116) rfl)) rfl
set_option maxRecDepth 100000 in
theorem wd_715 : (Jvm.Cond.code ({ cls := "ReedOracles$Told", name := "put", desc := "(IILReedOracles$Reader;)V" } : Jvm.MethodName) prog_11_method_4_code (4 : Nat) (Option.none : Option Jvm.ClassFile.FieldType)) ∈ zT := zT_mem (tb3 _ (List.mem_of_getElem? (l := tables_1_3) (i := 117) rfl)) rfl
set_option maxRecDepth 100000 in
theorem wd_716 : (Jvm.Cond.methodLink "ReedOracles$Told" (54 : Nat) ({ cls := "ReedOracles$Duchy", name := "copy", desc := "(LReedOracles$Duchy;)V" } : Jvm.MethodName)) ∈ zT := zT_mem (tb3 _ (List.mem_of_getElem? (l := tables_1_3) (i := 118) rfl)) rfl
set_option maxRecDepth 100000 in
theorem wd_717 : (Jvm.Cond.instanceMethod ({ cls := "ReedOracles$Duchy", name := "copy", desc := "(LReedOracles$Duchy;)V" } : Jvm.MethodName)) ∈ zT := zT_mem (tb3 _ (List.mem_of_getElem? (l := tables_1_3) (i := 119) rfl)) rfl
set_option maxRecDepth 100000 in
theorem wd_718 : (Jvm.Cond.selects "ReedOracles$Duchy" ({ cls := "ReedOracles$Duchy", name := "copy", desc := "(LReedOracles$Duchy;)V" } : Jvm.MethodName) ({ cls := "ReedOracles$Duchy", name := "copy", desc := "(LReedOracles$Duchy;)V" } : Jvm.MethodName)) ∈ zT := zT_mem (tb3 _ (List.mem_of_getElem? (l := tables_1_3) (i := 120) rfl)) rfl
set_option maxRecDepth 100000 in
theorem wd_719 : (Jvm.Cond.code ({ cls := "ReedOracles$Duchy", name := "copy", desc := "(LReedOracles$Duchy;)V" } : Jvm.MethodName) prog_4_method_3_code (2 : Nat) (Option.none : Option Jvm.ClassFile.FieldType)) ∈ zT := zT_mem (tb3 _ (List.mem_of_getElem? (l := tables_1_3) (i := 121) rfl)) rfl
set_option maxRecDepth 100000 in
theorem wd_720 : (Jvm.Cond.methodLink "ReedOracles$Duchy" (43 : Nat) ({ cls := "java/lang/System", name := "arraycopy", desc := "(Ljava/lang/Object;ILjava/lang/Object;II)V" } : Jvm.MethodName)) ∈ zT := zT_mem (tb3 _ (List.mem_of_getElem? (l := tables_1_3) (i := 122) rfl)) rfl
set_option maxRecDepth 100000 in
theorem wd_721 : (Jvm.Cond.static ({ cls := "java/lang/System", name := "arraycopy", desc := "(Ljava/lang/Object;ILjava/lang/Object;II)V" } : Jvm.MethodName)) ∈ zT := zT_mem (tb3 _ (List.mem_of_getElem? (l := tables_1_3) (i := 123) rfl)) rfl
set_option maxRecDepth 100000 in
theorem wd_722 : (Jvm.Cond.native ({ cls := "java/lang/System", name := "arraycopy", desc := "(Ljava/lang/Object;ILjava/lang/Object;II)V" } : Jvm.MethodName)) ∈ zT := zT_mem (tb3 _ (List.mem_of_getElem? (l := tables_1_3) (i := 124) rfl)) rfl
set_option maxRecDepth 100000 in
theorem wd_723 : (Jvm.Cond.methodLink "ReedOracles$Told" (57 : Nat) ({ cls := "ReedOracles$Year", name := "copy", desc := "(LReedOracles$Year;)V" } : Jvm.MethodName)) ∈ zT := zT_mem (tb3 _ (List.mem_of_getElem? (l := tables_1_3) (i := 125) rfl)) rfl
set_option maxRecDepth 100000 in
theorem wd_724 : (Jvm.Cond.instanceMethod ({ cls := "ReedOracles$Year", name := "copy", desc := "(LReedOracles$Year;)V" } : Jvm.MethodName)) ∈ zT := zT_mem (tb3 _ (List.mem_of_getElem? (l := tables_1_3) (i := 126) rfl)) rfl
set_option maxRecDepth 100000 in
theorem wd_725 : (Jvm.Cond.selects "ReedOracles$Year" ({ cls := "ReedOracles$Year", name := "copy", desc := "(LReedOracles$Year;)V" } : Jvm.MethodName) ({ cls := "ReedOracles$Year", name := "copy", desc := "(LReedOracles$Year;)V" } : Jvm.MethodName)) ∈ zT := zT_mem (tb3 _ (List.mem_of_getElem? (l := tables_1_3) (i := 127) rfl)) rfl
set_option maxRecDepth 100000 in
theorem wd_726 : (Jvm.Cond.code ({ cls := "ReedOracles$Year", name := "copy", desc := "(LReedOracles$Year;)V" } : Jvm.MethodName) prog_12_method_2_code (2 : Nat) (Option.none : Option Jvm.ClassFile.FieldType)) ∈ zT := zT_mem (tb3 _ (List.mem_of_getElem? (l := tables_1_3) (i := 128) rfl)) rfl
set_option maxRecDepth 100000 in
theorem wd_727 : (Jvm.Cond.methodLink "ReedOracles$Year" (19 : Nat) ({ cls := "java/lang/System", name := "arraycopy", desc := "(Ljava/lang/Object;ILjava/lang/Object;II)V" } : Jvm.MethodName)) ∈ zT := zT_mem (tb3 _ (List.mem_of_getElem? (l := tables_1_3) (i := 129) rfl)) rfl
set_option maxRecDepth 100000 in
theorem wd_728 : (Jvm.Cond.methodLink "ReedOracles$Told" (60 : Nat) ({ cls := "ReedOracles$Log", name := "copy", desc := "(LReedOracles$Log;)V" } : Jvm.MethodName)) ∈ zT := zT_mem (tb3 _ (List.mem_of_getElem? (l := tables_1_3) (i := 130) rfl)) rfl
set_option maxRecDepth 100000 in
theorem wd_729 : (Jvm.Cond.instanceMethod ({ cls := "ReedOracles$Log", name := "copy", desc := "(LReedOracles$Log;)V" } : Jvm.MethodName)) ∈ zT := zT_mem (tb3 _ (List.mem_of_getElem? (l := tables_1_3) (i := 131) rfl)) rfl
set_option maxRecDepth 100000 in
theorem wd_730 : (Jvm.Cond.selects "ReedOracles$Log" ({ cls := "ReedOracles$Log", name := "copy", desc := "(LReedOracles$Log;)V" } : Jvm.MethodName) ({ cls := "ReedOracles$Log", name := "copy", desc := "(LReedOracles$Log;)V" } : Jvm.MethodName)) ∈ zT := zT_mem (tb3 _ (List.mem_of_getElem? (l := tables_1_3) (i := 132) rfl)) rfl
set_option maxRecDepth 100000 in
theorem wd_731 : (Jvm.Cond.code ({ cls := "ReedOracles$Log", name := "copy", desc := "(LReedOracles$Log;)V" } : Jvm.MethodName) prog_5_method_2_code (2 : Nat) (Option.none : Option Jvm.ClassFile.FieldType)) ∈ zT := zT_mem (tb3 _ (List.mem_of_getElem? (l := tables_1_3) (i := 133) rfl)) rfl
set_option maxRecDepth 100000 in
theorem wd_732 : (Jvm.Cond.methodLink "ReedOracles$Log" (25 : Nat) ({ cls := "java/lang/System", name := "arraycopy", desc := "(Ljava/lang/Object;ILjava/lang/Object;II)V" } : Jvm.MethodName)) ∈ zT := zT_mem (tb3 _ (List.mem_of_getElem? (l := tables_1_3) (i := 134) rfl)) rfl
set_option maxRecDepth 100000 in
theorem wd_733 : (Jvm.Cond.methodLink "ReedOracles$Told" (86 : Nat) ({ cls := "java/lang/Math", name := "max", desc := "(II)I" } : Jvm.MethodName)) ∈ zT := zT_mem (tb3 _ (List.mem_of_getElem? (l := tables_1_3) (i := 135) rfl)) rfl
set_option maxRecDepth 100000 in
theorem wd_734 : (Jvm.Cond.static ({ cls := "java/lang/Math", name := "max", desc := "(II)I" } : Jvm.MethodName)) ∈ zT := zT_mem (tb3 _ (List.mem_of_getElem? (l := tables_1_3) (i := 136) rfl)) rfl
set_option maxRecDepth 100000 in
theorem wd_735 : (Jvm.Cond.code ({ cls := "java/lang/Math", name := "max", desc := "(II)I" } : Jvm.MethodName) prog_16_method_65_code (2 : Nat) (Option.some Jvm.ClassFile.FieldType.int)) ∈ zT := zT_mem (tb3 _ (List.mem_of_getElem? (l := tables_1_3) (i := 137) rfl)) rfl
set_option maxRecDepth 100000 in
theorem wd_736 : (Jvm.Cond.methodLink "ReedOraclesLaw" (28 : Nat) ({ cls := "ReedOracles", name := "fault", desc := "(I)I" } : Jvm.MethodName)) ∈ zT := zT_mem (tb3 _ (List.mem_of_getElem? (l := tables_1_3) (i := 138) rfl)) rfl
set_option maxRecDepth 100000 in
theorem wd_737 : (Jvm.Cond.instanceMethod ({ cls := "ReedOracles", name := "fault", desc := "(I)I" } : Jvm.MethodName)) ∈ zT := zT_mem (tb3 _ (List.mem_of_getElem? (l := tables_1_3) (i := 139) rfl)) rfl
set_option maxRecDepth 100000 in
theorem wd_738 : (Jvm.Cond.selects "ReedOracles" ({ cls := "ReedOracles", name := "fault", desc := "(I)I" } : Jvm.MethodName) ({ cls := "ReedOracles", name := "fault", desc := "(I)I" } : Jvm.MethodName)) ∈ zT := zT_mem (tb3 _ (List.mem_of_getElem? (l := tables_1_3) (i := 140) rfl)) rfl
set_option maxRecDepth 100000 in
theorem wd_739 : (Jvm.Cond.code ({ cls := "ReedOracles", name := "fault", desc := "(I)I" } : Jvm.MethodName) prog_1_method_5_code (2 : Nat) (Option.some Jvm.ClassFile.FieldType.int)) ∈ zT := zT_mem (tb3 _ (List.mem_of_getElem? (l := tables_1_3) (i := 141) rfl)) rfl
set_option maxRecDepth 100000 in
theorem wd_740 : (Jvm.Cond.methodLink "ReedOraclesLaw" (32 : Nat) ({ cls := "ReedOracles", name := "duchy", desc := "(II)I" } : Jvm.MethodName)) ∈ zT := zT_mem (tb3 _ (List.mem_of_getElem? (l := tables_1_3) (i := 142) rfl)) rfl
set_option maxRecDepth 100000 in
theorem wd_741 : (Jvm.Cond.instanceMethod ({ cls := "ReedOracles", name := "duchy", desc := "(II)I" } : Jvm.MethodName)) ∈ zT := zT_mem (tb3 _ (List.mem_of_getElem? (l := tables_1_3) (i := 143) rfl)) rfl
set_option maxRecDepth 100000 in
theorem wd_742 : (Jvm.Cond.selects "ReedOracles" ({ cls := "ReedOracles", name := "duchy", desc := "(II)I" } : Jvm.MethodName) ({ cls := "ReedOracles", name := "duchy", desc := "(II)I" } : Jvm.MethodName)) ∈ zT := zT_mem (tb3 _ (List.mem_of_getElem? (l := tables_1_3) (i := 144) rfl)) rfl
set_option maxRecDepth 100000 in
theorem wd_743 : (Jvm.Cond.code ({ cls := "ReedOracles", name := "duchy", desc := "(II)I" } : Jvm.MethodName) prog_1_method_6_code (4 : Nat) (Option.some Jvm.ClassFile.FieldType.int)) ∈ zT := zT_mem (tb3 _ (List.mem_of_getElem? (l := tables_1_3) (i := 145) rfl)) rfl
set_option maxRecDepth 100000 in
theorem wd_744 : (Jvm.Cond.methodLink "ReedOracles" (101 : Nat) ({ cls := "ReedOracles$Told", name := "duchyAt", desc := "(I)LReedOracles$Duchy;" } : Jvm.MethodName)) ∈ zT := zT_mem (tb3 _ (List.mem_of_getElem? (l := tables_1_3) (i := 146) rfl)) rfl
set_option maxRecDepth 100000 in
theorem wd_745 : (Jvm.Cond.instanceMethod ({ cls := "ReedOracles$Told", name := "duchyAt", desc := "(I)LReedOracles$Duchy;" } : Jvm.MethodName)) ∈ zT := zT_mem (tb3 _ (List.mem_of_getElem? (l := tables_1_3) (i := 147) rfl)) rfl
set_option maxRecDepth 100000 in
theorem wd_746 : (Jvm.Cond.selects "ReedOracles$Told" ({ cls := "ReedOracles$Told", name := "duchyAt", desc := "(I)LReedOracles$Duchy;" } : Jvm.MethodName) ({ cls := "ReedOracles$Told", name := "duchyAt", desc := "(I)LReedOracles$Duchy;" } : Jvm.MethodName)) ∈ zT := zT_mem (tb3 _ (List.mem_of_getElem? (l := tables_1_3) (i := 148) rfl)) rfl
set_option maxRecDepth 100000 in
theorem wd_747 : (Jvm.Cond.code ({ cls := "ReedOracles$Told", name := "duchyAt", desc := "(I)LReedOracles$Duchy;" } : Jvm.MethodName) prog_11_method_5_code (2 : Nat) (Option.some (Jvm.ClassFile.FieldType.object "ReedOracles$Duchy"))) ∈ zT := zT_mem (tb3 _ (List.mem_of_getElem? (l := tables_1_3) (i := 149) rfl)) rfl
set_option maxRecDepth 100000 in
theorem wd_748 : (Jvm.Cond.methodLink "ReedOracles" (105 : Nat) ({ cls := "ReedOracles$Duchy", name := "detail", desc := "(I)I" } : Jvm.MethodName)) ∈ zT := zT_mem (tb3 _ (List.mem_of_getElem? (l := tables_1_3) (i := 150) rfl)) rfl
set_option maxRecDepth 100000 in
theorem wd_749 : (Jvm.Cond.instanceMethod ({ cls := "ReedOracles$Duchy", name := "detail", desc := "(I)I" } : Jvm.MethodName)) ∈ zT := zT_mem (tb3 _ (List.mem_of_getElem? (l := tables_1_3) (i := 151) rfl)) rfl
set_option maxRecDepth 100000 in
theorem wd_750 : (Jvm.Cond.selects "ReedOracles$Duchy" ({ cls := "ReedOracles$Duchy", name := "detail", desc := "(I)I" } : Jvm.MethodName) ({ cls := "ReedOracles$Duchy", name := "detail", desc := "(I)I" } : Jvm.MethodName)) ∈ zT := zT_mem (tb3 _ (List.mem_of_getElem? (l := tables_1_3) (i := 152) rfl)) rfl
set_option maxRecDepth 100000 in
theorem wd_751 : (Jvm.Cond.code ({ cls := "ReedOracles$Duchy", name := "detail", desc := "(I)I" } : Jvm.MethodName) prog_4_method_12_code (3 : Nat) (Option.some Jvm.ClassFile.FieldType.int)) ∈ zT := zT_mem (tb3 _ (List.mem_of_getElem? (l := tables_1_3) (i := 153) rfl)) rfl
set_option maxRecDepth 100000 in
theorem wd_752 : (Jvm.Cond.methodLink "ReedOracles$Duchy" (70 : Nat) ({ cls := "ReedOracles$Duchy", name := "headline", desc := "(I)I" } : Jvm.MethodName)) ∈ zT := zT_mem (tb3 _ (List.mem_of_getElem? (l := tables_1_3) (i := 154) rfl)) rfl
set_option maxRecDepth 100000 in
theorem wd_754 : (Jvm.Cond.instanceMethod ({ cls := "ReedOracles$Duchy", name := "headline", desc := "(I)I" } : Jvm.MethodName)) ∈ zT := zT_mem (tb3 _ (List.mem_of_getElem? (l := tables_1_3) (i := 156) rfl)) rfl
set_option maxRecDepth 100000 in
theorem wd_755 : (Jvm.Cond.code ({ cls := "ReedOracles$Duchy", name := "headline", desc := "(I)I" } : Jvm.MethodName) prog_4_method_13_code (2 : Nat) (Option.some Jvm.ClassFile.FieldType.int)) ∈ zT := zT_mem (tb3 _ (List.mem_of_getElem? (l := tables_1_3) (i := 157) rfl)) rfl
set_option maxRecDepth 100000 in
theorem wd_756 : (Jvm.Cond.methodLink "ReedOracles$Duchy" (49 : Nat) ({ cls := "ReedOracles$Duchy", name := "hasReed", desc := "(I)Z" } : Jvm.MethodName)) ∈ zT := zT_mem (tb3 _ (List.mem_of_getElem? (l := tables_1_3) (i := 158) rfl)) rfl
set_option maxRecDepth 100000 in
theorem wd_757 : (Jvm.Cond.instanceMethod ({ cls := "ReedOracles$Duchy", name := "hasReed", desc := "(I)Z" } : Jvm.MethodName)) ∈ zT := zT_mem (tb3 _ (List.mem_of_getElem? (l := tables_1_3) (i := 159) rfl)) rfl
set_option maxRecDepth 100000 in
theorem wd_758 : (Jvm.Cond.selects "ReedOracles$Duchy" ({ cls := "ReedOracles$Duchy", name := "hasReed", desc := "(I)Z" } : Jvm.MethodName) ({ cls := "ReedOracles$Duchy", name := "hasReed", desc := "(I)Z" } : Jvm.MethodName)) ∈ zT := zT_mem (tb3 _ (List.mem_of_getElem? (l := tables_1_3) (i := 160) rfl)) rfl
set_option maxRecDepth 100000 in
theorem wd_759 : (Jvm.Cond.code ({ cls := "ReedOracles$Duchy", name := "hasReed", desc := "(I)Z" } : Jvm.MethodName) prog_4_method_7_code (2 : Nat) (Option.some Jvm.ClassFile.FieldType.boolean)) ∈ zT := zT_mem (tb3 _ (List.mem_of_getElem? (l := tables_1_3) (i := 161) rfl)) rfl
set_option maxRecDepth 100000 in
theorem wd_760 : (Jvm.Cond.methodLink "ReedOracles$Duchy" (53 : Nat) ({ cls := "ReedOracles$Duchy", name := "hasPlayer", desc := "(I)Z" } : Jvm.MethodName)) ∈ zT := zT_mem (tb3 _ (List.mem_of_getElem? (l := tables_1_3) (i := 162) rfl)) rfl
set_option maxRecDepth 100000 in
theorem wd_761 : (Jvm.Cond.instanceMethod ({ cls := "ReedOracles$Duchy", name := "hasPlayer", desc := "(I)Z" } : Jvm.MethodName)) ∈ zT := zT_mem (tb3 _ (List.mem_of_getElem? (l := tables_1_3) (i := 163) rfl)) rfl
set_option maxRecDepth 100000 in
theorem wd_762 : (Jvm.Cond.selects "ReedOracles$Duchy" ({ cls := "ReedOracles$Duchy", name := "hasPlayer", desc := "(I)Z" } : Jvm.MethodName) ({ cls := "ReedOracles$Duchy", name := "hasPlayer", desc := "(I)Z" } : Jvm.MethodName)) ∈ zT := zT_mem (tb3 _ (List.mem_of_getElem? (l := tables_1_3) (i := 164) rfl)) rfl
set_option maxRecDepth 100000 in
theorem wd_763 : (Jvm.Cond.code ({ cls := "ReedOracles$Duchy", name := "hasPlayer", desc := "(I)Z" } : Jvm.MethodName) prog_4_method_8_code (2 : Nat) (Option.some Jvm.ClassFile.FieldType.boolean)) ∈ zT := zT_mem (tb3 _ (List.mem_of_getElem? (l := tables_1_3) (i := 165) rfl)) rfl
set_option maxRecDepth 100000 in
theorem wd_764 : (Jvm.Cond.methodLink "ReedOracles$Duchy" (56 : Nat) ({ cls := "ReedOracles$Duchy", name := "hasQuestion", desc := "(I)Z" } : Jvm.MethodName)) ∈ zT := zT_mem (tb3 _ (List.mem_of_getElem? (l := tables_1_3) (i := 166) rfl)) rfl
set_option maxRecDepth 100000 in
theorem wd_765 : (Jvm.Cond.instanceMethod ({ cls := "ReedOracles$Duchy", name := "hasQuestion", desc := "(I)Z" } : Jvm.MethodName)) ∈ zT := zT_mem (tb3 _ (List.mem_of_getElem? (l := tables_1_3) (i := 167) rfl)) rfl
set_option maxRecDepth 100000 in
theorem wd_766 : (Jvm.Cond.selects "ReedOracles$Duchy" ({ cls := "ReedOracles$Duchy", name := "hasQuestion", desc := "(I)Z" } : Jvm.MethodName) ({ cls := "ReedOracles$Duchy", name := "hasQuestion", desc := "(I)Z" } : Jvm.MethodName)) ∈ zT := zT_mem (tb3 _ (List.mem_of_getElem? (l := tables_1_3) (i := 168) rfl)) rfl
set_option maxRecDepth 100000 in
theorem wd_767 : (Jvm.Cond.code ({ cls := "ReedOracles$Duchy", name := "hasQuestion", desc := "(I)Z" } : Jvm.MethodName) prog_4_method_9_code (2 : Nat) (Option.some Jvm.ClassFile.FieldType.boolean)) ∈ zT := zT_mem (tb3 _ (List.mem_of_getElem? (l := tables_1_3) (i := 169) rfl)) rfl
set_option maxRecDepth 100000 in
theorem wd_768 : (Jvm.Cond.methodLink "ReedOraclesLaw" (36 : Nat) ({ cls := "ReedOracles", name := "note", desc := "(IIIIZ)I" } : Jvm.MethodName)) ∈ zT := zT_mem (tb3 _ (List.mem_of_getElem? (l := tables_1_3) (i := 170) rfl)) rfl
set_option maxRecDepth 100000 in
theorem wd_769 : (Jvm.Cond.instanceMethod ({ cls := "ReedOracles", name := "note", desc := "(IIIIZ)I" } : Jvm.MethodName)) ∈ zT := zT_mem (tb3 _ (List.mem_of_getElem? (l := tables_1_3) (i := 171) rfl)) rfl
set_option maxRecDepth 100000 in
theorem wd_770 : (Jvm.Cond.selects "ReedOracles" ({ cls := "ReedOracles", name := "note", desc := "(IIIIZ)I" } : Jvm.MethodName) ({ cls := "ReedOracles", name := "note", desc := "(IIIIZ)I" } : Jvm.MethodName)) ∈ zT := zT_mem (tb3 _ (List.mem_of_getElem? (l := tables_1_3) (i := 172) rfl)) rfl
set_option maxRecDepth 100000 in
theorem wd_771 : (Jvm.Cond.code ({ cls := "ReedOracles", name := "note", desc := "(IIIIZ)I" } : Jvm.MethodName) prog_1_method_7_code (8 : Nat) (Option.some Jvm.ClassFile.FieldType.int)) ∈ zT := zT_mem (tb3 _ (List.mem_of_getElem? (l := tables_1_3) (i := 173) rfl)) rfl
set_option maxRecDepth 100000 in
theorem wd_772 : (Jvm.Cond.methodLink "ReedOracles" (111 : Nat) ({ cls := "ReedOracles$Duchy", name := "hasAll", desc := "(III)Z" } : Jvm.MethodName)) ∈ zT := zT_mem (tb3 _ (List.mem_of_getElem? (l := tables_1_3) (i := 174) rfl)) rfl
