set_option maxRecDepth 100000 in
theorem wd_773 : (Jvm.Cond.instanceMethod ({ cls := "ReedOracles$Duchy", name := "hasAll", desc := "(III)Z" } : Jvm.MethodName)) ∈ zT := zT_mem (tb3 _ (List.mem_of_getElem? (l := tables_1_3) (i := 175) rfl)) rfl
set_option maxRecDepth 100000 in
theorem wd_774 : (Jvm.Cond.selects "ReedOracles$Duchy" ({ cls := "ReedOracles$Duchy", name := "hasAll", desc := "(III)Z" } : Jvm.MethodName) ({ cls := "ReedOracles$Duchy", name := "hasAll", desc := "(III)Z" } : Jvm.MethodName)) ∈ zT := zT_mem (tb3 _ (List.mem_of_getElem? (l := tables_1_3) (i := 176) rfl)) rfl
set_option maxRecDepth 100000 in
theorem wd_775 : (Jvm.Cond.code ({ cls := "ReedOracles$Duchy", name := "hasAll", desc := "(III)Z" } : Jvm.MethodName) prog_4_method_10_code (4 : Nat) (Option.some Jvm.ClassFile.FieldType.boolean)) ∈ zT := zT_mem (tb3 _ (List.mem_of_getElem? (l := tables_1_3) (i := 177) rfl)) rfl
set_option maxRecDepth 100000 in
theorem wd_776 : (Jvm.Cond.methodLink "ReedOracles" (115 : Nat) ({ cls := "ReedOracles$Duchy", name := "noteOf", desc := "(III)I" } : Jvm.MethodName)) ∈ zT := zT_mem (tb3 _ (List.mem_of_getElem? (l := tables_1_3) (i := 178) rfl)) rfl
set_option maxRecDepth 100000 in
theorem wd_777 : (Jvm.Cond.instanceMethod ({ cls := "ReedOracles$Duchy", name := "noteOf", desc := "(III)I" } : Jvm.MethodName)) ∈ zT := zT_mem (tb3 _ (List.mem_of_getElem? (l := tables_1_3) (i := 179) rfl)) rfl
set_option maxRecDepth 100000 in
theorem wd_778 : (Jvm.Cond.selects "ReedOracles$Duchy" ({ cls := "ReedOracles$Duchy", name := "noteOf", desc := "(III)I" } : Jvm.MethodName) ({ cls := "ReedOracles$Duchy", name := "noteOf", desc := "(III)I" } : Jvm.MethodName)) ∈ zT := zT_mem (tb3 _ (List.mem_of_getElem? (l := tables_1_3) (i := 180) rfl)) rfl
set_option maxRecDepth 100000 in
theorem wd_779 : (Jvm.Cond.code ({ cls := "ReedOracles$Duchy", name := "noteOf", desc := "(III)I" } : Jvm.MethodName) prog_4_method_16_code (4 : Nat) (Option.some Jvm.ClassFile.FieldType.int)) ∈ zT := zT_mem (tb3 _ (List.mem_of_getElem? (l := tables_1_3) (i := 181) rfl)) rfl
set_option maxRecDepth 100000 in
theorem wd_780 : (Jvm.Cond.methodLink "ReedOracles$Duchy" (78 : Nat) ({ cls := "ReedOracles$Duchy", name := "noteAt", desc := "(IIIII)I" } : Jvm.MethodName)) ∈ zT := zT_mem (tb3 _ (List.mem_of_getElem? (l := tables_1_3) (i := 182) rfl)) rfl
set_option maxRecDepth 100000 in
theorem wd_781 : (Jvm.Cond.instanceMethod ({ cls := "ReedOracles$Duchy", name := "noteAt", desc := "(IIIII)I" } : Jvm.MethodName)) ∈ zT := zT_mem (tb3 _ (List.mem_of_getElem? (l := tables_1_3) (i := 183) rfl)) rfl
set_option maxRecDepth 100000 in
theorem wd_782 : (Jvm.Cond.selects "ReedOracles$Duchy" ({ cls := "ReedOracles$Duchy", name := "noteAt", desc := "(IIIII)I" } : Jvm.MethodName) ({ cls := "ReedOracles$Duchy", name := "noteAt", desc := "(IIIII)I" } : Jvm.MethodName)) ∈ zT := zT_mem (tb3 _ (List.mem_of_getElem? (l := tables_1_3) (i := 184) rfl)) rfl
set_option maxRecDepth 100000 in
theorem wd_783 : (Jvm.Cond.code ({ cls := "ReedOracles$Duchy", name := "noteAt", desc := "(IIIII)I" } : Jvm.MethodName) prog_4_method_15_code (7 : Nat) (Option.some Jvm.ClassFile.FieldType.int)) ∈ zT := zT_mem (tb3 _ (List.mem_of_getElem? (l := tables_1_3) (i := 185) rfl)) rfl
set_option maxRecDepth 100000 in
theorem wd_784 : (Jvm.Cond.methodLink "ReedOracles$Duchy" (74 : Nat) ({ cls := "ReedOracles$Duchy", name := "coughs", desc := "(III)Z" } : Jvm.MethodName)) ∈ zT := zT_mem (tb3 _ (List.mem_of_getElem? (l := tables_1_3) (i := 186) rfl)) rfl
set_option maxRecDepth 100000 in
theorem wd_785 : (Jvm.Cond.instanceMethod ({ cls := "ReedOracles$Duchy", name := "coughs", desc := "(III)Z" } : Jvm.MethodName)) ∈ zT := zT_mem (tb3 _ (List.mem_of_getElem? (l := tables_1_3) (i := 187) rfl)) rfl
set_option maxRecDepth 100000 in
theorem wd_786 : (Jvm.Cond.selects "ReedOracles$Duchy" ({ cls := "ReedOracles$Duchy", name := "coughs", desc := "(III)Z" } : Jvm.MethodName) ({ cls := "ReedOracles$Duchy", name := "coughs", desc := "(III)Z" } : Jvm.MethodName)) ∈ zT := zT_mem (tb3 _ (List.mem_of_getElem? (l := tables_1_3) (i := 188) rfl)) rfl
set_option maxRecDepth 100000 in
theorem wd_787 : (Jvm.Cond.code ({ cls := "ReedOracles$Duchy", name := "coughs", desc := "(III)Z" } : Jvm.MethodName) prog_4_method_14_code (4 : Nat) (Option.some Jvm.ClassFile.FieldType.boolean)) ∈ zT := zT_mem (tb3 _ (List.mem_of_getElem? (l := tables_1_3) (i := 189) rfl)) rfl
set_option maxRecDepth 100000 in
theorem wd_788 : (Jvm.Cond.methodLink "ReedOracles" (119 : Nat) ({ cls := "ReedOracles$Duchy", name := "meaning", desc := "(I)I" } : Jvm.MethodName)) ∈ zT := zT_mem (tb3 _ (List.mem_of_getElem? (l := tables_1_3) (i := 190) rfl)) rfl
set_option maxRecDepth 100000 in
theorem wd_789 : (Jvm.Cond.instanceMethod ({ cls := "ReedOracles$Duchy", name := "meaning", desc := "(I)I" } : Jvm.MethodName)) ∈ zT := zT_mem (tb3 _ (List.mem_of_getElem? (l := tables_1_3) (i := 191) rfl)) rfl
set_option maxRecDepth 100000 in
theorem wd_790 : (Jvm.Cond.selects "ReedOracles$Duchy" ({ cls := "ReedOracles$Duchy", name := "meaning", desc := "(I)I" } : Jvm.MethodName) ({ cls := "ReedOracles$Duchy", name := "meaning", desc := "(I)I" } : Jvm.MethodName)) ∈ zT := zT_mem (tb3 _ (List.mem_of_getElem? (l := tables_1_3) (i := 192) rfl)) rfl
set_option maxRecDepth 100000 in
theorem wd_791 : (Jvm.Cond.code ({ cls := "ReedOracles$Duchy", name := "meaning", desc := "(I)I" } : Jvm.MethodName) prog_4_method_18_code (2 : Nat) (Option.some Jvm.ClassFile.FieldType.int)) ∈ zT := zT_mem (tb3 _ (List.mem_of_getElem? (l := tables_1_3) (i := 193) rfl)) rfl
set_option maxRecDepth 100000 in
theorem wd_792 : (Jvm.Cond.methodLink "ReedOraclesLaw" (41 : Nat) ({ cls := "ReedOracles", name := "deed", desc := "(III)I" } : Jvm.MethodName)) ∈ zT := zT_mem (tb3 _ (List.mem_of_getElem? (l := tables_1_3) (i := 194) rfl)) rfl
set_option maxRecDepth 100000 in
theorem wd_793 : (Jvm.Cond.instanceMethod ({ cls := "ReedOracles", name := "deed", desc := "(III)I" } : Jvm.MethodName)) ∈ zT := zT_mem (tb3 _ (List.mem_of_getElem? (l := tables_1_3) (i := 195) rfl)) rfl
set_option maxRecDepth 100000 in
theorem wd_794 : (Jvm.Cond.selects "ReedOracles" ({ cls := "ReedOracles", name := "deed", desc := "(III)I" } : Jvm.MethodName) ({ cls := "ReedOracles", name := "deed", desc := "(III)I" } : Jvm.MethodName)) ∈ zT := zT_mem (tb3 _ (List.mem_of_getElem? (l := tables_1_3) (i := 196) rfl)) rfl
set_option maxRecDepth 100000 in
theorem wd_795 : (Jvm.Cond.code ({ cls := "ReedOracles", name := "deed", desc := "(III)I" } : Jvm.MethodName) prog_1_method_8_code (5 : Nat) (Option.some Jvm.ClassFile.FieldType.int)) ∈ zT := zT_mem (tb3 _ (List.mem_of_getElem? (l := tables_1_3) (i := 197) rfl)) rfl
set_option maxRecDepth 100000 in
theorem wd_796 : (Jvm.Cond.methodLink "ReedOracles" (122 : Nat) ({ cls := "ReedOracles$Told", name := "yearAt", desc := "(I)LReedOracles$Year;" } : Jvm.MethodName)) ∈ zT := zT_mem (tb3 _ (List.mem_of_getElem? (l := tables_1_3) (i := 198) rfl)) rfl
set_option maxRecDepth 100000 in
theorem wd_797 : (Jvm.Cond.instanceMethod ({ cls := "ReedOracles$Told", name := "yearAt", desc := "(I)LReedOracles$Year;" } : Jvm.MethodName)) ∈ zT := zT_mem (tb3 _ (List.mem_of_getElem? (l := tables_1_3) (i := 199) rfl)) rfl
set_option maxRecDepth 100000 in
theorem wd_798 : (Jvm.Cond.selects "ReedOracles$Told" ({ cls := "ReedOracles$Told", name := "yearAt", desc := "(I)LReedOracles$Year;" } : Jvm.MethodName) ({ cls := "ReedOracles$Told", name := "yearAt", desc := "(I)LReedOracles$Year;" } : Jvm.MethodName)) ∈ zT := zT_mem (tb3 _ (List.mem_of_getElem? (l := tables_1_3) (i := 200) rfl)) rfl
set_option maxRecDepth 100000 in
theorem wd_799 : (Jvm.Cond.code ({ cls := "ReedOracles$Told", name := "yearAt", desc := "(I)LReedOracles$Year;" } : Jvm.MethodName) prog_11_method_6_code (2 : Nat) (Option.some (Jvm.ClassFile.FieldType.object "ReedOracles$Year"))) ∈ zT := zT_mem (tb3 _ (List.mem_of_getElem? (l := tables_1_3) (i := 201) rfl)) rfl
set_option maxRecDepth 100000 in
theorem wd_800 : (Jvm.Cond.methodLink "ReedOracles" (126 : Nat) ({ cls := "ReedOracles$Year", name := "detail", desc := "(II)I" } : Jvm.MethodName)) ∈ zT := zT_mem (tb3 _ (List.mem_of_getElem? (l := tables_1_3) (i := 202) rfl)) rfl
set_option maxRecDepth 100000 in
theorem wd_801 : (Jvm.Cond.instanceMethod ({ cls := "ReedOracles$Year", name := "detail", desc := "(II)I" } : Jvm.MethodName)) ∈ zT := zT_mem (tb3 _ (List.mem_of_getElem? (l := tables_1_3) (i := 203) rfl)) rfl
set_option maxRecDepth 100000 in
theorem wd_802 : (Jvm.Cond.selects "ReedOracles$Year" ({ cls := "ReedOracles$Year", name := "detail", desc := "(II)I" } : Jvm.MethodName) ({ cls := "ReedOracles$Year", name := "detail", desc := "(II)I" } : Jvm.MethodName)) ∈ zT := zT_mem (tb3 _ (List.mem_of_getElem? (l := tables_1_3) (i := 204) rfl)) rfl
set_option maxRecDepth 100000 in
theorem wd_803 : (Jvm.Cond.code ({ cls := "ReedOracles$Year", name := "detail", desc := "(II)I" } : Jvm.MethodName) prog_12_method_5_code (3 : Nat) (Option.some Jvm.ClassFile.FieldType.int)) ∈ zT := zT_mem (tb3 _ (List.mem_of_getElem? (l := tables_1_3) (i := 205) rfl)) rfl
set_option maxRecDepth 100000 in
theorem wd_804 : (Jvm.Cond.methodLink "ReedOracles$Year" (25 : Nat) ({ cls := "ReedOracles$Year", name := "cell", desc := "(II)I" } : Jvm.MethodName)) ∈ zT := zT_mem (tb3 _ (List.mem_of_getElem? (l := tables_1_3) (i := 206) rfl)) rfl
set_option maxRecDepth 100000 in
theorem wd_805 : (Jvm.Cond.instanceMethod ({ cls := "ReedOracles$Year", name := "cell", desc := "(II)I" } : Jvm.MethodName)) ∈ zT := zT_mem (tb3 _ (List.mem_of_getElem? (l := tables_1_3) (i := 207) rfl)) rfl
set_option maxRecDepth 100000 in
theorem wd_806 : (Jvm.Cond.selects "ReedOracles$Year" ({ cls := "ReedOracles$Year", name := "cell", desc := "(II)I" } : Jvm.MethodName) ({ cls := "ReedOracles$Year", name := "cell", desc := "(II)I" } : Jvm.MethodName)) ∈ zT := zT_mem (tb3 _ (List.mem_of_getElem? (l := tables_1_3) (i := 208) rfl)) rfl
set_option maxRecDepth 100000 in
theorem wd_807 : (Jvm.Cond.code ({ cls := "ReedOracles$Year", name := "cell", desc := "(II)I" } : Jvm.MethodName) prog_12_method_4_code (3 : Nat) (Option.some Jvm.ClassFile.FieldType.int)) ∈ zT := zT_mem (tb3 _ (List.mem_of_getElem? (l := tables_1_3) (i := 209) rfl)) rfl
set_option maxRecDepth 100000 in
theorem wd_808 : (Jvm.Cond.methodLink "ReedOraclesLaw" (46 : Nat) ({ cls := "ReedOracles", name := "stop", desc := "(II)I" } : Jvm.MethodName)) ∈ zT := zT_mem (tb3 _ (List.mem_of_getElem? (l := tables_1_3) (i := 210) rfl)) rfl
set_option maxRecDepth 100000 in
theorem wd_809 : (Jvm.Cond.instanceMethod ({ cls := "ReedOracles", name := "stop", desc := "(II)I" } : Jvm.MethodName)) ∈ zT := zT_mem (tb3 _ (List.mem_of_getElem? (l := tables_1_3) (i := 211) rfl)) rfl
set_option maxRecDepth 100000 in
theorem wd_810 : (Jvm.Cond.selects "ReedOracles" ({ cls := "ReedOracles", name := "stop", desc := "(II)I" } : Jvm.MethodName) ({ cls := "ReedOracles", name := "stop", desc := "(II)I" } : Jvm.MethodName)) ∈ zT := zT_mem (tb3 _ (List.mem_of_getElem? (l := tables_1_3) (i := 212) rfl)) rfl
set_option maxRecDepth 100000 in
theorem wd_811 : (Jvm.Cond.code ({ cls := "ReedOracles", name := "stop", desc := "(II)I" } : Jvm.MethodName) prog_1_method_9_code (5 : Nat) (Option.some Jvm.ClassFile.FieldType.int)) ∈ zT := zT_mem (tb3 _ (List.mem_of_getElem? (l := tables_1_3) (i := 213) rfl)) rfl
set_option maxRecDepth 100000 in
theorem wd_812 : (Jvm.Cond.methodLink "ReedOracles" (131 : Nat) ({ cls := "ReedOracles$Course", name := "run", desc := "(LReedOracles$Duchy;LReedOracles$Year;I)V" } : Jvm.MethodName)) ∈ zT := zT_mem (tb3 _ (List.mem_of_getElem? (l := tables_1_3) (i := 214) rfl)) rfl
set_option maxRecDepth 100000 in
theorem wd_813 : (Jvm.Cond.instanceMethod ({ cls := "ReedOracles$Course", name := "run", desc := "(LReedOracles$Duchy;LReedOracles$Year;I)V" } : Jvm.MethodName)) ∈ zT := zT_mem (tb3 _ (List.mem_of_getElem? (l := tables_1_3) (i := 215) rfl)) rfl
set_option maxRecDepth 100000 in
theorem wd_814 : (Jvm.Cond.selects "ReedOracles$Course" ({ cls := "ReedOracles$Course", name := "run", desc := "(LReedOracles$Duchy;LReedOracles$Year;I)V" } : Jvm.MethodName) ({ cls := "ReedOracles$Course", name := "run", desc := "(LReedOracles$Duchy;LReedOracles$Year;I)V" } : Jvm.MethodName)) ∈ zT := zT_mem (tb3 _ (List.mem_of_getElem? (l := tables_1_3) (i := 216) rfl)) rfl
set_option maxRecDepth 100000 in
theorem wd_815 : (Jvm.Cond.code ({ cls := "ReedOracles$Course", name := "run", desc := "(LReedOracles$Duchy;LReedOracles$Year;I)V" } : Jvm.MethodName) prog_3_method_3_code (5 : Nat) (Option.none : Option Jvm.ClassFile.FieldType)) ∈ zT := zT_mem (tb3 _ (List.mem_of_getElem? (l := tables_1_3) (i := 217) rfl)) rfl
set_option maxRecDepth 100000 in
theorem wd_816 : (Jvm.Cond.methodLink "ReedOracles$Course" (78 : Nat) ({ cls := "ReedOracles$Course", name := "begin", desc := "(LReedOracles$Duchy;)V" } : Jvm.MethodName)) ∈ zT := zT_mem (tb3 _ (List.mem_of_getElem? (l := tables_1_3) (i := 218) rfl)) rfl
set_option maxRecDepth 100000 in
theorem wd_818 : (Jvm.Cond.instanceMethod ({ cls := "ReedOracles$Course", name := "begin", desc := "(LReedOracles$Duchy;)V" } : Jvm.MethodName)) ∈ zT := zT_mem (tb3 _ (List.mem_of_getElem? (l := tables_1_3) (i := 220) rfl)) rfl
set_option maxRecDepth 100000 in
theorem wd_819 : (Jvm.Cond.code ({ cls := "ReedOracles$Course", name := "begin", desc := "(LReedOracles$Duchy;)V" } : Jvm.MethodName) prog_3_method_2_code (2 : Nat) (Option.none : Option Jvm.ClassFile.FieldType)) ∈ zT := zT_mem (tb3 _ (List.mem_of_getElem? (l := tables_1_3) (i := 221) rfl)) rfl
set_option maxRecDepth 100000 in
theorem wd_820 : (Jvm.Cond.methodLink "ReedOracles$Course" (33 : Nat) ({ cls := "java/lang/System", name := "arraycopy", desc := "(Ljava/lang/Object;ILjava/lang/Object;II)V" } : Jvm.MethodName)) ∈ zT := zT_mem (tb3 _ (List.mem_of_getElem? (l := tables_1_3) (i := 222) rfl)) rfl
set_option maxRecDepth 100000 in
theorem wd_821 : (Jvm.Cond.methodLink "ReedOracles$Course" (40 : Nat) ({ cls := "java/util/Arrays", name := "fill", desc := "([II)V" } : Jvm.MethodName)) ∈ zT := zT_mem (tb3 _ (List.mem_of_getElem? (l := tables_1_3) (i := 223) rfl)) rfl
set_option maxRecDepth 100000 in
theorem wd_822 : (Jvm.Cond.static ({ cls := "java/util/Arrays", name := "fill", desc := "([II)V" } : Jvm.MethodName)) ∈ zT := zT_mem (tb3 _ (List.mem_of_getElem? (l := tables_1_3) (i := 224) rfl)) rfl
set_option maxRecDepth 100000 in
theorem wd_823 : (Jvm.Cond.code ({ cls := "java/util/Arrays", name := "fill", desc := "([II)V" } : Jvm.MethodName) prog_21_method_103_code (4 : Nat) (Option.none : Option Jvm.ClassFile.FieldType)) ∈ zT := zT_mem (tb3 _ (List.mem_of_getElem? (l := tables_1_3) (i := 225) rfl)) rfl
set_option maxRecDepth 100000 in
theorem wd_824 : (Jvm.Cond.methodLink "ReedOracles$Course" (87 : Nat) ({ cls := "ReedOracles$Course", name := "apply", desc := "(LReedOracles$Duchy;LReedOracles$Year;I)Z" } : Jvm.MethodName)) ∈ zT := zT_mem (tb3 _ (List.mem_of_getElem? (l := tables_1_3) (i := 226) rfl)) rfl
set_option maxRecDepth 100000 in
theorem wd_826 : (Jvm.Cond.instanceMethod ({ cls := "ReedOracles$Course", name := "apply", desc := "(LReedOracles$Duchy;LReedOracles$Year;I)Z" } : Jvm.MethodName)) ∈ zT := zT_mem (tb3 _ (List.mem_of_getElem? (l := tables_1_3) (i := 228) rfl)) rfl
set_option maxRecDepth 100000 in
theorem wd_827 : (Jvm.Cond.code ({ cls := "ReedOracles$Course", name := "apply", desc := "(LReedOracles$Duchy;LReedOracles$Year;I)Z" } : Jvm.MethodName) prog_3_method_4_code (7 : Nat) (Option.some Jvm.ClassFile.FieldType.boolean)) ∈ zT := zT_mem (tb3 _ (List.mem_of_getElem? (l := tables_1_3) (i := 229) rfl)) rfl
set_option maxRecDepth 100000 in
theorem wd_828 : (Jvm.Cond.methodLink "ReedOracles$Course" (91 : Nat) ({ cls := "ReedOracles$Year", name := "cell", desc := "(II)I" } : Jvm.MethodName)) ∈ zT := zT_mem (tb3 _ (List.mem_of_getElem? (l := tables_1_3) (i := 230) rfl)) rfl
set_option maxRecDepth 100000 in
theorem wd_829 : (Jvm.Cond.methodLink "ReedOracles$Course" (95 : Nat) ({ cls := "ReedOracles$Course", name := "ask", desc := "(LReedOracles$Duchy;III)Z" } : Jvm.MethodName)) ∈ zT := zT_mem (tb3 _ (List.mem_of_getElem? (l := tables_1_3) (i := 231) rfl)) rfl
set_option maxRecDepth 100000 in
theorem wd_831 : (Jvm.Cond.instanceMethod ({ cls := "ReedOracles$Course", name := "ask", desc := "(LReedOracles$Duchy;III)Z" } : Jvm.MethodName)) ∈ zT := zT_mem (tb3 _ (List.mem_of_getElem? (l := tables_1_3) (i := 233) rfl)) rfl
set_option maxRecDepth 100000 in
theorem wd_832 : (Jvm.Cond.code ({ cls := "ReedOracles$Course", name := "ask", desc := "(LReedOracles$Duchy;III)Z" } : Jvm.MethodName) prog_3_method_7_code (6 : Nat) (Option.some Jvm.ClassFile.FieldType.boolean)) ∈ zT := zT_mem (tb3 _ (List.mem_of_getElem? (l := tables_1_3) (i := 234) rfl)) rfl
set_option maxRecDepth 100000 in
theorem wd_833 : (Jvm.Cond.methodLink "ReedOracles$Course" (119 : Nat) ({ cls := "ReedOracles$Course", name := "isSound", desc := "(LReedOracles$Duchy;I)Z" } : Jvm.MethodName)) ∈ zT := zT_mem (tb3 _ (List.mem_of_getElem? (l := tables_1_3) (i := 235) rfl)) rfl
set_option maxRecDepth 100000 in
theorem wd_835 : (Jvm.Cond.instanceMethod ({ cls := "ReedOracles$Course", name := "isSound", desc := "(LReedOracles$Duchy;I)Z" } : Jvm.MethodName)) ∈ zT := zT_mem (tb3 _ (List.mem_of_getElem? (l := tables_1_3) (i := 237) rfl)) rfl
set_option maxRecDepth 100000 in
theorem wd_836 : (Jvm.Cond.code ({ cls := "ReedOracles$Course", name := "isSound", desc := "(LReedOracles$Duchy;I)Z" } : Jvm.MethodName) prog_3_method_5_code (3 : Nat) (Option.some Jvm.ClassFile.FieldType.boolean)) ∈ zT := zT_mem (tb3 _ (List.mem_of_getElem? (l := tables_1_3) (i := 238) rfl)) rfl
set_option maxRecDepth 100000 in
theorem wd_837 : (Jvm.Cond.methodLink "ReedOracles$Course" (112 : Nat) ({ cls := "ReedOracles$Duchy", name := "hasReed", desc := "(I)Z" } : Jvm.MethodName)) ∈ zT := zT_mem (tb3 _ (List.mem_of_getElem? (l := tables_1_3) (i := 239) rfl)) rfl
set_option maxRecDepth 100000 in
theorem wd_838 : (Jvm.Cond.methodLink "ReedOracles$Course" (122 : Nat) ({ cls := "ReedOracles$Course", name := "mayPlay", desc := "(LReedOracles$Duchy;I)Z" } : Jvm.MethodName)) ∈ zT := zT_mem (tb4 _ (List.mem_of_getElem? (l := tables_1_4) (i := 0) rfl)) rfl
set_option maxRecDepth 100000 in
theorem wd_840 : (Jvm.Cond.instanceMethod ({ cls := "ReedOracles$Course", name := "mayPlay", desc := "(LReedOracles$Duchy;I)Z" } : Jvm.MethodName)) ∈ zT := zT_mem (tb4 _ (List.mem_of_getElem? (l := tables_1_4) (i := 2) rfl)) rfl
set_option maxRecDepth 100000 in
theorem wd_841 : (Jvm.Cond.code ({ cls := "ReedOracles$Course", name := "mayPlay", desc := "(LReedOracles$Duchy;I)Z" } : Jvm.MethodName) prog_3_method_6_code (3 : Nat) (Option.some Jvm.ClassFile.FieldType.boolean)) ∈ zT := zT_mem (tb4 _ (List.mem_of_getElem? (l := tables_1_4) (i := 3) rfl)) rfl
set_option maxRecDepth 100000 in
theorem wd_842 : (Jvm.Cond.methodLink "ReedOracles$Course" (116 : Nat) ({ cls := "ReedOracles$Duchy", name := "hasPlayer", desc := "(I)Z" } : Jvm.MethodName)) ∈ zT := zT_mem (tb4 _ (List.mem_of_getElem? (l := tables_1_4) (i := 4) rfl)) rfl
set_option maxRecDepth 100000 in
theorem wd_843 : (Jvm.Cond.methodLink "ReedOracles$Course" (125 : Nat) ({ cls := "ReedOracles$Duchy", name := "hasQuestion", desc := "(I)Z" } : Jvm.MethodName)) ∈ zT := zT_mem (tb4 _ (List.mem_of_getElem? (l := tables_1_4) (i := 5) rfl)) rfl
set_option maxRecDepth 100000 in
theorem wd_844 : (Jvm.Cond.methodLink "ReedOracles$Course" (128 : Nat) ({ cls := "ReedOracles$Course", name := "blow", desc := "(LReedOracles$Duchy;III)I" } : Jvm.MethodName)) ∈ zT := zT_mem (tb4 _ (List.mem_of_getElem? (l := tables_1_4) (i := 6) rfl)) rfl
set_option maxRecDepth 100000 in
theorem wd_846 : (Jvm.Cond.instanceMethod ({ cls := "ReedOracles$Course", name := "blow", desc := "(LReedOracles$Duchy;III)I" } : Jvm.MethodName)) ∈ zT := zT_mem (tb4 _ (List.mem_of_getElem? (l := tables_1_4) (i := 8) rfl)) rfl
set_option maxRecDepth 100000 in
theorem wd_847 : (Jvm.Cond.code ({ cls := "ReedOracles$Course", name := "blow", desc := "(LReedOracles$Duchy;III)I" } : Jvm.MethodName) prog_3_method_9_code (6 : Nat) (Option.some Jvm.ClassFile.FieldType.int)) ∈ zT := zT_mem (tb4 _ (List.mem_of_getElem? (l := tables_1_4) (i := 9) rfl)) rfl
set_option maxRecDepth 100000 in
theorem wd_848 : (Jvm.Cond.methodLink "ReedOracles$Course" (144 : Nat) ({ cls := "ReedOracles$Duchy", name := "noteAt", desc := "(IIIII)I" } : Jvm.MethodName)) ∈ zT := zT_mem (tb4 _ (List.mem_of_getElem? (l := tables_1_4) (i := 10) rfl)) rfl
set_option maxRecDepth 100000 in
theorem wd_850 : (Jvm.Cond.static ({ cls := "ReedOracles", name := "dried", desc := "(II)I" } : Jvm.MethodName)) ∈ zT := zT_mem (tb4 _ (List.mem_of_getElem? (l := tables_1_4) (i := 12) rfl)) rfl
set_option maxRecDepth 100000 in
theorem wd_851 : (Jvm.Cond.code ({ cls := "ReedOracles", name := "dried", desc := "(II)I" } : Jvm.MethodName) prog_1_method_45_code (2 : Nat) (Option.some Jvm.ClassFile.FieldType.int)) ∈ zT := zT_mem (tb4 _ (List.mem_of_getElem? (l := tables_1_4) (i := 13) rfl)) rfl
set_option maxRecDepth 100000 in
theorem wd_852 : (Jvm.Cond.methodLink "ReedOracles" (362 : Nat) ({ cls := "java/lang/Math", name := "max", desc := "(II)I" } : Jvm.MethodName)) ∈ zT := zT_mem (tb4 _ (List.mem_of_getElem? (l := tables_1_4) (i := 14) rfl)) rfl
set_option maxRecDepth 100000 in
theorem wd_853 : (Jvm.Cond.methodLink "ReedOracles$Course" (132 : Nat) ({ cls := "ReedOracles$Duchy", name := "meaning", desc := "(I)I" } : Jvm.MethodName)) ∈ zT := zT_mem (tb4 _ (List.mem_of_getElem? (l := tables_1_4) (i := 15) rfl)) rfl
set_option maxRecDepth 100000 in
theorem wd_855 : (Jvm.Cond.static ({ cls := "ReedOracles", name := "areOpposed", desc := "(II)Z" } : Jvm.MethodName)) ∈ zT := zT_mem (tb4 _ (List.mem_of_getElem? (l := tables_1_4) (i := 17) rfl)) rfl
set_option maxRecDepth 100000 in
theorem wd_856 : (Jvm.Cond.code ({ cls := "ReedOracles", name := "areOpposed", desc := "(II)Z" } : Jvm.MethodName) prog_1_method_47_code (2 : Nat) (Option.some Jvm.ClassFile.FieldType.boolean)) ∈ zT := zT_mem (tb4 _ (List.mem_of_getElem? (l := tables_1_4) (i := 18) rfl)) rfl
set_option maxRecDepth 100000 in
theorem wd_857 : (Jvm.Cond.methodLink "ReedOracles$Course" (140 : Nat) ({ cls := "ReedOracles$Course", name := "crack", desc := "(I)V" } : Jvm.MethodName)) ∈ zT := zT_mem (tb4 _ (List.mem_of_getElem? (l := tables_1_4) (i := 19) rfl)) rfl
set_option maxRecDepth 100000 in
theorem wd_859 : (Jvm.Cond.instanceMethod ({ cls := "ReedOracles$Course", name := "crack", desc := "(I)V" } : Jvm.MethodName)) ∈ zT := zT_mem (tb4 _ (List.mem_of_getElem? (l := tables_1_4) (i := 21) rfl)) rfl
set_option maxRecDepth 100000 in
theorem wd_860 : (Jvm.Cond.code ({ cls := "ReedOracles$Course", name := "crack", desc := "(I)V" } : Jvm.MethodName) prog_3_method_10_code (2 : Nat) (Option.none : Option Jvm.ClassFile.FieldType)) ∈ zT := zT_mem (tb4 _ (List.mem_of_getElem? (l := tables_1_4) (i := 22) rfl)) rfl
set_option maxRecDepth 100000 in
theorem wd_861 : (Jvm.Cond.methodLink "ReedOracles$Course" (99 : Nat) ({ cls := "ReedOracles$Course", name := "duet", desc := "(LReedOracles$Duchy;LReedOracles$Year;I)Z" } : Jvm.MethodName)) ∈ zT := zT_mem (tb4 _ (List.mem_of_getElem? (l := tables_1_4) (i := 23) rfl)) rfl
set_option maxRecDepth 100000 in
theorem wd_863 : (Jvm.Cond.instanceMethod ({ cls := "ReedOracles$Course", name := "duet", desc := "(LReedOracles$Duchy;LReedOracles$Year;I)Z" } : Jvm.MethodName)) ∈ zT := zT_mem (tb4 _ (List.mem_of_getElem? (l := tables_1_4) (i := 25) rfl)) rfl
set_option maxRecDepth 100000 in
theorem wd_864 : (Jvm.Cond.code ({ cls := "ReedOracles$Course", name := "duet", desc := "(LReedOracles$Duchy;LReedOracles$Year;I)Z" } : Jvm.MethodName) prog_3_method_8_code (11 : Nat) (Option.some Jvm.ClassFile.FieldType.boolean)) ∈ zT := zT_mem (tb4 _ (List.mem_of_getElem? (l := tables_1_4) (i := 26) rfl)) rfl
set_option maxRecDepth 100000 in
theorem wd_865 : (Jvm.Cond.methodLink "ReedOracles$Course" (102 : Nat) ({ cls := "ReedOracles$Course", name := "moisten", desc := "(LReedOracles$Duchy;I)Z" } : Jvm.MethodName)) ∈ zT := zT_mem (tb4 _ (List.mem_of_getElem? (l := tables_1_4) (i := 27) rfl)) rfl
set_option maxRecDepth 100000 in
theorem wd_867 : (Jvm.Cond.instanceMethod ({ cls := "ReedOracles$Course", name := "moisten", desc := "(LReedOracles$Duchy;I)Z" } : Jvm.MethodName)) ∈ zT := zT_mem (tb4 _ (List.mem_of_getElem? (l := tables_1_4) (i := 29) rfl)) rfl
set_option maxRecDepth 100000 in
theorem wd_868 : (Jvm.Cond.code ({ cls := "ReedOracles$Course", name := "moisten", desc := "(LReedOracles$Duchy;I)Z" } : Jvm.MethodName) prog_3_method_11_code (3 : Nat) (Option.some Jvm.ClassFile.FieldType.boolean)) ∈ zT := zT_mem (tb4 _ (List.mem_of_getElem? (l := tables_1_4) (i := 30) rfl)) rfl
set_option maxRecDepth 100000 in
theorem wd_870 : (Jvm.Cond.static ({ cls := "ReedOracles", name := "wetted", desc := "(I)I" } : Jvm.MethodName)) ∈ zT := zT_mem (tb4 _ (List.mem_of_getElem? (l := tables_1_4) (i := 32) rfl)) rfl
set_option maxRecDepth 100000 in
theorem wd_871 : (Jvm.Cond.code ({ cls := "ReedOracles", name := "wetted", desc := "(I)I" } : Jvm.MethodName) prog_1_method_46_code (1 : Nat) (Option.some Jvm.ClassFile.FieldType.int)) ∈ zT := zT_mem (tb4 _ (List.mem_of_getElem? (l := tables_1_4) (i := 33) rfl)) rfl
set_option maxRecDepth 100000 in
theorem wd_872 : (Jvm.Cond.methodLink "ReedOracles" (367 : Nat) ({ cls := "java/lang/Math", name := "min", desc := "(II)I" } : Jvm.MethodName)) ∈ zT := zT_mem (tb4 _ (List.mem_of_getElem? (l := tables_1_4) (i := 34) rfl)) rfl
set_option maxRecDepth 100000 in
theorem wd_873 : (Jvm.Cond.static ({ cls := "java/lang/Math", name := "min", desc := "(II)I" } : Jvm.MethodName)) ∈ zT := zT_mem (tb4 _ (List.mem_of_getElem? (l := tables_1_4) (i := 35) rfl)) rfl
set_option maxRecDepth 100000 in
theorem wd_874 : (Jvm.Cond.code ({ cls := "java/lang/Math", name := "min", desc := "(II)I" } : Jvm.MethodName) prog_16_method_69_code (2 : Nat) (Option.some Jvm.ClassFile.FieldType.int)) ∈ zT := zT_mem (tb4 _ (List.mem_of_getElem? (l := tables_1_4) (i := 36) rfl)) rfl
set_option maxRecDepth 100000 in
theorem wd_875 : (Jvm.Cond.methodLink "ReedOracles$Course" (106 : Nat) ({ cls := "ReedOracles$Course", name := "trim", desc := "(LReedOracles$Duchy;I)Z" } : Jvm.MethodName)) ∈ zT := zT_mem (tb4 _ (List.mem_of_getElem? (l := tables_1_4) (i := 37) rfl)) rfl
set_option maxRecDepth 100000 in
theorem wd_877 : (Jvm.Cond.instanceMethod ({ cls := "ReedOracles$Course", name := "trim", desc := "(LReedOracles$Duchy;I)Z" } : Jvm.MethodName)) ∈ zT := zT_mem (tb4 _ (List.mem_of_getElem? (l := tables_1_4) (i := 39) rfl)) rfl
set_option maxRecDepth 100000 in
theorem wd_878 : (Jvm.Cond.code ({ cls := "ReedOracles$Course", name := "trim", desc := "(LReedOracles$Duchy;I)Z" } : Jvm.MethodName) prog_3_method_12_code (3 : Nat) (Option.some Jvm.ClassFile.FieldType.boolean)) ∈ zT := zT_mem (tb4 _ (List.mem_of_getElem? (l := tables_1_4) (i := 40) rfl)) rfl
set_option maxRecDepth 100000 in
theorem wd_879 : (Jvm.Cond.methodLink "ReedOracles$Course" (109 : Nat) ({ cls := "ReedOracles$Course", name := "sleep", desc := "(LReedOracles$Duchy;)V" } : Jvm.MethodName)) ∈ zT := zT_mem (tb4 _ (List.mem_of_getElem? (l := tables_1_4) (i := 41) rfl)) rfl
set_option maxRecDepth 100000 in
theorem wd_881 : (Jvm.Cond.instanceMethod ({ cls := "ReedOracles$Course", name := "sleep", desc := "(LReedOracles$Duchy;)V" } : Jvm.MethodName)) ∈ zT := zT_mem (tb4 _ (List.mem_of_getElem? (l := tables_1_4) (i := 43) rfl)) rfl
set_option maxRecDepth 100000 in
theorem wd_882 : (Jvm.Cond.code ({ cls := "ReedOracles$Course", name := "sleep", desc := "(LReedOracles$Duchy;)V" } : Jvm.MethodName) prog_3_method_13_code (3 : Nat) (Option.none : Option Jvm.ClassFile.FieldType)) ∈ zT := zT_mem (tb4 _ (List.mem_of_getElem? (l := tables_1_4) (i := 44) rfl)) rfl
set_option maxRecDepth 100000 in
theorem wd_883 : (Jvm.Cond.methodLink "ReedOraclesLaw" (50 : Nat) ({ cls := "ReedOracles", name := "state", desc := "(IIII)I" } : Jvm.MethodName)) ∈ zT := zT_mem (tb4 _ (List.mem_of_getElem? (l := tables_1_4) (i := 45) rfl)) rfl
set_option maxRecDepth 100000 in
theorem wd_884 : (Jvm.Cond.instanceMethod ({ cls := "ReedOracles", name := "state", desc := "(IIII)I" } : Jvm.MethodName)) ∈ zT := zT_mem (tb4 _ (List.mem_of_getElem? (l := tables_1_4) (i := 46) rfl)) rfl
set_option maxRecDepth 100000 in
theorem wd_885 : (Jvm.Cond.selects "ReedOracles" ({ cls := "ReedOracles", name := "state", desc := "(IIII)I" } : Jvm.MethodName) ({ cls := "ReedOracles", name := "state", desc := "(IIII)I" } : Jvm.MethodName)) ∈ zT := zT_mem (tb4 _ (List.mem_of_getElem? (l := tables_1_4) (i := 47) rfl)) rfl
set_option maxRecDepth 100000 in
theorem wd_886 : (Jvm.Cond.code ({ cls := "ReedOracles", name := "state", desc := "(IIII)I" } : Jvm.MethodName) prog_1_method_10_code (7 : Nat) (Option.some Jvm.ClassFile.FieldType.int)) ∈ zT := zT_mem (tb4 _ (List.mem_of_getElem? (l := tables_1_4) (i := 48) rfl)) rfl
set_option maxRecDepth 100000 in
theorem wd_887 : (Jvm.Cond.methodLink "ReedOracles" (138 : Nat) ({ cls := "ReedOracles$Course", name := "detail", desc := "(LReedOracles$Duchy;I)I" } : Jvm.MethodName)) ∈ zT := zT_mem (tb4 _ (List.mem_of_getElem? (l := tables_1_4) (i := 49) rfl)) rfl
set_option maxRecDepth 100000 in
theorem wd_888 : (Jvm.Cond.instanceMethod ({ cls := "ReedOracles$Course", name := "detail", desc := "(LReedOracles$Duchy;I)I" } : Jvm.MethodName)) ∈ zT := zT_mem (tb4 _ (List.mem_of_getElem? (l := tables_1_4) (i := 50) rfl)) rfl
set_option maxRecDepth 100000 in
theorem wd_889 : (Jvm.Cond.selects "ReedOracles$Course" ({ cls := "ReedOracles$Course", name := "detail", desc := "(LReedOracles$Duchy;I)I" } : Jvm.MethodName) ({ cls := "ReedOracles$Course", name := "detail", desc := "(LReedOracles$Duchy;I)I" } : Jvm.MethodName)) ∈ zT := zT_mem (tb4 _ (List.mem_of_getElem? (l := tables_1_4) (i := 51) rfl)) rfl
set_option maxRecDepth 100000 in
theorem wd_890 : (Jvm.Cond.code ({ cls := "ReedOracles$Course", name := "detail", desc := "(LReedOracles$Duchy;I)I" } : Jvm.MethodName) prog_3_method_17_code (4 : Nat) (Option.some Jvm.ClassFile.FieldType.int)) ∈ zT := zT_mem (tb4 _ (List.mem_of_getElem? (l := tables_1_4) (i := 52) rfl)) rfl
set_option maxRecDepth 100000 in
theorem wd_891 : (Jvm.Cond.methodLink "ReedOracles$Course" (173 : Nat) ({ cls := "ReedOracles$Course", name := "headline", desc := "(I)I" } : Jvm.MethodName)) ∈ zT := zT_mem (tb4 _ (List.mem_of_getElem? (l := tables_1_4) (i := 53) rfl)) rfl
set_option maxRecDepth 100000 in
theorem wd_893 : (Jvm.Cond.instanceMethod ({ cls := "ReedOracles$Course", name := "headline", desc := "(I)I" } : Jvm.MethodName)) ∈ zT := zT_mem (tb4 _ (List.mem_of_getElem? (l := tables_1_4) (i := 55) rfl)) rfl
set_option maxRecDepth 100000 in
theorem wd_894 : (Jvm.Cond.code ({ cls := "ReedOracles$Course", name := "headline", desc := "(I)I" } : Jvm.MethodName) prog_3_method_18_code (2 : Nat) (Option.some Jvm.ClassFile.FieldType.int)) ∈ zT := zT_mem (tb4 _ (List.mem_of_getElem? (l := tables_1_4) (i := 56) rfl)) rfl
set_option maxRecDepth 100000 in
theorem wd_895 : (Jvm.Cond.methodLink "ReedOraclesLaw" (55 : Nat) ({ cls := "ReedOracles", name := "ready", desc := "(IIIIII)I" } : Jvm.MethodName)) ∈ zT := zT_mem (tb4 _ (List.mem_of_getElem? (l := tables_1_4) (i := 57) rfl)) rfl
set_option maxRecDepth 100000 in
theorem wd_896 : (Jvm.Cond.instanceMethod ({ cls := "ReedOracles", name := "ready", desc := "(IIIIII)I" } : Jvm.MethodName)) ∈ zT := zT_mem (tb4 _ (List.mem_of_getElem? (l := tables_1_4) (i := 58) rfl)) rfl
set_option maxRecDepth 100000 in
theorem wd_897 : (Jvm.Cond.selects "ReedOracles" ({ cls := "ReedOracles", name := "ready", desc := "(IIIIII)I" } : Jvm.MethodName) ({ cls := "ReedOracles", name := "ready", desc := "(IIIIII)I" } : Jvm.MethodName)) ∈ zT := zT_mem (tb4 _ (List.mem_of_getElem? (l := tables_1_4) (i := 59) rfl)) rfl
set_option maxRecDepth 100000 in
theorem wd_898 : (Jvm.Cond.code ({ cls := "ReedOracles", name := "ready", desc := "(IIIIII)I" } : Jvm.MethodName) prog_1_method_11_code (8 : Nat) (Option.some Jvm.ClassFile.FieldType.int)) ∈ zT := zT_mem (tb4 _ (List.mem_of_getElem? (l := tables_1_4) (i := 60) rfl)) rfl
set_option maxRecDepth 100000 in
theorem wd_899 : (Jvm.Cond.methodLink "ReedOracles" (141 : Nat) ({ cls := "ReedOracles", name := "isAnswer", desc := "(I)Z" } : Jvm.MethodName)) ∈ zT := zT_mem (tb4 _ (List.mem_of_getElem? (l := tables_1_4) (i := 61) rfl)) rfl
set_option maxRecDepth 100000 in
theorem wd_900 : (Jvm.Cond.static ({ cls := "ReedOracles", name := "isAnswer", desc := "(I)Z" } : Jvm.MethodName)) ∈ zT := zT_mem (tb4 _ (List.mem_of_getElem? (l := tables_1_4) (i := 62) rfl)) rfl
set_option maxRecDepth 100000 in
theorem wd_901 : (Jvm.Cond.code ({ cls := "ReedOracles", name := "isAnswer", desc := "(I)Z" } : Jvm.MethodName) prog_1_method_43_code (1 : Nat) (Option.some Jvm.ClassFile.FieldType.boolean)) ∈ zT := zT_mem (tb4 _ (List.mem_of_getElem? (l := tables_1_4) (i := 63) rfl)) rfl
set_option maxRecDepth 100000 in
theorem wd_902 : (Jvm.Cond.methodLink "ReedOracles" (145 : Nat) ({ cls := "ReedOracles$Acts", name := "seek", desc := "(LReedOracles$Duchy;IIII)V" } : Jvm.MethodName)) ∈ zT := zT_mem (tb4 _ (List.mem_of_getElem? (l := tables_1_4) (i := 64) rfl)) rfl
set_option maxRecDepth 100000 in
theorem wd_903 : (Jvm.Cond.instanceMethod ({ cls := "ReedOracles$Acts", name := "seek", desc := "(LReedOracles$Duchy;IIII)V" } : Jvm.MethodName)) ∈ zT := zT_mem (tb4 _ (List.mem_of_getElem? (l := tables_1_4) (i := 65) rfl)) rfl
set_option maxRecDepth 100000 in
theorem wd_904 : (Jvm.Cond.selects "ReedOracles$Acts" ({ cls := "ReedOracles$Acts", name := "seek", desc := "(LReedOracles$Duchy;IIII)V" } : Jvm.MethodName) ({ cls := "ReedOracles$Acts", name := "seek", desc := "(LReedOracles$Duchy;IIII)V" } : Jvm.MethodName)) ∈ zT := zT_mem (tb4 _ (List.mem_of_getElem? (l := tables_1_4) (i := 66) rfl)) rfl
set_option maxRecDepth 100000 in
theorem wd_905 : (Jvm.Cond.code ({ cls := "ReedOracles$Acts", name := "seek", desc := "(LReedOracles$Duchy;IIII)V" } : Jvm.MethodName) prog_2_method_2_code (11 : Nat) (Option.none : Option Jvm.ClassFile.FieldType)) ∈ zT := zT_mem (tb4 _ (List.mem_of_getElem? (l := tables_1_4) (i := 67) rfl)) rfl
set_option maxRecDepth 100000 in
theorem wd_906 : (Jvm.Cond.methodLink "ReedOracles$Acts" (22 : Nat) ({ cls := "ReedOracles$Acts", name := "isBeyond", desc := "(LReedOracles$Duchy;III)Z" } : Jvm.MethodName)) ∈ zT := zT_mem (tb4 _ (List.mem_of_getElem? (l := tables_1_4) (i := 68) rfl)) rfl
set_option maxRecDepth 100000 in
theorem wd_907 : (Jvm.Cond.static ({ cls := "ReedOracles$Acts", name := "isBeyond", desc := "(LReedOracles$Duchy;III)Z" } : Jvm.MethodName)) ∈ zT := zT_mem (tb4 _ (List.mem_of_getElem? (l := tables_1_4) (i := 69) rfl)) rfl
set_option maxRecDepth 100000 in
theorem wd_908 : (Jvm.Cond.code ({ cls := "ReedOracles$Acts", name := "isBeyond", desc := "(LReedOracles$Duchy;III)Z" } : Jvm.MethodName) prog_2_method_3_code (6 : Nat) (Option.some Jvm.ClassFile.FieldType.boolean)) ∈ zT := zT_mem (tb4 _ (List.mem_of_getElem? (l := tables_1_4) (i := 70) rfl)) rfl
set_option maxRecDepth 100000 in
theorem wd_909 : (Jvm.Cond.methodLink "ReedOracles$Acts" (77 : Nat) ({ cls := "ReedOracles$Duchy", name := "coughs", desc := "(III)Z" } : Jvm.MethodName)) ∈ zT := zT_mem (tb4 _ (List.mem_of_getElem? (l := tables_1_4) (i := 71) rfl)) rfl
set_option maxRecDepth 100000 in
theorem wd_910 : (Jvm.Cond.methodLink "ReedOracles$Acts" (26 : Nat) ({ cls := "java/util/Arrays", name := "fill", desc := "([II)V" } : Jvm.MethodName)) ∈ zT := zT_mem (tb4 _ (List.mem_of_getElem? (l := tables_1_4) (i := 72) rfl)) rfl
set_option maxRecDepth 100000 in
theorem wd_911 : (Jvm.Cond.methodLink "ReedOracles$Acts" (43 : Nat) ({ cls := "ReedOracles$Acts", name := "stateOf", desc := "(III)I" } : Jvm.MethodName)) ∈ zT := zT_mem (tb4 _ (List.mem_of_getElem? (l := tables_1_4) (i := 73) rfl)) rfl
set_option maxRecDepth 100000 in
theorem wd_912 : (Jvm.Cond.static ({ cls := "ReedOracles$Acts", name := "stateOf", desc := "(III)I" } : Jvm.MethodName)) ∈ zT := zT_mem (tb4 _ (List.mem_of_getElem? (l := tables_1_4) (i := 74) rfl)) rfl
set_option maxRecDepth 100000 in
theorem wd_913 : (Jvm.Cond.code ({ cls := "ReedOracles$Acts", name := "stateOf", desc := "(III)I" } : Jvm.MethodName) prog_2_method_8_code (3 : Nat) (Option.some Jvm.ClassFile.FieldType.int)) ∈ zT := zT_mem (tb4 _ (List.mem_of_getElem? (l := tables_1_4) (i := 75) rfl)) rfl
set_option maxRecDepth 100000 in
theorem wd_914 : (Jvm.Cond.methodLink "ReedOracles$Acts" (47 : Nat) ({ cls := "ReedOracles$Acts", name := "wetIn", desc := "(I)I" } : Jvm.MethodName)) ∈ zT := zT_mem (tb4 _ (List.mem_of_getElem? (l := tables_1_4) (i := 76) rfl)) rfl
set_option maxRecDepth 100000 in
theorem wd_915 : (Jvm.Cond.static ({ cls := "ReedOracles$Acts", name := "wetIn", desc := "(I)I" } : Jvm.MethodName)) ∈ zT := zT_mem (tb4 _ (List.mem_of_getElem? (l := tables_1_4) (i := 77) rfl)) rfl
set_option maxRecDepth 100000 in
theorem wd_916 : (Jvm.Cond.code ({ cls := "ReedOracles$Acts", name := "wetIn", desc := "(I)I" } : Jvm.MethodName) prog_2_method_9_code (1 : Nat) (Option.some Jvm.ClassFile.FieldType.int)) ∈ zT := zT_mem (tb4 _ (List.mem_of_getElem? (l := tables_1_4) (i := 78) rfl)) rfl
set_option maxRecDepth 100000 in
theorem wd_917 : (Jvm.Cond.methodLink "ReedOracles$Acts" (51 : Nat) ({ cls := "ReedOracles$Acts", name := "keyIn", desc := "(I)I" } : Jvm.MethodName)) ∈ zT := zT_mem (tb4 _ (List.mem_of_getElem? (l := tables_1_4) (i := 79) rfl)) rfl
set_option maxRecDepth 100000 in
theorem wd_918 : (Jvm.Cond.static ({ cls := "ReedOracles$Acts", name := "keyIn", desc := "(I)I" } : Jvm.MethodName)) ∈ zT := zT_mem (tb4 _ (List.mem_of_getElem? (l := tables_1_4) (i := 80) rfl)) rfl
set_option maxRecDepth 100000 in
theorem wd_919 : (Jvm.Cond.code ({ cls := "ReedOracles$Acts", name := "keyIn", desc := "(I)I" } : Jvm.MethodName) prog_2_method_10_code (1 : Nat) (Option.some Jvm.ClassFile.FieldType.int)) ∈ zT := zT_mem (tb4 _ (List.mem_of_getElem? (l := tables_1_4) (i := 81) rfl)) rfl
set_option maxRecDepth 100000 in
theorem wd_920 : (Jvm.Cond.methodLink "ReedOracles$Acts" (54 : Nat) ({ cls := "ReedOracles$Acts", name := "coldIn", desc := "(I)I" } : Jvm.MethodName)) ∈ zT := zT_mem (tb4 _ (List.mem_of_getElem? (l := tables_1_4) (i := 82) rfl)) rfl
set_option maxRecDepth 100000 in
theorem wd_921 : (Jvm.Cond.static ({ cls := "ReedOracles$Acts", name := "coldIn", desc := "(I)I" } : Jvm.MethodName)) ∈ zT := zT_mem (tb4 _ (List.mem_of_getElem? (l := tables_1_4) (i := 83) rfl)) rfl
set_option maxRecDepth 100000 in
theorem wd_922 : (Jvm.Cond.code ({ cls := "ReedOracles$Acts", name := "coldIn", desc := "(I)I" } : Jvm.MethodName) prog_2_method_11_code (1 : Nat) (Option.some Jvm.ClassFile.FieldType.int)) ∈ zT := zT_mem (tb4 _ (List.mem_of_getElem? (l := tables_1_4) (i := 84) rfl)) rfl
set_option maxRecDepth 100000 in
theorem wd_923 : (Jvm.Cond.methodLink "ReedOracles$Acts" (57 : Nat) ({ cls := "ReedOracles$Duchy", name := "noteAt", desc := "(IIIII)I" } : Jvm.MethodName)) ∈ zT := zT_mem (tb4 _ (List.mem_of_getElem? (l := tables_1_4) (i := 85) rfl)) rfl
set_option maxRecDepth 100000 in
theorem wd_924 : (Jvm.Cond.methodLink "ReedOracles$Acts" (61 : Nat) ({ cls := "ReedOracles$Duchy", name := "meaning", desc := "(I)I" } : Jvm.MethodName)) ∈ zT := zT_mem (tb4 _ (List.mem_of_getElem? (l := tables_1_4) (i := 86) rfl)) rfl
set_option maxRecDepth 100000 in
theorem wd_925 : (Jvm.Cond.methodLink "ReedOracles$Acts" (67 : Nat) ({ cls := "ReedOracles$Acts", name := "stepsTo", desc := "(I)I" } : Jvm.MethodName)) ∈ zT := zT_mem (tb4 _ (List.mem_of_getElem? (l := tables_1_4) (i := 87) rfl)) rfl
set_option maxRecDepth 100000 in
theorem wd_927 : (Jvm.Cond.instanceMethod ({ cls := "ReedOracles$Acts", name := "stepsTo", desc := "(I)I" } : Jvm.MethodName)) ∈ zT := zT_mem (tb4 _ (List.mem_of_getElem? (l := tables_1_4) (i := 89) rfl)) rfl
set_option maxRecDepth 100000 in
theorem wd_928 : (Jvm.Cond.code ({ cls := "ReedOracles$Acts", name := "stepsTo", desc := "(I)I" } : Jvm.MethodName) prog_2_method_6_code (4 : Nat) (Option.some Jvm.ClassFile.FieldType.int)) ∈ zT := zT_mem (tb4 _ (List.mem_of_getElem? (l := tables_1_4) (i := 90) rfl)) rfl
set_option maxRecDepth 100000 in
theorem wd_929 : (Jvm.Cond.methodLink "ReedOracles$Acts" (70 : Nat) ({ cls := "ReedOracles$Acts", name := "spread", desc := "(II)I" } : Jvm.MethodName)) ∈ zT := zT_mem (tb4 _ (List.mem_of_getElem? (l := tables_1_4) (i := 91) rfl)) rfl
set_option maxRecDepth 100000 in
theorem wd_931 : (Jvm.Cond.instanceMethod ({ cls := "ReedOracles$Acts", name := "spread", desc := "(II)I" } : Jvm.MethodName)) ∈ zT := zT_mem (tb4 _ (List.mem_of_getElem? (l := tables_1_4) (i := 93) rfl)) rfl
set_option maxRecDepth 100000 in
theorem wd_932 : (Jvm.Cond.code ({ cls := "ReedOracles$Acts", name := "spread", desc := "(II)I" } : Jvm.MethodName) prog_2_method_4_code (6 : Nat) (Option.some Jvm.ClassFile.FieldType.int)) ∈ zT := zT_mem (tb4 _ (List.mem_of_getElem? (l := tables_1_4) (i := 94) rfl)) rfl
set_option maxRecDepth 100000 in
theorem wd_933 : (Jvm.Cond.methodLink "ReedOracles$Acts" (81 : Nat) ({ cls := "ReedOracles$Acts", name := "behind", desc := "(II)I" } : Jvm.MethodName)) ∈ zT := zT_mem (tb4 _ (List.mem_of_getElem? (l := tables_1_4) (i := 95) rfl)) rfl
set_option maxRecDepth 100000 in
theorem wd_934 : (Jvm.Cond.static ({ cls := "ReedOracles$Acts", name := "behind", desc := "(II)I" } : Jvm.MethodName)) ∈ zT := zT_mem (tb4 _ (List.mem_of_getElem? (l := tables_1_4) (i := 96) rfl)) rfl
set_option maxRecDepth 100000 in
theorem wd_935 : (Jvm.Cond.code ({ cls := "ReedOracles$Acts", name := "behind", desc := "(II)I" } : Jvm.MethodName) prog_2_method_5_code (5 : Nat) (Option.some Jvm.ClassFile.FieldType.int)) ∈ zT := zT_mem (tb4 _ (List.mem_of_getElem? (l := tables_1_4) (i := 97) rfl)) rfl
set_option maxRecDepth 100000 in
theorem wd_938 : (Jvm.Cond.methodLink "ReedOracles$Acts" (90 : Nat) ({ cls := "java/lang/Math", name := "max", desc := "(II)I" } : Jvm.MethodName)) ∈ zT := zT_mem (tb4 _ (List.mem_of_getElem? (l := tables_1_4) (i := 100) rfl)) rfl
set_option maxRecDepth 100000 in
theorem wd_939 : (Jvm.Cond.methodLink "ReedOracles$Acts" (95 : Nat) ({ cls := "java/lang/Math", name := "min", desc := "(II)I" } : Jvm.MethodName)) ∈ zT := zT_mem (tb4 _ (List.mem_of_getElem? (l := tables_1_4) (i := 101) rfl)) rfl
set_option maxRecDepth 100000 in
theorem wd_940 : (Jvm.Cond.methodLink "ReedOracles" (152 : Nat) ({ cls := "ReedOracles$Acts", name := "actAt", desc := "(I)I" } : Jvm.MethodName)) ∈ zT := zT_mem (tb4 _ (List.mem_of_getElem? (l := tables_1_4) (i := 102) rfl)) rfl
set_option maxRecDepth 100000 in
theorem wd_941 : (Jvm.Cond.instanceMethod ({ cls := "ReedOracles$Acts", name := "actAt", desc := "(I)I" } : Jvm.MethodName)) ∈ zT := zT_mem (tb4 _ (List.mem_of_getElem? (l := tables_1_4) (i := 103) rfl)) rfl
set_option maxRecDepth 100000 in
theorem wd_942 : (Jvm.Cond.selects "ReedOracles$Acts" ({ cls := "ReedOracles$Acts", name := "actAt", desc := "(I)I" } : Jvm.MethodName) ({ cls := "ReedOracles$Acts", name := "actAt", desc := "(I)I" } : Jvm.MethodName)) ∈ zT := zT_mem (tb4 _ (List.mem_of_getElem? (l := tables_1_4) (i := 104) rfl)) rfl
set_option maxRecDepth 100000 in
theorem wd_943 : (Jvm.Cond.code ({ cls := "ReedOracles$Acts", name := "actAt", desc := "(I)I" } : Jvm.MethodName) prog_2_method_7_code (4 : Nat) (Option.some Jvm.ClassFile.FieldType.int)) ∈ zT := zT_mem (tb4 _ (List.mem_of_getElem? (l := tables_1_4) (i := 105) rfl)) rfl
set_option maxRecDepth 100000 in
theorem wd_944 : (Jvm.Cond.methodLink "ReedOraclesLaw" (60 : Nat) ({ cls := "ReedOracles", name := "favour", desc := "(IIII)I" } : Jvm.MethodName)) ∈ zT := zT_mem (tb4 _ (List.mem_of_getElem? (l := tables_1_4) (i := 106) rfl)) rfl
set_option maxRecDepth 100000 in
theorem wd_945 : (Jvm.Cond.instanceMethod ({ cls := "ReedOracles", name := "favour", desc := "(IIII)I" } : Jvm.MethodName)) ∈ zT := zT_mem (tb4 _ (List.mem_of_getElem? (l := tables_1_4) (i := 107) rfl)) rfl
set_option maxRecDepth 100000 in
theorem wd_946 : (Jvm.Cond.selects "ReedOracles" ({ cls := "ReedOracles", name := "favour", desc := "(IIII)I" } : Jvm.MethodName) ({ cls := "ReedOracles", name := "favour", desc := "(IIII)I" } : Jvm.MethodName)) ∈ zT := zT_mem (tb4 _ (List.mem_of_getElem? (l := tables_1_4) (i := 108) rfl)) rfl
set_option maxRecDepth 100000 in
theorem wd_947 : (Jvm.Cond.code ({ cls := "ReedOracles", name := "favour", desc := "(IIII)I" } : Jvm.MethodName) prog_1_method_12_code (6 : Nat) (Option.some Jvm.ClassFile.FieldType.int)) ∈ zT := zT_mem (tb4 _ (List.mem_of_getElem? (l := tables_1_4) (i := 109) rfl)) rfl
set_option maxRecDepth 100000 in
theorem wd_948 : (Jvm.Cond.methodLink "ReedOracles" (155 : Nat) ({ cls := "ReedOracles$Duchy", name := "hasPlayer", desc := "(I)Z" } : Jvm.MethodName)) ∈ zT := zT_mem (tb4 _ (List.mem_of_getElem? (l := tables_1_4) (i := 110) rfl)) rfl
set_option maxRecDepth 100000 in
theorem wd_949 : (Jvm.Cond.methodLink "ReedOracles" (158 : Nat) ({ cls := "ReedOracles$Duchy", name := "hasQuestion", desc := "(I)Z" } : Jvm.MethodName)) ∈ zT := zT_mem (tb4 _ (List.mem_of_getElem? (l := tables_1_4) (i := 111) rfl)) rfl
set_option maxRecDepth 100000 in
theorem wd_950 : (Jvm.Cond.methodLink "ReedOracles" (161 : Nat) ({ cls := "ReedOracles$Plans", name := "share", desc := "(LReedOracles$Duchy;II)V" } : Jvm.MethodName)) ∈ zT := zT_mem (tb4 _ (List.mem_of_getElem? (l := tables_1_4) (i := 112) rfl)) rfl
set_option maxRecDepth 100000 in
theorem wd_951 : (Jvm.Cond.instanceMethod ({ cls := "ReedOracles$Plans", name := "share", desc := "(LReedOracles$Duchy;II)V" } : Jvm.MethodName)) ∈ zT := zT_mem (tb4 _ (List.mem_of_getElem? (l := tables_1_4) (i := 113) rfl)) rfl
set_option maxRecDepth 100000 in
theorem wd_952 : (Jvm.Cond.selects "ReedOracles$Plans" ({ cls := "ReedOracles$Plans", name := "share", desc := "(LReedOracles$Duchy;II)V" } : Jvm.MethodName) ({ cls := "ReedOracles$Plans", name := "share", desc := "(LReedOracles$Duchy;II)V" } : Jvm.MethodName)) ∈ zT := zT_mem (tb4 _ (List.mem_of_getElem? (l := tables_1_4) (i := 114) rfl)) rfl
set_option maxRecDepth 100000 in
theorem wd_953 : (Jvm.Cond.code ({ cls := "ReedOracles$Plans", name := "share", desc := "(LReedOracles$Duchy;II)V" } : Jvm.MethodName) prog_6_method_2_code (7 : Nat) (Option.none : Option Jvm.ClassFile.FieldType)) ∈ zT := zT_mem (tb4 _ (List.mem_of_getElem? (l := tables_1_4) (i := 115) rfl)) rfl
set_option maxRecDepth 100000 in
theorem wd_954 : (Jvm.Cond.methodLink "ReedOracles$Plans" (33 : Nat) ({ cls := "ReedOracles$Duchy", name := "answerOf", desc := "(III)I" } : Jvm.MethodName)) ∈ zT := zT_mem (tb4 _ (List.mem_of_getElem? (l := tables_1_4) (i := 116) rfl)) rfl
set_option maxRecDepth 100000 in
theorem wd_955 : (Jvm.Cond.instanceMethod ({ cls := "ReedOracles$Duchy", name := "answerOf", desc := "(III)I" } : Jvm.MethodName)) ∈ zT := zT_mem (tb4 _ (List.mem_of_getElem? (l := tables_1_4) (i := 117) rfl)) rfl
set_option maxRecDepth 100000 in
theorem wd_956 : (Jvm.Cond.selects "ReedOracles$Duchy" ({ cls := "ReedOracles$Duchy", name := "answerOf", desc := "(III)I" } : Jvm.MethodName) ({ cls := "ReedOracles$Duchy", name := "answerOf", desc := "(III)I" } : Jvm.MethodName)) ∈ zT := zT_mem (tb4 _ (List.mem_of_getElem? (l := tables_1_4) (i := 118) rfl)) rfl
set_option maxRecDepth 100000 in
theorem wd_957 : (Jvm.Cond.code ({ cls := "ReedOracles$Duchy", name := "answerOf", desc := "(III)I" } : Jvm.MethodName) prog_4_method_19_code (4 : Nat) (Option.some Jvm.ClassFile.FieldType.int)) ∈ zT := zT_mem (tb4 _ (List.mem_of_getElem? (l := tables_1_4) (i := 119) rfl)) rfl
set_option maxRecDepth 100000 in
theorem wd_958 : (Jvm.Cond.methodLink "ReedOracles$Duchy" (86 : Nat) ({ cls := "ReedOracles$Duchy", name := "noteOf", desc := "(III)I" } : Jvm.MethodName)) ∈ zT := zT_mem (tb4 _ (List.mem_of_getElem? (l := tables_1_4) (i := 120) rfl)) rfl
set_option maxRecDepth 100000 in
theorem wd_959 : (Jvm.Cond.methodLink "ReedOracles$Duchy" (90 : Nat) ({ cls := "ReedOracles$Duchy", name := "meaning", desc := "(I)I" } : Jvm.MethodName)) ∈ zT := zT_mem (tb4 _ (List.mem_of_getElem? (l := tables_1_4) (i := 121) rfl)) rfl
set_option maxRecDepth 100000 in
theorem wd_960 : (Jvm.Cond.methodLink "ReedOracles$Plans" (37 : Nat) ({ cls := "ReedOracles$Plans", name := "bestShare", desc := "(II)I" } : Jvm.MethodName)) ∈ zT := zT_mem (tb4 _ (List.mem_of_getElem? (l := tables_1_4) (i := 122) rfl)) rfl
set_option maxRecDepth 100000 in
theorem wd_962 : (Jvm.Cond.instanceMethod ({ cls := "ReedOracles$Plans", name := "bestShare", desc := "(II)I" } : Jvm.MethodName)) ∈ zT := zT_mem (tb4 _ (List.mem_of_getElem? (l := tables_1_4) (i := 124) rfl)) rfl
set_option maxRecDepth 100000 in
theorem wd_963 : (Jvm.Cond.code ({ cls := "ReedOracles$Plans", name := "bestShare", desc := "(II)I" } : Jvm.MethodName) prog_6_method_3_code (6 : Nat) (Option.some Jvm.ClassFile.FieldType.int)) ∈ zT := zT_mem (tb4 _ (List.mem_of_getElem? (l := tables_1_4) (i := 125) rfl)) rfl
set_option maxRecDepth 100000 in
theorem wd_964 : (Jvm.Cond.methodLink "ReedOracles$Plans" (41 : Nat) ({ cls := "ReedOracles$Plans", name := "shareBy", desc := "(III)I" } : Jvm.MethodName)) ∈ zT := zT_mem (tb4 _ (List.mem_of_getElem? (l := tables_1_4) (i := 126) rfl)) rfl
set_option maxRecDepth 100000 in
theorem wd_966 : (Jvm.Cond.instanceMethod ({ cls := "ReedOracles$Plans", name := "shareBy", desc := "(III)I" } : Jvm.MethodName)) ∈ zT := zT_mem (tb4 _ (List.mem_of_getElem? (l := tables_1_4) (i := 128) rfl)) rfl
set_option maxRecDepth 100000 in
theorem wd_967 : (Jvm.Cond.code ({ cls := "ReedOracles$Plans", name := "shareBy", desc := "(III)I" } : Jvm.MethodName) prog_6_method_4_code (5 : Nat) (Option.some Jvm.ClassFile.FieldType.int)) ∈ zT := zT_mem (tb4 _ (List.mem_of_getElem? (l := tables_1_4) (i := 129) rfl)) rfl
set_option maxRecDepth 100000 in
theorem wd_968 : (Jvm.Cond.methodLink "ReedOracles$Plans" (44 : Nat) ({ cls := "java/lang/Math", name := "max", desc := "(II)I" } : Jvm.MethodName)) ∈ zT := zT_mem (tb4 _ (List.mem_of_getElem? (l := tables_1_4) (i := 130) rfl)) rfl
set_option maxRecDepth 100000 in
theorem wd_969 : (Jvm.Cond.methodLink "ReedOracles" (165 : Nat) ({ cls := "ReedOracles$Plans", name := "mostShared", desc := "()I" } : Jvm.MethodName)) ∈ zT := zT_mem (tb4 _ (List.mem_of_getElem? (l := tables_1_4) (i := 131) rfl)) rfl
set_option maxRecDepth 100000 in
theorem wd_970 : (Jvm.Cond.instanceMethod ({ cls := "ReedOracles$Plans", name := "mostShared", desc := "()I" } : Jvm.MethodName)) ∈ zT := zT_mem (tb4 _ (List.mem_of_getElem? (l := tables_1_4) (i := 132) rfl)) rfl
set_option maxRecDepth 100000 in
theorem wd_971 : (Jvm.Cond.selects "ReedOracles$Plans" ({ cls := "ReedOracles$Plans", name := "mostShared", desc := "()I" } : Jvm.MethodName) ({ cls := "ReedOracles$Plans", name := "mostShared", desc := "()I" } : Jvm.MethodName)) ∈ zT := zT_mem (tb4 _ (List.mem_of_getElem? (l := tables_1_4) (i := 133) rfl)) rfl
set_option maxRecDepth 100000 in
theorem wd_972 : (Jvm.Cond.code ({ cls := "ReedOracles$Plans", name := "mostShared", desc := "()I" } : Jvm.MethodName) prog_6_method_5_code (1 : Nat) (Option.some Jvm.ClassFile.FieldType.int)) ∈ zT := zT_mem (tb4 _ (List.mem_of_getElem? (l := tables_1_4) (i := 134) rfl)) rfl
set_option maxRecDepth 100000 in
theorem wd_973 : (Jvm.Cond.methodLink "ReedOracles" (169 : Nat) ({ cls := "ReedOracles$Plans", name := "sharedReed", desc := "(LReedOracles$Duchy;I)I" } : Jvm.MethodName)) ∈ zT := zT_mem (tb4 _ (List.mem_of_getElem? (l := tables_1_4) (i := 135) rfl)) rfl
set_option maxRecDepth 100000 in
theorem wd_974 : (Jvm.Cond.instanceMethod ({ cls := "ReedOracles$Plans", name := "sharedReed", desc := "(LReedOracles$Duchy;I)I" } : Jvm.MethodName)) ∈ zT := zT_mem (tb4 _ (List.mem_of_getElem? (l := tables_1_4) (i := 136) rfl)) rfl
set_option maxRecDepth 100000 in
theorem wd_975 : (Jvm.Cond.selects "ReedOracles$Plans" ({ cls := "ReedOracles$Plans", name := "sharedReed", desc := "(LReedOracles$Duchy;I)I" } : Jvm.MethodName) ({ cls := "ReedOracles$Plans", name := "sharedReed", desc := "(LReedOracles$Duchy;I)I" } : Jvm.MethodName)) ∈ zT := zT_mem (tb4 _ (List.mem_of_getElem? (l := tables_1_4) (i := 137) rfl)) rfl
set_option maxRecDepth 100000 in
theorem wd_976 : (Jvm.Cond.code ({ cls := "ReedOracles$Plans", name := "sharedReed", desc := "(LReedOracles$Duchy;I)I" } : Jvm.MethodName) prog_6_method_6_code (6 : Nat) (Option.some Jvm.ClassFile.FieldType.int)) ∈ zT := zT_mem (tb4 _ (List.mem_of_getElem? (l := tables_1_4) (i := 138) rfl)) rfl
set_option maxRecDepth 100000 in
theorem wd_977 : (Jvm.Cond.methodLink "ReedOracles$Plans" (49 : Nat) ({ cls := "ReedOracles$Plans", name := "firstShare", desc := "(LReedOracles$Duchy;II)I" } : Jvm.MethodName)) ∈ zT := zT_mem (tb4 _ (List.mem_of_getElem? (l := tables_1_4) (i := 139) rfl)) rfl
set_option maxRecDepth 100000 in
theorem wd_979 : (Jvm.Cond.instanceMethod ({ cls := "ReedOracles$Plans", name := "firstShare", desc := "(LReedOracles$Duchy;II)I" } : Jvm.MethodName)) ∈ zT := zT_mem (tb4 _ (List.mem_of_getElem? (l := tables_1_4) (i := 141) rfl)) rfl
set_option maxRecDepth 100000 in
theorem wd_980 : (Jvm.Cond.code ({ cls := "ReedOracles$Plans", name := "firstShare", desc := "(LReedOracles$Duchy;II)I" } : Jvm.MethodName) prog_6_method_7_code (6 : Nat) (Option.some Jvm.ClassFile.FieldType.int)) ∈ zT := zT_mem (tb4 _ (List.mem_of_getElem? (l := tables_1_4) (i := 142) rfl)) rfl
set_option maxRecDepth 100000 in
theorem wd_981 : (Jvm.Cond.methodLink "ReedOraclesLaw" (64 : Nat) ({ cls := "ReedOracles", name := "dare", desc := "(IIIZ)I" } : Jvm.MethodName)) ∈ zT := zT_mem (tb4 _ (List.mem_of_getElem? (l := tables_1_4) (i := 143) rfl)) rfl
set_option maxRecDepth 100000 in
theorem wd_982 : (Jvm.Cond.instanceMethod ({ cls := "ReedOracles", name := "dare", desc := "(IIIZ)I" } : Jvm.MethodName)) ∈ zT := zT_mem (tb4 _ (List.mem_of_getElem? (l := tables_1_4) (i := 144) rfl)) rfl
set_option maxRecDepth 100000 in
theorem wd_983 : (Jvm.Cond.selects "ReedOracles" ({ cls := "ReedOracles", name := "dare", desc := "(IIIZ)I" } : Jvm.MethodName) ({ cls := "ReedOracles", name := "dare", desc := "(IIIZ)I" } : Jvm.MethodName)) ∈ zT := zT_mem (tb4 _ (List.mem_of_getElem? (l := tables_1_4) (i := 145) rfl)) rfl
set_option maxRecDepth 100000 in
theorem wd_984 : (Jvm.Cond.code ({ cls := "ReedOracles", name := "dare", desc := "(IIIZ)I" } : Jvm.MethodName) prog_1_method_13_code (6 : Nat) (Option.some Jvm.ClassFile.FieldType.int)) ∈ zT := zT_mem (tb4 _ (List.mem_of_getElem? (l := tables_1_4) (i := 146) rfl)) rfl
set_option maxRecDepth 100000 in
theorem wd_985 : (Jvm.Cond.methodLink "ReedOracles" (172 : Nat) ({ cls := "ReedOracles$Duchy", name := "hasReed", desc := "(I)Z" } : Jvm.MethodName)) ∈ zT := zT_mem (tb4 _ (List.mem_of_getElem? (l := tables_1_4) (i := 147) rfl)) rfl
set_option maxRecDepth 100000 in
theorem wd_986 : (Jvm.Cond.methodLink "ReedOracles" (175 : Nat) ({ cls := "ReedOracles$Plans", name := "play", desc := "(LReedOracles$Duchy;II)V" } : Jvm.MethodName)) ∈ zT := zT_mem (tb4 _ (List.mem_of_getElem? (l := tables_1_4) (i := 148) rfl)) rfl
set_option maxRecDepth 100000 in
theorem wd_987 : (Jvm.Cond.instanceMethod ({ cls := "ReedOracles$Plans", name := "play", desc := "(LReedOracles$Duchy;II)V" } : Jvm.MethodName)) ∈ zT := zT_mem (tb4 _ (List.mem_of_getElem? (l := tables_1_4) (i := 149) rfl)) rfl
set_option maxRecDepth 100000 in
theorem wd_988 : (Jvm.Cond.selects "ReedOracles$Plans" ({ cls := "ReedOracles$Plans", name := "play", desc := "(LReedOracles$Duchy;II)V" } : Jvm.MethodName) ({ cls := "ReedOracles$Plans", name := "play", desc := "(LReedOracles$Duchy;II)V" } : Jvm.MethodName)) ∈ zT := zT_mem (tb4 _ (List.mem_of_getElem? (l := tables_1_4) (i := 150) rfl)) rfl
set_option maxRecDepth 100000 in
theorem wd_989 : (Jvm.Cond.code ({ cls := "ReedOracles$Plans", name := "play", desc := "(LReedOracles$Duchy;II)V" } : Jvm.MethodName) prog_6_method_10_code (8 : Nat) (Option.none : Option Jvm.ClassFile.FieldType)) ∈ zT := zT_mem (tb4 _ (List.mem_of_getElem? (l := tables_1_4) (i := 151) rfl)) rfl
set_option maxRecDepth 100000 in
theorem wd_990 : (Jvm.Cond.methodLink "ReedOracles$Plans" (63 : Nat) ({ cls := "ReedOracles$Plans", name := "findLost", desc := "(LReedOracles$Duchy;II)V" } : Jvm.MethodName)) ∈ zT := zT_mem (tb4 _ (List.mem_of_getElem? (l := tables_1_4) (i := 152) rfl)) rfl
set_option maxRecDepth 100000 in
theorem wd_992 : (Jvm.Cond.instanceMethod ({ cls := "ReedOracles$Plans", name := "findLost", desc := "(LReedOracles$Duchy;II)V" } : Jvm.MethodName)) ∈ zT := zT_mem (tb4 _ (List.mem_of_getElem? (l := tables_1_4) (i := 154) rfl)) rfl
set_option maxRecDepth 100000 in
theorem wd_993 : (Jvm.Cond.code ({ cls := "ReedOracles$Plans", name := "findLost", desc := "(LReedOracles$Duchy;II)V" } : Jvm.MethodName) prog_6_method_8_code (6 : Nat) (Option.none : Option Jvm.ClassFile.FieldType)) ∈ zT := zT_mem (tb4 _ (List.mem_of_getElem? (l := tables_1_4) (i := 155) rfl)) rfl
set_option maxRecDepth 100000 in
theorem wd_994 : (Jvm.Cond.methodLink "ReedOracles$Plans" (53 : Nat) ({ cls := "ReedOracles$Duchy", name := "noteDried", desc := "(IIII)I" } : Jvm.MethodName)) ∈ zT := zT_mem (tb4 _ (List.mem_of_getElem? (l := tables_1_4) (i := 156) rfl)) rfl
set_option maxRecDepth 100000 in
theorem wd_995 : (Jvm.Cond.instanceMethod ({ cls := "ReedOracles$Duchy", name := "noteDried", desc := "(IIII)I" } : Jvm.MethodName)) ∈ zT := zT_mem (tb4 _ (List.mem_of_getElem? (l := tables_1_4) (i := 157) rfl)) rfl
set_option maxRecDepth 100000 in
theorem wd_996 : (Jvm.Cond.selects "ReedOracles$Duchy" ({ cls := "ReedOracles$Duchy", name := "noteDried", desc := "(IIII)I" } : Jvm.MethodName) ({ cls := "ReedOracles$Duchy", name := "noteDried", desc := "(IIII)I" } : Jvm.MethodName)) ∈ zT := zT_mem (tb4 _ (List.mem_of_getElem? (l := tables_1_4) (i := 158) rfl)) rfl
set_option maxRecDepth 100000 in
theorem wd_997 : (Jvm.Cond.code ({ cls := "ReedOracles$Duchy", name := "noteDried", desc := "(IIII)I" } : Jvm.MethodName) prog_4_method_17_code (5 : Nat) (Option.some Jvm.ClassFile.FieldType.int)) ∈ zT := zT_mem (tb4 _ (List.mem_of_getElem? (l := tables_1_4) (i := 159) rfl)) rfl
set_option maxRecDepth 100000 in
theorem wd_999 : (Jvm.Cond.methodLink "ReedOracles$Plans" (67 : Nat) ({ cls := "ReedOracles$Plans", name := "dareWorth", desc := "(II)I" } : Jvm.MethodName)) ∈ zT := zT_mem (tb4 _ (List.mem_of_getElem? (l := tables_1_4) (i := 161) rfl)) rfl
set_option maxRecDepth 100000 in
theorem wd_1001 : (Jvm.Cond.instanceMethod ({ cls := "ReedOracles$Plans", name := "dareWorth", desc := "(II)I" } : Jvm.MethodName)) ∈ zT := zT_mem (tb4 _ (List.mem_of_getElem? (l := tables_1_4) (i := 163) rfl)) rfl
set_option maxRecDepth 100000 in
theorem wd_1002 : (Jvm.Cond.code ({ cls := "ReedOracles$Plans", name := "dareWorth", desc := "(II)I" } : Jvm.MethodName) prog_6_method_11_code (3 : Nat) (Option.some Jvm.ClassFile.FieldType.int)) ∈ zT := zT_mem (tb4 _ (List.mem_of_getElem? (l := tables_1_4) (i := 164) rfl)) rfl
set_option maxRecDepth 100000 in
theorem wd_1003 : (Jvm.Cond.methodLink "ReedOracles$Plans" (70 : Nat) ({ cls := "ReedOracles$Plans", name := "isLost", desc := "(II)Z" } : Jvm.MethodName)) ∈ zT := zT_mem (tb4 _ (List.mem_of_getElem? (l := tables_1_4) (i := 165) rfl)) rfl
set_option maxRecDepth 100000 in
theorem wd_1005 : (Jvm.Cond.instanceMethod ({ cls := "ReedOracles$Plans", name := "isLost", desc := "(II)Z" } : Jvm.MethodName)) ∈ zT := zT_mem (tb4 _ (List.mem_of_getElem? (l := tables_1_4) (i := 167) rfl)) rfl
set_option maxRecDepth 100000 in
theorem wd_1006 : (Jvm.Cond.code ({ cls := "ReedOracles$Plans", name := "isLost", desc := "(II)Z" } : Jvm.MethodName) prog_6_method_9_code (4 : Nat) (Option.some Jvm.ClassFile.FieldType.boolean)) ∈ zT := zT_mem (tb4 _ (List.mem_of_getElem? (l := tables_1_4) (i := 168) rfl)) rfl
set_option maxRecDepth 100000 in
theorem wd_1007 : (Jvm.Cond.methodLink "ReedOracles$Plans" (57 : Nat) ({ cls := "java/lang/Integer", name := "bitCount", desc := "(I)I" } : Jvm.MethodName)) ∈ zT := zT_mem (tb4 _ (List.mem_of_getElem? (l := tables_1_4) (i := 169) rfl)) rfl
set_option maxRecDepth 100000 in
theorem wd_1008 : (Jvm.Cond.static ({ cls := "java/lang/Integer", name := "bitCount", desc := "(I)I" } : Jvm.MethodName)) ∈ zT := zT_mem (tb4 _ (List.mem_of_getElem? (l := tables_1_4) (i := 170) rfl)) rfl
set_option maxRecDepth 100000 in
theorem wd_1009 : (Jvm.Cond.code ({ cls := "java/lang/Integer", name := "bitCount", desc := "(I)I" } : Jvm.MethodName) prog_15_method_49_code (1 : Nat) (Option.some Jvm.ClassFile.FieldType.int)) ∈ zT := zT_mem (tb4 _ (List.mem_of_getElem? (l := tables_1_4) (i := 171) rfl)) rfl
set_option maxRecDepth 100000 in
theorem wd_1010 : (Jvm.Cond.constant "java/lang/Integer" (265 : Nat) (1431655765 : Int32)) ∈ zT := zT_mem (tb4 _ (List.mem_of_getElem? (l := tables_1_4) (i := 172) rfl)) rfl
set_option maxRecDepth 100000 in
theorem wd_1011 : (Jvm.Cond.constant "java/lang/Integer" (266 : Nat) (858993459 : Int32)) ∈ zT := zT_mem (tb4 _ (List.mem_of_getElem? (l := tables_1_4) (i := 173) rfl)) rfl
set_option maxRecDepth 100000 in
theorem wd_1012 : (Jvm.Cond.constant "java/lang/Integer" (267 : Nat) (252645135 : Int32)) ∈ zT := zT_mem (tb4 _ (List.mem_of_getElem? (l := tables_1_4) (i := 174) rfl)) rfl
set_option maxRecDepth 100000 in
theorem wd_1013 : (Jvm.Cond.methodLink "ReedOracles" (178 : Nat) ({ cls := "ReedOracles$Plans", name := "firstDare", desc := "(LReedOracles$Duchy;)I" } : Jvm.MethodName)) ∈ zT := zT_mem (tb4 _ (List.mem_of_getElem? (l := tables_1_4) (i := 175) rfl)) rfl
set_option maxRecDepth 100000 in
theorem wd_1014 : (Jvm.Cond.instanceMethod ({ cls := "ReedOracles$Plans", name := "firstDare", desc := "(LReedOracles$Duchy;)I" } : Jvm.MethodName)) ∈ zT := zT_mem (tb4 _ (List.mem_of_getElem? (l := tables_1_4) (i := 176) rfl)) rfl
set_option maxRecDepth 100000 in
theorem wd_1015 : (Jvm.Cond.selects "ReedOracles$Plans" ({ cls := "ReedOracles$Plans", name := "firstDare", desc := "(LReedOracles$Duchy;)I" } : Jvm.MethodName) ({ cls := "ReedOracles$Plans", name := "firstDare", desc := "(LReedOracles$Duchy;)I" } : Jvm.MethodName)) ∈ zT := zT_mem (tb4 _ (List.mem_of_getElem? (l := tables_1_4) (i := 177) rfl)) rfl
set_option maxRecDepth 100000 in
theorem wd_1016 : (Jvm.Cond.code ({ cls := "ReedOracles$Plans", name := "firstDare", desc := "(LReedOracles$Duchy;)I" } : Jvm.MethodName) prog_6_method_13_code (3 : Nat) (Option.some Jvm.ClassFile.FieldType.int)) ∈ zT := zT_mem (tb4 _ (List.mem_of_getElem? (l := tables_1_4) (i := 178) rfl)) rfl
set_option maxRecDepth 100000 in
theorem wd_1017 : (Jvm.Cond.methodLink "ReedOracles" (182 : Nat) ({ cls := "ReedOracles$Plans", name := "outcome", desc := "()I" } : Jvm.MethodName)) ∈ zT := zT_mem (tb4 _ (List.mem_of_getElem? (l := tables_1_4) (i := 179) rfl)) rfl
set_option maxRecDepth 100000 in
theorem wd_1018 : (Jvm.Cond.instanceMethod ({ cls := "ReedOracles$Plans", name := "outcome", desc := "()I" } : Jvm.MethodName)) ∈ zT := zT_mem (tb4 _ (List.mem_of_getElem? (l := tables_1_4) (i := 180) rfl)) rfl
set_option maxRecDepth 100000 in
theorem wd_1019 : (Jvm.Cond.selects "ReedOracles$Plans" ({ cls := "ReedOracles$Plans", name := "outcome", desc := "()I" } : Jvm.MethodName) ({ cls := "ReedOracles$Plans", name := "outcome", desc := "()I" } : Jvm.MethodName)) ∈ zT := zT_mem (tb4 _ (List.mem_of_getElem? (l := tables_1_4) (i := 181) rfl)) rfl
set_option maxRecDepth 100000 in
theorem wd_1020 : (Jvm.Cond.code ({ cls := "ReedOracles$Plans", name := "outcome", desc := "()I" } : Jvm.MethodName) prog_6_method_12_code (1 : Nat) (Option.some Jvm.ClassFile.FieldType.int)) ∈ zT := zT_mem (tb4 _ (List.mem_of_getElem? (l := tables_1_4) (i := 182) rfl)) rfl
set_option maxRecDepth 100000 in
theorem wd_1021 : (Jvm.Cond.methodLink "ReedOraclesLaw" (69 : Nat) ({ cls := "ReedOracles", name := "alike", desc := "(III)I" } : Jvm.MethodName)) ∈ zT := zT_mem (tb4 _ (List.mem_of_getElem? (l := tables_1_4) (i := 183) rfl)) rfl
set_option maxRecDepth 100000 in
theorem wd_1022 : (Jvm.Cond.instanceMethod ({ cls := "ReedOracles", name := "alike", desc := "(III)I" } : Jvm.MethodName)) ∈ zT := zT_mem (tb4 _ (List.mem_of_getElem? (l := tables_1_4) (i := 184) rfl)) rfl
set_option maxRecDepth 100000 in
theorem wd_1023 : (Jvm.Cond.selects "ReedOracles" ({ cls := "ReedOracles", name := "alike", desc := "(III)I" } : Jvm.MethodName) ({ cls := "ReedOracles", name := "alike", desc := "(III)I" } : Jvm.MethodName)) ∈ zT := zT_mem (tb4 _ (List.mem_of_getElem? (l := tables_1_4) (i := 185) rfl)) rfl
set_option maxRecDepth 100000 in
theorem wd_1024 : (Jvm.Cond.code ({ cls := "ReedOracles", name := "alike", desc := "(III)I" } : Jvm.MethodName) prog_1_method_14_code (5 : Nat) (Option.some Jvm.ClassFile.FieldType.int)) ∈ zT := zT_mem (tb4 _ (List.mem_of_getElem? (l := tables_1_4) (i := 186) rfl)) rfl
set_option maxRecDepth 100000 in
theorem wd_1025 : (Jvm.Cond.methodLink "ReedOracles" (185 : Nat) ({ cls := "ReedOracles$Survey", name := "sameAnswers", desc := "(LReedOracles$Duchy;II)I" } : Jvm.MethodName)) ∈ zT := zT_mem (tb4 _ (List.mem_of_getElem? (l := tables_1_4) (i := 187) rfl)) rfl
set_option maxRecDepth 100000 in
theorem wd_1026 : (Jvm.Cond.instanceMethod ({ cls := "ReedOracles$Survey", name := "sameAnswers", desc := "(LReedOracles$Duchy;II)I" } : Jvm.MethodName)) ∈ zT := zT_mem (tb4 _ (List.mem_of_getElem? (l := tables_1_4) (i := 188) rfl)) rfl
set_option maxRecDepth 100000 in
theorem wd_1027 : (Jvm.Cond.selects "ReedOracles$Survey" ({ cls := "ReedOracles$Survey", name := "sameAnswers", desc := "(LReedOracles$Duchy;II)I" } : Jvm.MethodName) ({ cls := "ReedOracles$Survey", name := "sameAnswers", desc := "(LReedOracles$Duchy;II)I" } : Jvm.MethodName)) ∈ zT := zT_mem (tb4 _ (List.mem_of_getElem? (l := tables_1_4) (i := 189) rfl)) rfl
set_option maxRecDepth 100000 in
theorem wd_1028 : (Jvm.Cond.code ({ cls := "ReedOracles$Survey", name := "sameAnswers", desc := "(LReedOracles$Duchy;II)I" } : Jvm.MethodName) prog_8_method_2_code (7 : Nat) (Option.some Jvm.ClassFile.FieldType.int)) ∈ zT := zT_mem (tb4 _ (List.mem_of_getElem? (l := tables_1_4) (i := 190) rfl)) rfl
set_option maxRecDepth 100000 in
theorem wd_1029 : (Jvm.Cond.methodLink "ReedOracles$Survey" (30 : Nat) ({ cls := "ReedOracles$Duchy", name := "answerOf", desc := "(III)I" } : Jvm.MethodName)) ∈ zT := zT_mem (tb4 _ (List.mem_of_getElem? (l := tables_1_4) (i := 191) rfl)) rfl
set_option maxRecDepth 100000 in
theorem wd_1030 : (Jvm.Cond.methodLink "ReedOraclesLaw" (73 : Nat) ({ cls := "ReedOracles", name := "lows", desc := "(I)I" } : Jvm.MethodName)) ∈ zT := zT_mem (tb4 _ (List.mem_of_getElem? (l := tables_1_4) (i := 192) rfl)) rfl
set_option maxRecDepth 100000 in
theorem wd_1031 : (Jvm.Cond.instanceMethod ({ cls := "ReedOracles", name := "lows", desc := "(I)I" } : Jvm.MethodName)) ∈ zT := zT_mem (tb4 _ (List.mem_of_getElem? (l := tables_1_4) (i := 193) rfl)) rfl
set_option maxRecDepth 100000 in
theorem wd_1032 : (Jvm.Cond.selects "ReedOracles" ({ cls := "ReedOracles", name := "lows", desc := "(I)I" } : Jvm.MethodName) ({ cls := "ReedOracles", name := "lows", desc := "(I)I" } : Jvm.MethodName)) ∈ zT := zT_mem (tb4 _ (List.mem_of_getElem? (l := tables_1_4) (i := 194) rfl)) rfl
set_option maxRecDepth 100000 in
theorem wd_1033 : (Jvm.Cond.code ({ cls := "ReedOracles", name := "lows", desc := "(I)I" } : Jvm.MethodName) prog_1_method_15_code (3 : Nat) (Option.some Jvm.ClassFile.FieldType.int)) ∈ zT := zT_mem (tb4 _ (List.mem_of_getElem? (l := tables_1_4) (i := 195) rfl)) rfl
set_option maxRecDepth 100000 in
theorem wd_1034 : (Jvm.Cond.methodLink "ReedOracles" (192 : Nat) ({ cls := "ReedOracles$Survey", name := "gatherNotes", desc := "(LReedOracles$Duchy;I)V" } : Jvm.MethodName)) ∈ zT := zT_mem (tb4 _ (List.mem_of_getElem? (l := tables_1_4) (i := 196) rfl)) rfl
set_option maxRecDepth 100000 in
theorem wd_1035 : (Jvm.Cond.instanceMethod ({ cls := "ReedOracles$Survey", name := "gatherNotes", desc := "(LReedOracles$Duchy;I)V" } : Jvm.MethodName)) ∈ zT := zT_mem (tb4 _ (List.mem_of_getElem? (l := tables_1_4) (i := 197) rfl)) rfl
set_option maxRecDepth 100000 in
theorem wd_1036 : (Jvm.Cond.selects "ReedOracles$Survey" ({ cls := "ReedOracles$Survey", name := "gatherNotes", desc := "(LReedOracles$Duchy;I)V" } : Jvm.MethodName) ({ cls := "ReedOracles$Survey", name := "gatherNotes", desc := "(LReedOracles$Duchy;I)V" } : Jvm.MethodName)) ∈ zT := zT_mem (tb4 _ (List.mem_of_getElem? (l := tables_1_4) (i := 198) rfl)) rfl
set_option maxRecDepth 100000 in
theorem wd_1037 : (Jvm.Cond.code ({ cls := "ReedOracles$Survey", name := "gatherNotes", desc := "(LReedOracles$Duchy;I)V" } : Jvm.MethodName) prog_8_method_3_code (6 : Nat) (Option.none : Option Jvm.ClassFile.FieldType)) ∈ zT := zT_mem (tb4 _ (List.mem_of_getElem? (l := tables_1_4) (i := 199) rfl)) rfl
set_option maxRecDepth 100000 in
theorem wd_1038 : (Jvm.Cond.methodLink "ReedOracles$Survey" (34 : Nat) ({ cls := "java/util/Arrays", name := "fill", desc := "([II)V" } : Jvm.MethodName)) ∈ zT := zT_mem (tb4 _ (List.mem_of_getElem? (l := tables_1_4) (i := 200) rfl)) rfl
set_option maxRecDepth 100000 in
theorem wd_1039 : (Jvm.Cond.methodLink "ReedOracles$Survey" (49 : Nat) ({ cls := "ReedOracles$Duchy", name := "noteAt", desc := "(IIIII)I" } : Jvm.MethodName)) ∈ zT := zT_mem (tb4 _ (List.mem_of_getElem? (l := tables_1_4) (i := 201) rfl)) rfl
set_option maxRecDepth 100000 in
theorem wd_1040 : (Jvm.Cond.methodLink "ReedOracles$Survey" (53 : Nat) ({ cls := "ReedOracles$Survey", name := "addNote", desc := "(I)V" } : Jvm.MethodName)) ∈ zT := zT_mem (tb4 _ (List.mem_of_getElem? (l := tables_1_4) (i := 202) rfl)) rfl
set_option maxRecDepth 100000 in
theorem wd_1042 : (Jvm.Cond.instanceMethod ({ cls := "ReedOracles$Survey", name := "addNote", desc := "(I)V" } : Jvm.MethodName)) ∈ zT := zT_mem (tb4 _ (List.mem_of_getElem? (l := tables_1_4) (i := 204) rfl)) rfl
set_option maxRecDepth 100000 in
theorem wd_1043 : (Jvm.Cond.code ({ cls := "ReedOracles$Survey", name := "addNote", desc := "(I)V" } : Jvm.MethodName) prog_8_method_4_code (2 : Nat) (Option.none : Option Jvm.ClassFile.FieldType)) ∈ zT := zT_mem (tb4 _ (List.mem_of_getElem? (l := tables_1_4) (i := 205) rfl)) rfl
set_option maxRecDepth 100000 in
theorem wd_1044 : (Jvm.Cond.methodLink "ReedOraclesLaw" (77 : Nat) ({ cls := "ReedOracles", name := "told", desc := "(III)I" } : Jvm.MethodName)) ∈ zT := zT_mem (tb4 _ (List.mem_of_getElem? (l := tables_1_4) (i := 206) rfl)) rfl
set_option maxRecDepth 100000 in
theorem wd_1045 : (Jvm.Cond.instanceMethod ({ cls := "ReedOracles", name := "told", desc := "(III)I" } : Jvm.MethodName)) ∈ zT := zT_mem (tb4 _ (List.mem_of_getElem? (l := tables_1_4) (i := 207) rfl)) rfl
set_option maxRecDepth 100000 in
theorem wd_1046 : (Jvm.Cond.selects "ReedOracles" ({ cls := "ReedOracles", name := "told", desc := "(III)I" } : Jvm.MethodName) ({ cls := "ReedOracles", name := "told", desc := "(III)I" } : Jvm.MethodName)) ∈ zT := zT_mem (tb4 _ (List.mem_of_getElem? (l := tables_1_4) (i := 208) rfl)) rfl
set_option maxRecDepth 100000 in
theorem wd_1047 : (Jvm.Cond.code ({ cls := "ReedOracles", name := "told", desc := "(III)I" } : Jvm.MethodName) prog_1_method_16_code (5 : Nat) (Option.some Jvm.ClassFile.FieldType.int)) ∈ zT := zT_mem (tb4 _ (List.mem_of_getElem? (l := tables_1_4) (i := 209) rfl)) rfl
set_option maxRecDepth 100000 in
theorem wd_1048 : (Jvm.Cond.methodLink "ReedOracles" (200 : Nat) ({ cls := "ReedOracles$Survey", name := "tellers", desc := "(LReedOracles$Duchy;II)I" } : Jvm.MethodName)) ∈ zT := zT_mem (tb4 _ (List.mem_of_getElem? (l := tables_1_4) (i := 210) rfl)) rfl
set_option maxRecDepth 100000 in
theorem wd_1049 : (Jvm.Cond.instanceMethod ({ cls := "ReedOracles$Survey", name := "tellers", desc := "(LReedOracles$Duchy;II)I" } : Jvm.MethodName)) ∈ zT := zT_mem (tb4 _ (List.mem_of_getElem? (l := tables_1_4) (i := 211) rfl)) rfl
set_option maxRecDepth 100000 in
theorem wd_1050 : (Jvm.Cond.selects "ReedOracles$Survey" ({ cls := "ReedOracles$Survey", name := "tellers", desc := "(LReedOracles$Duchy;II)I" } : Jvm.MethodName) ({ cls := "ReedOracles$Survey", name := "tellers", desc := "(LReedOracles$Duchy;II)I" } : Jvm.MethodName)) ∈ zT := zT_mem (tb4 _ (List.mem_of_getElem? (l := tables_1_4) (i := 212) rfl)) rfl
set_option maxRecDepth 100000 in
theorem wd_1051 : (Jvm.Cond.code ({ cls := "ReedOracles$Survey", name := "tellers", desc := "(LReedOracles$Duchy;II)I" } : Jvm.MethodName) prog_8_method_5_code (7 : Nat) (Option.some Jvm.ClassFile.FieldType.int)) ∈ zT := zT_mem (tb4 _ (List.mem_of_getElem? (l := tables_1_4) (i := 213) rfl)) rfl
set_option maxRecDepth 100000 in
theorem wd_1052 : (Jvm.Cond.methodLink "ReedOraclesLaw" (81 : Nat) ({ cls := "ReedOracles", name := "weather", desc := "(IIIII)I" } : Jvm.MethodName)) ∈ zT := zT_mem (tb4 _ (List.mem_of_getElem? (l := tables_1_4) (i := 214) rfl)) rfl
set_option maxRecDepth 100000 in
theorem wd_1053 : (Jvm.Cond.instanceMethod ({ cls := "ReedOracles", name := "weather", desc := "(IIIII)I" } : Jvm.MethodName)) ∈ zT := zT_mem (tb4 _ (List.mem_of_getElem? (l := tables_1_4) (i := 215) rfl)) rfl
set_option maxRecDepth 100000 in
theorem wd_1054 : (Jvm.Cond.selects "ReedOracles" ({ cls := "ReedOracles", name := "weather", desc := "(IIIII)I" } : Jvm.MethodName) ({ cls := "ReedOracles", name := "weather", desc := "(IIIII)I" } : Jvm.MethodName)) ∈ zT := zT_mem (tb4 _ (List.mem_of_getElem? (l := tables_1_4) (i := 216) rfl)) rfl
set_option maxRecDepth 100000 in
theorem wd_1055 : (Jvm.Cond.code ({ cls := "ReedOracles", name := "weather", desc := "(IIIII)I" } : Jvm.MethodName) prog_1_method_17_code (7 : Nat) (Option.some Jvm.ClassFile.FieldType.int)) ∈ zT := zT_mem (tb4 _ (List.mem_of_getElem? (l := tables_1_4) (i := 217) rfl)) rfl
set_option maxRecDepth 100000 in
theorem wd_1056 : (Jvm.Cond.methodLink "ReedOracles" (203 : Nat) ({ cls := "ReedOracles$Survey", name := "fitColds", desc := "(LReedOracles$Duchy;IIII)I" } : Jvm.MethodName)) ∈ zT := zT_mem (tb4 _ (List.mem_of_getElem? (l := tables_1_4) (i := 218) rfl)) rfl
set_option maxRecDepth 100000 in
theorem wd_1057 : (Jvm.Cond.instanceMethod ({ cls := "ReedOracles$Survey", name := "fitColds", desc := "(LReedOracles$Duchy;IIII)I" } : Jvm.MethodName)) ∈ zT := zT_mem (tb4 _ (List.mem_of_getElem? (l := tables_1_4) (i := 219) rfl)) rfl
set_option maxRecDepth 100000 in
theorem wd_1058 : (Jvm.Cond.selects "ReedOracles$Survey" ({ cls := "ReedOracles$Survey", name := "fitColds", desc := "(LReedOracles$Duchy;IIII)I" } : Jvm.MethodName) ({ cls := "ReedOracles$Survey", name := "fitColds", desc := "(LReedOracles$Duchy;IIII)I" } : Jvm.MethodName)) ∈ zT := zT_mem (tb4 _ (List.mem_of_getElem? (l := tables_1_4) (i := 220) rfl)) rfl
set_option maxRecDepth 100000 in
theorem wd_1059 : (Jvm.Cond.code ({ cls := "ReedOracles$Survey", name := "fitColds", desc := "(LReedOracles$Duchy;IIII)I" } : Jvm.MethodName) prog_8_method_6_code (9 : Nat) (Option.some Jvm.ClassFile.FieldType.int)) ∈ zT := zT_mem (tb4 _ (List.mem_of_getElem? (l := tables_1_4) (i := 221) rfl)) rfl
set_option maxRecDepth 100000 in
theorem wd_1060 : (Jvm.Cond.methodLink "ReedOracles$Survey" (57 : Nat) ({ cls := "ReedOracles$Duchy", name := "meaning", desc := "(I)I" } : Jvm.MethodName)) ∈ zT := zT_mem (tb4 _ (List.mem_of_getElem? (l := tables_1_4) (i := 222) rfl)) rfl
set_option maxRecDepth 100000 in
theorem wd_1061 : (Jvm.Cond.methodLink "ReedOraclesLaw" (85 : Nat) ({ cls := "ReedOracles", name := "fact", desc := "(III)I" } : Jvm.MethodName)) ∈ zT := zT_mem (tb4 _ (List.mem_of_getElem? (l := tables_1_4) (i := 223) rfl)) rfl
set_option maxRecDepth 100000 in
theorem wd_1062 : (Jvm.Cond.instanceMethod ({ cls := "ReedOracles", name := "fact", desc := "(III)I" } : Jvm.MethodName)) ∈ zT := zT_mem (tb4 _ (List.mem_of_getElem? (l := tables_1_4) (i := 224) rfl)) rfl
set_option maxRecDepth 100000 in
theorem wd_1063 : (Jvm.Cond.selects "ReedOracles" ({ cls := "ReedOracles", name := "fact", desc := "(III)I" } : Jvm.MethodName) ({ cls := "ReedOracles", name := "fact", desc := "(III)I" } : Jvm.MethodName)) ∈ zT := zT_mem (tb4 _ (List.mem_of_getElem? (l := tables_1_4) (i := 225) rfl)) rfl
set_option maxRecDepth 100000 in
theorem wd_1064 : (Jvm.Cond.code ({ cls := "ReedOracles", name := "fact", desc := "(III)I" } : Jvm.MethodName) prog_1_method_18_code (5 : Nat) (Option.some Jvm.ClassFile.FieldType.int)) ∈ zT := zT_mem (tb4 _ (List.mem_of_getElem? (l := tables_1_4) (i := 226) rfl)) rfl
set_option maxRecDepth 100000 in
theorem wd_1065 : (Jvm.Cond.methodLink "ReedOracles" (207 : Nat) ({ cls := "ReedOracles$Told", name := "logAt", desc := "(I)LReedOracles$Log;" } : Jvm.MethodName)) ∈ zT := zT_mem (tb4 _ (List.mem_of_getElem? (l := tables_1_4) (i := 227) rfl)) rfl
set_option maxRecDepth 100000 in
theorem wd_1066 : (Jvm.Cond.instanceMethod ({ cls := "ReedOracles$Told", name := "logAt", desc := "(I)LReedOracles$Log;" } : Jvm.MethodName)) ∈ zT := zT_mem (tb4 _ (List.mem_of_getElem? (l := tables_1_4) (i := 228) rfl)) rfl
set_option maxRecDepth 100000 in
theorem wd_1067 : (Jvm.Cond.selects "ReedOracles$Told" ({ cls := "ReedOracles$Told", name := "logAt", desc := "(I)LReedOracles$Log;" } : Jvm.MethodName) ({ cls := "ReedOracles$Told", name := "logAt", desc := "(I)LReedOracles$Log;" } : Jvm.MethodName)) ∈ zT := zT_mem (tb4 _ (List.mem_of_getElem? (l := tables_1_4) (i := 229) rfl)) rfl
set_option maxRecDepth 100000 in
theorem wd_1068 : (Jvm.Cond.code ({ cls := "ReedOracles$Told", name := "logAt", desc := "(I)LReedOracles$Log;" } : Jvm.MethodName) prog_11_method_7_code (2 : Nat) (Option.some (Jvm.ClassFile.FieldType.object "ReedOracles$Log"))) ∈ zT := zT_mem (tb4 _ (List.mem_of_getElem? (l := tables_1_4) (i := 230) rfl)) rfl
set_option maxRecDepth 100000 in
theorem wd_1069 : (Jvm.Cond.methodLink "ReedOracles" (211 : Nat) ({ cls := "ReedOracles$Log", name := "detail", desc := "(II)I" } : Jvm.MethodName)) ∈ zT := zT_mem (tb4 _ (List.mem_of_getElem? (l := tables_1_4) (i := 231) rfl)) rfl
set_option maxRecDepth 100000 in
theorem wd_1070 : (Jvm.Cond.instanceMethod ({ cls := "ReedOracles$Log", name := "detail", desc := "(II)I" } : Jvm.MethodName)) ∈ zT := zT_mem (tb4 _ (List.mem_of_getElem? (l := tables_1_4) (i := 232) rfl)) rfl
set_option maxRecDepth 100000 in
theorem wd_1071 : (Jvm.Cond.selects "ReedOracles$Log" ({ cls := "ReedOracles$Log", name := "detail", desc := "(II)I" } : Jvm.MethodName) ({ cls := "ReedOracles$Log", name := "detail", desc := "(II)I" } : Jvm.MethodName)) ∈ zT := zT_mem (tb4 _ (List.mem_of_getElem? (l := tables_1_4) (i := 233) rfl)) rfl
set_option maxRecDepth 100000 in
theorem wd_1072 : (Jvm.Cond.code ({ cls := "ReedOracles$Log", name := "detail", desc := "(II)I" } : Jvm.MethodName) prog_5_method_4_code (3 : Nat) (Option.some Jvm.ClassFile.FieldType.int)) ∈ zT := zT_mem (tb4 _ (List.mem_of_getElem? (l := tables_1_4) (i := 234) rfl)) rfl
set_option maxRecDepth 100000 in
theorem wd_1073 : (Jvm.Cond.methodLink "ReedOraclesLaw" (89 : Nat) ({ cls := "ReedOracles", name := "fits", desc := "(III)I" } : Jvm.MethodName)) ∈ zT := zT_mem (tb4 _ (List.mem_of_getElem? (l := tables_1_4) (i := 235) rfl)) rfl
set_option maxRecDepth 100000 in
theorem wd_1074 : (Jvm.Cond.instanceMethod ({ cls := "ReedOracles", name := "fits", desc := "(III)I" } : Jvm.MethodName)) ∈ zT := zT_mem (tb4 _ (List.mem_of_getElem? (l := tables_1_4) (i := 236) rfl)) rfl
set_option maxRecDepth 100000 in
theorem wd_1075 : (Jvm.Cond.selects "ReedOracles" ({ cls := "ReedOracles", name := "fits", desc := "(III)I" } : Jvm.MethodName) ({ cls := "ReedOracles", name := "fits", desc := "(III)I" } : Jvm.MethodName)) ∈ zT := zT_mem (tb4 _ (List.mem_of_getElem? (l := tables_1_4) (i := 237) rfl)) rfl
set_option maxRecDepth 100000 in
theorem wd_1076 : (Jvm.Cond.code ({ cls := "ReedOracles", name := "fits", desc := "(III)I" } : Jvm.MethodName) prog_1_method_19_code (6 : Nat) (Option.some Jvm.ClassFile.FieldType.int)) ∈ zT := zT_mem (tb4 _ (List.mem_of_getElem? (l := tables_1_4) (i := 238) rfl)) rfl
set_option maxRecDepth 100000 in
theorem wd_1077 : (Jvm.Cond.methodLink "ReedOracles" (214 : Nat) ({ cls := "ReedOracles$Duchy", name := "knows", desc := "(LReedOracles$Log;)Z" } : Jvm.MethodName)) ∈ zT := zT_mem (tb4 _ (List.mem_of_getElem? (l := tables_1_4) (i := 239) rfl)) rfl
set_option maxRecDepth 100000 in
theorem wd_1078 : (Jvm.Cond.instanceMethod ({ cls := "ReedOracles$Duchy", name := "knows", desc := "(LReedOracles$Log;)Z" } : Jvm.MethodName)) ∈ zT := zT_mem (tb5 _ (List.mem_of_getElem? (l := tables_1_5) (i := 0) rfl)) rfl
set_option maxRecDepth 100000 in
theorem wd_1079 : (Jvm.Cond.selects "ReedOracles$Duchy" ({ cls := "ReedOracles$Duchy", name := "knows", desc := "(LReedOracles$Log;)Z" } : Jvm.MethodName) ({ cls := "ReedOracles$Duchy", name := "knows", desc := "(LReedOracles$Log;)Z" } : Jvm.MethodName)) ∈ zT := zT_mem (tb5 _ (List.mem_of_getElem? (l := tables_1_5) (i := 1) rfl)) rfl
set_option maxRecDepth 100000 in
theorem wd_1080 : (Jvm.Cond.code ({ cls := "ReedOracles$Duchy", name := "knows", desc := "(LReedOracles$Log;)Z" } : Jvm.MethodName) prog_4_method_11_code (3 : Nat) (Option.some Jvm.ClassFile.FieldType.boolean)) ∈ zT := zT_mem (tb5 _ (List.mem_of_getElem? (l := tables_1_5) (i := 2) rfl)) rfl
set_option maxRecDepth 100000 in
theorem wd_1081 : (Jvm.Cond.methodLink "ReedOracles" (218 : Nat) ({ cls := "ReedOracles$Suspects", name := "gather", desc := "(LReedOracles$Duchy;LReedOracles$Log;)V" } : Jvm.MethodName)) ∈ zT := zT_mem (tb5 _ (List.mem_of_getElem? (l := tables_1_5) (i := 3) rfl)) rfl
set_option maxRecDepth 100000 in
theorem wd_1082 : (Jvm.Cond.instanceMethod ({ cls := "ReedOracles$Suspects", name := "gather", desc := "(LReedOracles$Duchy;LReedOracles$Log;)V" } : Jvm.MethodName)) ∈ zT := zT_mem (tb5 _ (List.mem_of_getElem? (l := tables_1_5) (i := 4) rfl)) rfl
set_option maxRecDepth 100000 in
theorem wd_1083 : (Jvm.Cond.selects "ReedOracles$Suspects" ({ cls := "ReedOracles$Suspects", name := "gather", desc := "(LReedOracles$Duchy;LReedOracles$Log;)V" } : Jvm.MethodName) ({ cls := "ReedOracles$Suspects", name := "gather", desc := "(LReedOracles$Duchy;LReedOracles$Log;)V" } : Jvm.MethodName)) ∈ zT := zT_mem (tb5 _ (List.mem_of_getElem? (l := tables_1_5) (i := 5) rfl)) rfl
set_option maxRecDepth 100000 in
theorem wd_1084 : (Jvm.Cond.code ({ cls := "ReedOracles$Suspects", name := "gather", desc := "(LReedOracles$Duchy;LReedOracles$Log;)V" } : Jvm.MethodName) prog_9_method_2_code (4 : Nat) (Option.none : Option Jvm.ClassFile.FieldType)) ∈ zT := zT_mem (tb5 _ (List.mem_of_getElem? (l := tables_1_5) (i := 6) rfl)) rfl
set_option maxRecDepth 100000 in
theorem wd_1085 : (Jvm.Cond.methodLink "ReedOracles$Suspects" (22 : Nat) ({ cls := "ReedOracles$Suspects", name := "agrees", desc := "(LReedOracles$Duchy;LReedOracles$Log;II)Z" } : Jvm.MethodName)) ∈ zT := zT_mem (tb5 _ (List.mem_of_getElem? (l := tables_1_5) (i := 7) rfl)) rfl
set_option maxRecDepth 100000 in
theorem wd_1086 : (Jvm.Cond.static ({ cls := "ReedOracles$Suspects", name := "agrees", desc := "(LReedOracles$Duchy;LReedOracles$Log;II)Z" } : Jvm.MethodName)) ∈ zT := zT_mem (tb5 _ (List.mem_of_getElem? (l := tables_1_5) (i := 8) rfl)) rfl
set_option maxRecDepth 100000 in
theorem wd_1087 : (Jvm.Cond.code ({ cls := "ReedOracles$Suspects", name := "agrees", desc := "(LReedOracles$Duchy;LReedOracles$Log;II)Z" } : Jvm.MethodName) prog_9_method_3_code (6 : Nat) (Option.some Jvm.ClassFile.FieldType.boolean)) ∈ zT := zT_mem (tb5 _ (List.mem_of_getElem? (l := tables_1_5) (i := 9) rfl)) rfl
set_option maxRecDepth 100000 in
theorem wd_1089 : (Jvm.Cond.methodLink "ReedOracles$Suspects" (44 : Nat) ({ cls := "ReedOracles$Duchy", name := "noteAt", desc := "(IIIII)I" } : Jvm.MethodName)) ∈ zT := zT_mem (tb5 _ (List.mem_of_getElem? (l := tables_1_5) (i := 11) rfl)) rfl
set_option maxRecDepth 100000 in
theorem wd_1090 : (Jvm.Cond.methodLink "ReedOracles" (223 : Nat) ({ cls := "ReedOracles$Suspects", name := "sureWet", desc := "()I" } : Jvm.MethodName)) ∈ zT := zT_mem (tb5 _ (List.mem_of_getElem? (l := tables_1_5) (i := 12) rfl)) rfl
set_option maxRecDepth 100000 in
theorem wd_1091 : (Jvm.Cond.instanceMethod ({ cls := "ReedOracles$Suspects", name := "sureWet", desc := "()I" } : Jvm.MethodName)) ∈ zT := zT_mem (tb5 _ (List.mem_of_getElem? (l := tables_1_5) (i := 13) rfl)) rfl
set_option maxRecDepth 100000 in
theorem wd_1092 : (Jvm.Cond.selects "ReedOracles$Suspects" ({ cls := "ReedOracles$Suspects", name := "sureWet", desc := "()I" } : Jvm.MethodName) ({ cls := "ReedOracles$Suspects", name := "sureWet", desc := "()I" } : Jvm.MethodName)) ∈ zT := zT_mem (tb5 _ (List.mem_of_getElem? (l := tables_1_5) (i := 14) rfl)) rfl
set_option maxRecDepth 100000 in
theorem wd_1093 : (Jvm.Cond.code ({ cls := "ReedOracles$Suspects", name := "sureWet", desc := "()I" } : Jvm.MethodName) prog_9_method_5_code (2 : Nat) (Option.some Jvm.ClassFile.FieldType.int)) ∈ zT := zT_mem (tb5 _ (List.mem_of_getElem? (l := tables_1_5) (i := 15) rfl)) rfl
set_option maxRecDepth 100000 in
theorem wd_1094 : (Jvm.Cond.methodLink "ReedOracles" (226 : Nat) ({ cls := "ReedOracles$Suspects", name := "sureKey", desc := "()I" } : Jvm.MethodName)) ∈ zT := zT_mem (tb5 _ (List.mem_of_getElem? (l := tables_1_5) (i := 16) rfl)) rfl
set_option maxRecDepth 100000 in
theorem wd_1095 : (Jvm.Cond.instanceMethod ({ cls := "ReedOracles$Suspects", name := "sureKey", desc := "()I" } : Jvm.MethodName)) ∈ zT := zT_mem (tb5 _ (List.mem_of_getElem? (l := tables_1_5) (i := 17) rfl)) rfl
set_option maxRecDepth 100000 in
theorem wd_1096 : (Jvm.Cond.selects "ReedOracles$Suspects" ({ cls := "ReedOracles$Suspects", name := "sureKey", desc := "()I" } : Jvm.MethodName) ({ cls := "ReedOracles$Suspects", name := "sureKey", desc := "()I" } : Jvm.MethodName)) ∈ zT := zT_mem (tb5 _ (List.mem_of_getElem? (l := tables_1_5) (i := 18) rfl)) rfl
set_option maxRecDepth 100000 in
theorem wd_1097 : (Jvm.Cond.code ({ cls := "ReedOracles$Suspects", name := "sureKey", desc := "()I" } : Jvm.MethodName) prog_9_method_6_code (2 : Nat) (Option.some Jvm.ClassFile.FieldType.int)) ∈ zT := zT_mem (tb5 _ (List.mem_of_getElem? (l := tables_1_5) (i := 19) rfl)) rfl
set_option maxRecDepth 100000 in
theorem wd_1098 : (Jvm.Cond.methodLink "ReedOracles" (229 : Nat) ({ cls := "ReedOracles$Suspects", name := "whose", desc := "(LReedOracles$Duchy;LReedOracles$Log;)I" } : Jvm.MethodName)) ∈ zT := zT_mem (tb5 _ (List.mem_of_getElem? (l := tables_1_5) (i := 20) rfl)) rfl
set_option maxRecDepth 100000 in
theorem wd_1099 : (Jvm.Cond.instanceMethod ({ cls := "ReedOracles$Suspects", name := "whose", desc := "(LReedOracles$Duchy;LReedOracles$Log;)I" } : Jvm.MethodName)) ∈ zT := zT_mem (tb5 _ (List.mem_of_getElem? (l := tables_1_5) (i := 21) rfl)) rfl
set_option maxRecDepth 100000 in
theorem wd_1100 : (Jvm.Cond.selects "ReedOracles$Suspects" ({ cls := "ReedOracles$Suspects", name := "whose", desc := "(LReedOracles$Duchy;LReedOracles$Log;)I" } : Jvm.MethodName) ({ cls := "ReedOracles$Suspects", name := "whose", desc := "(LReedOracles$Duchy;LReedOracles$Log;)I" } : Jvm.MethodName)) ∈ zT := zT_mem (tb5 _ (List.mem_of_getElem? (l := tables_1_5) (i := 22) rfl)) rfl
set_option maxRecDepth 100000 in
theorem wd_1101 : (Jvm.Cond.code ({ cls := "ReedOracles$Suspects", name := "whose", desc := "(LReedOracles$Duchy;LReedOracles$Log;)I" } : Jvm.MethodName) prog_9_method_7_code (5 : Nat) (Option.some Jvm.ClassFile.FieldType.int)) ∈ zT := zT_mem (tb5 _ (List.mem_of_getElem? (l := tables_1_5) (i := 23) rfl)) rfl
set_option maxRecDepth 100000 in
theorem wd_1102 : (Jvm.Cond.methodLink "ReedOracles" (234 : Nat) ({ cls := "ReedOracles$Suspects", name := "nextToAsk", desc := "(LReedOracles$Duchy;I)I" } : Jvm.MethodName)) ∈ zT := zT_mem (tb5 _ (List.mem_of_getElem? (l := tables_1_5) (i := 24) rfl)) rfl
set_option maxRecDepth 100000 in
theorem wd_1103 : (Jvm.Cond.instanceMethod ({ cls := "ReedOracles$Suspects", name := "nextToAsk", desc := "(LReedOracles$Duchy;I)I" } : Jvm.MethodName)) ∈ zT := zT_mem (tb5 _ (List.mem_of_getElem? (l := tables_1_5) (i := 25) rfl)) rfl
set_option maxRecDepth 100000 in
theorem wd_1104 : (Jvm.Cond.selects "ReedOracles$Suspects" ({ cls := "ReedOracles$Suspects", name := "nextToAsk", desc := "(LReedOracles$Duchy;I)I" } : Jvm.MethodName) ({ cls := "ReedOracles$Suspects", name := "nextToAsk", desc := "(LReedOracles$Duchy;I)I" } : Jvm.MethodName)) ∈ zT := zT_mem (tb5 _ (List.mem_of_getElem? (l := tables_1_5) (i := 26) rfl)) rfl
set_option maxRecDepth 100000 in
theorem wd_1105 : (Jvm.Cond.code ({ cls := "ReedOracles$Suspects", name := "nextToAsk", desc := "(LReedOracles$Duchy;I)I" } : Jvm.MethodName) prog_9_method_8_code (8 : Nat) (Option.some Jvm.ClassFile.FieldType.int)) ∈ zT := zT_mem (tb5 _ (List.mem_of_getElem? (l := tables_1_5) (i := 27) rfl)) rfl
set_option maxRecDepth 100000 in
theorem wd_1106 : (Jvm.Cond.methodLink "ReedOracles$Suspects" (66 : Nat) ({ cls := "ReedOracles$Suspects", name := "greatestHeap", desc := "(LReedOracles$Duchy;III)I" } : Jvm.MethodName)) ∈ zT := zT_mem (tb5 _ (List.mem_of_getElem? (l := tables_1_5) (i := 28) rfl)) rfl
set_option maxRecDepth 100000 in
theorem wd_1108 : (Jvm.Cond.instanceMethod ({ cls := "ReedOracles$Suspects", name := "greatestHeap", desc := "(LReedOracles$Duchy;III)I" } : Jvm.MethodName)) ∈ zT := zT_mem (tb5 _ (List.mem_of_getElem? (l := tables_1_5) (i := 30) rfl)) rfl
set_option maxRecDepth 100000 in
theorem wd_1109 : (Jvm.Cond.code ({ cls := "ReedOracles$Suspects", name := "greatestHeap", desc := "(LReedOracles$Duchy;III)I" } : Jvm.MethodName) prog_9_method_10_code (9 : Nat) (Option.some Jvm.ClassFile.FieldType.int)) ∈ zT := zT_mem (tb5 _ (List.mem_of_getElem? (l := tables_1_5) (i := 31) rfl)) rfl
set_option maxRecDepth 100000 in
theorem wd_1110 : (Jvm.Cond.methodLink "ReedOracles$Suspects" (70 : Nat) ({ cls := "java/util/Arrays", name := "fill", desc := "([II)V" } : Jvm.MethodName)) ∈ zT := zT_mem (tb5 _ (List.mem_of_getElem? (l := tables_1_5) (i := 32) rfl)) rfl
set_option maxRecDepth 100000 in
theorem wd_1111 : (Jvm.Cond.methodLink "ReedOracles$Suspects" (76 : Nat) ({ cls := "ReedOracles$Suspects", name := "nextNote", desc := "(LReedOracles$Duchy;IIII)I" } : Jvm.MethodName)) ∈ zT := zT_mem (tb5 _ (List.mem_of_getElem? (l := tables_1_5) (i := 33) rfl)) rfl
set_option maxRecDepth 100000 in
theorem wd_1113 : (Jvm.Cond.instanceMethod ({ cls := "ReedOracles$Suspects", name := "nextNote", desc := "(LReedOracles$Duchy;IIII)I" } : Jvm.MethodName)) ∈ zT := zT_mem (tb5 _ (List.mem_of_getElem? (l := tables_1_5) (i := 35) rfl)) rfl
set_option maxRecDepth 100000 in
theorem wd_1114 : (Jvm.Cond.code ({ cls := "ReedOracles$Suspects", name := "nextNote", desc := "(LReedOracles$Duchy;IIII)I" } : Jvm.MethodName) prog_9_method_9_code (7 : Nat) (Option.some Jvm.ClassFile.FieldType.int)) ∈ zT := zT_mem (tb5 _ (List.mem_of_getElem? (l := tables_1_5) (i := 36) rfl)) rfl
set_option maxRecDepth 100000 in
theorem wd_1115 : (Jvm.Cond.methodLink "ReedOracles$Suspects" (80 : Nat) ({ cls := "java/lang/Math", name := "max", desc := "(II)I" } : Jvm.MethodName)) ∈ zT := zT_mem (tb5 _ (List.mem_of_getElem? (l := tables_1_5) (i := 37) rfl)) rfl
set_option maxRecDepth 100000 in
theorem wd_1116 : (Jvm.Cond.methodLink "ReedOracles" (237 : Nat) ({ cls := "ReedOracles$Suspects", name := "suspectAt", desc := "(I)I" } : Jvm.MethodName)) ∈ zT := zT_mem (tb5 _ (List.mem_of_getElem? (l := tables_1_5) (i := 38) rfl)) rfl
set_option maxRecDepth 100000 in
theorem wd_1117 : (Jvm.Cond.instanceMethod ({ cls := "ReedOracles$Suspects", name := "suspectAt", desc := "(I)I" } : Jvm.MethodName)) ∈ zT := zT_mem (tb5 _ (List.mem_of_getElem? (l := tables_1_5) (i := 39) rfl)) rfl
set_option maxRecDepth 100000 in
theorem wd_1118 : (Jvm.Cond.selects "ReedOracles$Suspects" ({ cls := "ReedOracles$Suspects", name := "suspectAt", desc := "(I)I" } : Jvm.MethodName) ({ cls := "ReedOracles$Suspects", name := "suspectAt", desc := "(I)I" } : Jvm.MethodName)) ∈ zT := zT_mem (tb5 _ (List.mem_of_getElem? (l := tables_1_5) (i := 40) rfl)) rfl
set_option maxRecDepth 100000 in
theorem wd_1119 : (Jvm.Cond.code ({ cls := "ReedOracles$Suspects", name := "suspectAt", desc := "(I)I" } : Jvm.MethodName) prog_9_method_4_code (2 : Nat) (Option.some Jvm.ClassFile.FieldType.int)) ∈ zT := zT_mem (tb5 _ (List.mem_of_getElem? (l := tables_1_5) (i := 41) rfl)) rfl
set_option maxRecDepth 100000 in
theorem wd_1120 : (Jvm.Cond.methodLink "ReedOraclesLaw" (93 : Nat) ({ cls := "ReedOracles", name := "left", desc := "(IIIIZ)J" } : Jvm.MethodName)) ∈ zT := zT_mem (tb5 _ (List.mem_of_getElem? (l := tables_1_5) (i := 42) rfl)) rfl
set_option maxRecDepth 100000 in
theorem wd_1121 : (Jvm.Cond.instanceMethod ({ cls := "ReedOracles", name := "left", desc := "(IIIIZ)J" } : Jvm.MethodName)) ∈ zT := zT_mem (tb5 _ (List.mem_of_getElem? (l := tables_1_5) (i := 43) rfl)) rfl
set_option maxRecDepth 100000 in
theorem wd_1122 : (Jvm.Cond.selects "ReedOracles" ({ cls := "ReedOracles", name := "left", desc := "(IIIIZ)J" } : Jvm.MethodName) ({ cls := "ReedOracles", name := "left", desc := "(IIIIZ)J" } : Jvm.MethodName)) ∈ zT := zT_mem (tb5 _ (List.mem_of_getElem? (l := tables_1_5) (i := 44) rfl)) rfl
set_option maxRecDepth 100000 in
theorem wd_1123 : (Jvm.Cond.code ({ cls := "ReedOracles", name := "left", desc := "(IIIIZ)J" } : Jvm.MethodName) prog_1_method_20_code (13 : Nat) (Option.some Jvm.ClassFile.FieldType.long)) ∈ zT := zT_mem (tb5 _ (List.mem_of_getElem? (l := tables_1_5) (i := 45) rfl)) rfl
set_option maxRecDepth 100000 in
theorem wd_1124 : (Jvm.Cond.methodLink "ReedOracles" (240 : Nat) ({ cls := "ReedOracles", name := "within", desc := "(II)Z" } : Jvm.MethodName)) ∈ zT := zT_mem (tb5 _ (List.mem_of_getElem? (l := tables_1_5) (i := 46) rfl)) rfl
set_option maxRecDepth 100000 in
theorem wd_1125 : (Jvm.Cond.static ({ cls := "ReedOracles", name := "within", desc := "(II)Z" } : Jvm.MethodName)) ∈ zT := zT_mem (tb5 _ (List.mem_of_getElem? (l := tables_1_5) (i := 47) rfl)) rfl
set_option maxRecDepth 100000 in
theorem wd_1126 : (Jvm.Cond.code ({ cls := "ReedOracles", name := "within", desc := "(II)Z" } : Jvm.MethodName) prog_1_method_44_code (2 : Nat) (Option.some Jvm.ClassFile.FieldType.boolean)) ∈ zT := zT_mem (tb5 _ (List.mem_of_getElem? (l := tables_1_5) (i := 48) rfl)) rfl
set_option maxRecDepth 100000 in
theorem wd_1127 : (Jvm.Cond.constantLong "ReedOracles" (244 : Nat) (-1 : Int64)) ∈ zT := zT_mem (tb5 _ (List.mem_of_getElem? (l := tables_1_5) (i := 49) rfl)) rfl
set_option maxRecDepth 100000 in
theorem wd_1128 : (Jvm.Cond.constantLong "ReedOracles" (246 : Nat) (10 : Int64)) ∈ zT := zT_mem (tb5 _ (List.mem_of_getElem? (l := tables_1_5) (i := 50) rfl)) rfl
set_option maxRecDepth 100000 in
theorem wd_1129 : (Jvm.Cond.methodLink "ReedOracles" (248 : Nat) ({ cls := "ReedOracles", name := "power", desc := "(JI)J" } : Jvm.MethodName)) ∈ zT := zT_mem (tb5 _ (List.mem_of_getElem? (l := tables_1_5) (i := 51) rfl)) rfl
set_option maxRecDepth 100000 in
theorem wd_1130 : (Jvm.Cond.static ({ cls := "ReedOracles", name := "power", desc := "(JI)J" } : Jvm.MethodName)) ∈ zT := zT_mem (tb5 _ (List.mem_of_getElem? (l := tables_1_5) (i := 52) rfl)) rfl
set_option maxRecDepth 100000 in
theorem wd_1131 : (Jvm.Cond.code ({ cls := "ReedOracles", name := "power", desc := "(JI)J" } : Jvm.MethodName) prog_1_method_48_code (6 : Nat) (Option.some Jvm.ClassFile.FieldType.long)) ∈ zT := zT_mem (tb5 _ (List.mem_of_getElem? (l := tables_1_5) (i := 53) rfl)) rfl
set_option maxRecDepth 100000 in
theorem wd_1132 : (Jvm.Cond.methodLink "ReedOracles" (252 : Nat) ({ cls := "ReedOracles", name := "choose", desc := "(II)J" } : Jvm.MethodName)) ∈ zT := zT_mem (tb5 _ (List.mem_of_getElem? (l := tables_1_5) (i := 54) rfl)) rfl
set_option maxRecDepth 100000 in
theorem wd_1133 : (Jvm.Cond.static ({ cls := "ReedOracles", name := "choose", desc := "(II)J" } : Jvm.MethodName)) ∈ zT := zT_mem (tb5 _ (List.mem_of_getElem? (l := tables_1_5) (i := 55) rfl)) rfl
set_option maxRecDepth 100000 in
theorem wd_1134 : (Jvm.Cond.code ({ cls := "ReedOracles", name := "choose", desc := "(II)J" } : Jvm.MethodName) prog_1_method_49_code (5 : Nat) (Option.some Jvm.ClassFile.FieldType.long)) ∈ zT := zT_mem (tb5 _ (List.mem_of_getElem? (l := tables_1_5) (i := 56) rfl)) rfl
set_option maxRecDepth 100000 in
theorem wd_1135 : (Jvm.Cond.methodLink "ReedOracles" (256 : Nat) ({ cls := "ReedOracles", name := "leastTerm", desc := "(JJZ)J" } : Jvm.MethodName)) ∈ zT := zT_mem (tb5 _ (List.mem_of_getElem? (l := tables_1_5) (i := 57) rfl)) rfl
set_option maxRecDepth 100000 in
theorem wd_1136 : (Jvm.Cond.static ({ cls := "ReedOracles", name := "leastTerm", desc := "(JJZ)J" } : Jvm.MethodName)) ∈ zT := zT_mem (tb5 _ (List.mem_of_getElem? (l := tables_1_5) (i := 58) rfl)) rfl
set_option maxRecDepth 100000 in
theorem wd_1137 : (Jvm.Cond.code ({ cls := "ReedOracles", name := "leastTerm", desc := "(JJZ)J" } : Jvm.MethodName) prog_1_method_50_code (12 : Nat) (Option.some Jvm.ClassFile.FieldType.long)) ∈ zT := zT_mem (tb5 _ (List.mem_of_getElem? (l := tables_1_5) (i := 59) rfl)) rfl
set_option maxRecDepth 100000 in
theorem wd_1138 : (Jvm.Cond.methodLink "ReedOraclesLaw" (98 : Nat) ({ cls := "ReedOracles", name := "drawn", desc := "(IIII)I" } : Jvm.MethodName)) ∈ zT := zT_mem (tb5 _ (List.mem_of_getElem? (l := tables_1_5) (i := 60) rfl)) rfl
set_option maxRecDepth 100000 in
theorem wd_1139 : (Jvm.Cond.instanceMethod ({ cls := "ReedOracles", name := "drawn", desc := "(IIII)I" } : Jvm.MethodName)) ∈ zT := zT_mem (tb5 _ (List.mem_of_getElem? (l := tables_1_5) (i := 61) rfl)) rfl
set_option maxRecDepth 100000 in
theorem wd_1140 : (Jvm.Cond.selects "ReedOracles" ({ cls := "ReedOracles", name := "drawn", desc := "(IIII)I" } : Jvm.MethodName) ({ cls := "ReedOracles", name := "drawn", desc := "(IIII)I" } : Jvm.MethodName)) ∈ zT := zT_mem (tb5 _ (List.mem_of_getElem? (l := tables_1_5) (i := 62) rfl)) rfl
set_option maxRecDepth 100000 in
theorem wd_1141 : (Jvm.Cond.code ({ cls := "ReedOracles", name := "drawn", desc := "(IIII)I" } : Jvm.MethodName) prog_1_method_21_code (6 : Nat) (Option.some Jvm.ClassFile.FieldType.int)) ∈ zT := zT_mem (tb5 _ (List.mem_of_getElem? (l := tables_1_5) (i := 63) rfl)) rfl
set_option maxRecDepth 100000 in
theorem wd_1142 : (Jvm.Cond.methodLink "ReedOracles" (260 : Nat) ({ cls := "ReedOracles$Course", name := "draw", desc := "(LReedOracles$Duchy;II)V" } : Jvm.MethodName)) ∈ zT := zT_mem (tb5 _ (List.mem_of_getElem? (l := tables_1_5) (i := 64) rfl)) rfl
set_option maxRecDepth 100000 in
theorem wd_1143 : (Jvm.Cond.instanceMethod ({ cls := "ReedOracles$Course", name := "draw", desc := "(LReedOracles$Duchy;II)V" } : Jvm.MethodName)) ∈ zT := zT_mem (tb5 _ (List.mem_of_getElem? (l := tables_1_5) (i := 65) rfl)) rfl
set_option maxRecDepth 100000 in
theorem wd_1144 : (Jvm.Cond.selects "ReedOracles$Course" ({ cls := "ReedOracles$Course", name := "draw", desc := "(LReedOracles$Duchy;II)V" } : Jvm.MethodName) ({ cls := "ReedOracles$Course", name := "draw", desc := "(LReedOracles$Duchy;II)V" } : Jvm.MethodName)) ∈ zT := zT_mem (tb5 _ (List.mem_of_getElem? (l := tables_1_5) (i := 66) rfl)) rfl
set_option maxRecDepth 100000 in
theorem wd_1145 : (Jvm.Cond.code ({ cls := "ReedOracles$Course", name := "draw", desc := "(LReedOracles$Duchy;II)V" } : Jvm.MethodName) prog_3_method_14_code (5 : Nat) (Option.none : Option Jvm.ClassFile.FieldType)) ∈ zT := zT_mem (tb5 _ (List.mem_of_getElem? (l := tables_1_5) (i := 67) rfl)) rfl
set_option maxRecDepth 100000 in
theorem wd_1146 : (Jvm.Cond.methodLink "ReedOracles$Course" (160 : Nat) ({ cls := "ReedOracles$Course", name := "drawDeed", desc := "(LReedOracles$Duchy;)V" } : Jvm.MethodName)) ∈ zT := zT_mem (tb5 _ (List.mem_of_getElem? (l := tables_1_5) (i := 68) rfl)) rfl
set_option maxRecDepth 100000 in
theorem wd_1148 : (Jvm.Cond.instanceMethod ({ cls := "ReedOracles$Course", name := "drawDeed", desc := "(LReedOracles$Duchy;)V" } : Jvm.MethodName)) ∈ zT := zT_mem (tb5 _ (List.mem_of_getElem? (l := tables_1_5) (i := 70) rfl)) rfl
set_option maxRecDepth 100000 in
theorem wd_1149 : (Jvm.Cond.code ({ cls := "ReedOracles$Course", name := "drawDeed", desc := "(LReedOracles$Duchy;)V" } : Jvm.MethodName) prog_3_method_15_code (5 : Nat) (Option.none : Option Jvm.ClassFile.FieldType)) ∈ zT := zT_mem (tb5 _ (List.mem_of_getElem? (l := tables_1_5) (i := 71) rfl)) rfl
set_option maxRecDepth 100000 in
theorem wd_1150 : (Jvm.Cond.methodLink "ReedOracles$Course" (163 : Nat) ({ cls := "ReedOracles$Course", name := "below", desc := "(I)I" } : Jvm.MethodName)) ∈ zT := zT_mem (tb5 _ (List.mem_of_getElem? (l := tables_1_5) (i := 72) rfl)) rfl
set_option maxRecDepth 100000 in
theorem wd_1152 : (Jvm.Cond.instanceMethod ({ cls := "ReedOracles$Course", name := "below", desc := "(I)I" } : Jvm.MethodName)) ∈ zT := zT_mem (tb5 _ (List.mem_of_getElem? (l := tables_1_5) (i := 74) rfl)) rfl
set_option maxRecDepth 100000 in
theorem wd_1153 : (Jvm.Cond.code ({ cls := "ReedOracles$Course", name := "below", desc := "(I)I" } : Jvm.MethodName) prog_3_method_16_code (2 : Nat) (Option.some Jvm.ClassFile.FieldType.int)) ∈ zT := zT_mem (tb5 _ (List.mem_of_getElem? (l := tables_1_5) (i := 75) rfl)) rfl
set_option maxRecDepth 100000 in
theorem wd_1154 : (Jvm.Cond.constant "ReedOracles$Course" (172 : Nat) (1103515245 : Int32)) ∈ zT := zT_mem (tb5 _ (List.mem_of_getElem? (l := tables_1_5) (i := 76) rfl)) rfl
set_option maxRecDepth 100000 in
theorem wd_1155 : (Jvm.Cond.methodLink "ReedOraclesLaw" (102 : Nat) ({ cls := "ReedOracles", name := "chant", desc := "(IIIII)I" } : Jvm.MethodName)) ∈ zT := zT_mem (tb5 _ (List.mem_of_getElem? (l := tables_1_5) (i := 77) rfl)) rfl
set_option maxRecDepth 100000 in
theorem wd_1156 : (Jvm.Cond.instanceMethod ({ cls := "ReedOracles", name := "chant", desc := "(IIIII)I" } : Jvm.MethodName)) ∈ zT := zT_mem (tb5 _ (List.mem_of_getElem? (l := tables_1_5) (i := 78) rfl)) rfl
set_option maxRecDepth 100000 in
theorem wd_1157 : (Jvm.Cond.selects "ReedOracles" ({ cls := "ReedOracles", name := "chant", desc := "(IIIII)I" } : Jvm.MethodName) ({ cls := "ReedOracles", name := "chant", desc := "(IIIII)I" } : Jvm.MethodName)) ∈ zT := zT_mem (tb5 _ (List.mem_of_getElem? (l := tables_1_5) (i := 79) rfl)) rfl
set_option maxRecDepth 100000 in
theorem wd_1158 : (Jvm.Cond.code ({ cls := "ReedOracles", name := "chant", desc := "(IIIII)I" } : Jvm.MethodName) prog_1_method_22_code (7 : Nat) (Option.some Jvm.ClassFile.FieldType.int)) ∈ zT := zT_mem (tb5 _ (List.mem_of_getElem? (l := tables_1_5) (i := 80) rfl)) rfl
set_option maxRecDepth 100000 in
theorem wd_1159 : (Jvm.Cond.methodLink "ReedOracles" (263 : Nat) ({ cls := "ReedOracles$Duchy", name := "noteDried", desc := "(IIII)I" } : Jvm.MethodName)) ∈ zT := zT_mem (tb5 _ (List.mem_of_getElem? (l := tables_1_5) (i := 81) rfl)) rfl
set_option maxRecDepth 100000 in
theorem wd_1160 : (Jvm.Cond.methodLink "ReedOraclesLaw" (106 : Nat) ({ cls := "ReedOracles", name := "ripe", desc := "(IIIII)I" } : Jvm.MethodName)) ∈ zT := zT_mem (tb5 _ (List.mem_of_getElem? (l := tables_1_5) (i := 82) rfl)) rfl
set_option maxRecDepth 100000 in
theorem wd_1161 : (Jvm.Cond.instanceMethod ({ cls := "ReedOracles", name := "ripe", desc := "(IIIII)I" } : Jvm.MethodName)) ∈ zT := zT_mem (tb5 _ (List.mem_of_getElem? (l := tables_1_5) (i := 83) rfl)) rfl
set_option maxRecDepth 100000 in
theorem wd_1162 : (Jvm.Cond.selects "ReedOracles" ({ cls := "ReedOracles", name := "ripe", desc := "(IIIII)I" } : Jvm.MethodName) ({ cls := "ReedOracles", name := "ripe", desc := "(IIIII)I" } : Jvm.MethodName)) ∈ zT := zT_mem (tb5 _ (List.mem_of_getElem? (l := tables_1_5) (i := 84) rfl)) rfl
set_option maxRecDepth 100000 in
theorem wd_1163 : (Jvm.Cond.code ({ cls := "ReedOracles", name := "ripe", desc := "(IIIII)I" } : Jvm.MethodName) prog_1_method_23_code (7 : Nat) (Option.some Jvm.ClassFile.FieldType.int)) ∈ zT := zT_mem (tb5 _ (List.mem_of_getElem? (l := tables_1_5) (i := 85) rfl)) rfl
set_option maxRecDepth 100000 in
theorem wd_1164 : (Jvm.Cond.methodLink "ReedOracles" (267 : Nat) ({ cls := "ReedOracles$Survey", name := "nightsTill", desc := "(LReedOracles$Duchy;IIII)I" } : Jvm.MethodName)) ∈ zT := zT_mem (tb5 _ (List.mem_of_getElem? (l := tables_1_5) (i := 86) rfl)) rfl
set_option maxRecDepth 100000 in
theorem wd_1165 : (Jvm.Cond.instanceMethod ({ cls := "ReedOracles$Survey", name := "nightsTill", desc := "(LReedOracles$Duchy;IIII)I" } : Jvm.MethodName)) ∈ zT := zT_mem (tb5 _ (List.mem_of_getElem? (l := tables_1_5) (i := 87) rfl)) rfl
set_option maxRecDepth 100000 in
theorem wd_1166 : (Jvm.Cond.selects "ReedOracles$Survey" ({ cls := "ReedOracles$Survey", name := "nightsTill", desc := "(LReedOracles$Duchy;IIII)I" } : Jvm.MethodName) ({ cls := "ReedOracles$Survey", name := "nightsTill", desc := "(LReedOracles$Duchy;IIII)I" } : Jvm.MethodName)) ∈ zT := zT_mem (tb5 _ (List.mem_of_getElem? (l := tables_1_5) (i := 88) rfl)) rfl
set_option maxRecDepth 100000 in
theorem wd_1167 : (Jvm.Cond.code ({ cls := "ReedOracles$Survey", name := "nightsTill", desc := "(LReedOracles$Duchy;IIII)I" } : Jvm.MethodName) prog_8_method_7_code (7 : Nat) (Option.some Jvm.ClassFile.FieldType.int)) ∈ zT := zT_mem (tb5 _ (List.mem_of_getElem? (l := tables_1_5) (i := 89) rfl)) rfl
set_option maxRecDepth 100000 in
theorem wd_1168 : (Jvm.Cond.methodLink "ReedOracles$Survey" (61 : Nat) ({ cls := "ReedOracles$Duchy", name := "noteDried", desc := "(IIII)I" } : Jvm.MethodName)) ∈ zT := zT_mem (tb5 _ (List.mem_of_getElem? (l := tables_1_5) (i := 90) rfl)) rfl
set_option maxRecDepth 100000 in
theorem wd_1169 : (Jvm.Cond.methodLink "ReedOraclesLaw" (110 : Nat) ({ cls := "ReedOracles", name := "deepest", desc := "(III)I" } : Jvm.MethodName)) ∈ zT := zT_mem (tb5 _ (List.mem_of_getElem? (l := tables_1_5) (i := 91) rfl)) rfl
set_option maxRecDepth 100000 in
theorem wd_1170 : (Jvm.Cond.instanceMethod ({ cls := "ReedOracles", name := "deepest", desc := "(III)I" } : Jvm.MethodName)) ∈ zT := zT_mem (tb5 _ (List.mem_of_getElem? (l := tables_1_5) (i := 92) rfl)) rfl
set_option maxRecDepth 100000 in
theorem wd_1171 : (Jvm.Cond.selects "ReedOracles" ({ cls := "ReedOracles", name := "deepest", desc := "(III)I" } : Jvm.MethodName) ({ cls := "ReedOracles", name := "deepest", desc := "(III)I" } : Jvm.MethodName)) ∈ zT := zT_mem (tb5 _ (List.mem_of_getElem? (l := tables_1_5) (i := 93) rfl)) rfl
set_option maxRecDepth 100000 in
theorem wd_1172 : (Jvm.Cond.code ({ cls := "ReedOracles", name := "deepest", desc := "(III)I" } : Jvm.MethodName) prog_1_method_24_code (5 : Nat) (Option.some Jvm.ClassFile.FieldType.int)) ∈ zT := zT_mem (tb5 _ (List.mem_of_getElem? (l := tables_1_5) (i := 94) rfl)) rfl
set_option maxRecDepth 100000 in
theorem wd_1173 : (Jvm.Cond.methodLink "ReedOracles" (270 : Nat) ({ cls := "ReedOracles$Survey", name := "deepestHeard", desc := "(LReedOracles$Duchy;II)I" } : Jvm.MethodName)) ∈ zT := zT_mem (tb5 _ (List.mem_of_getElem? (l := tables_1_5) (i := 95) rfl)) rfl
set_option maxRecDepth 100000 in
theorem wd_1174 : (Jvm.Cond.instanceMethod ({ cls := "ReedOracles$Survey", name := "deepestHeard", desc := "(LReedOracles$Duchy;II)I" } : Jvm.MethodName)) ∈ zT := zT_mem (tb5 _ (List.mem_of_getElem? (l := tables_1_5) (i := 96) rfl)) rfl
set_option maxRecDepth 100000 in
theorem wd_1175 : (Jvm.Cond.selects "ReedOracles$Survey" ({ cls := "ReedOracles$Survey", name := "deepestHeard", desc := "(LReedOracles$Duchy;II)I" } : Jvm.MethodName) ({ cls := "ReedOracles$Survey", name := "deepestHeard", desc := "(LReedOracles$Duchy;II)I" } : Jvm.MethodName)) ∈ zT := zT_mem (tb5 _ (List.mem_of_getElem? (l := tables_1_5) (i := 97) rfl)) rfl
set_option maxRecDepth 100000 in
theorem wd_1176 : (Jvm.Cond.code ({ cls := "ReedOracles$Survey", name := "deepestHeard", desc := "(LReedOracles$Duchy;II)I" } : Jvm.MethodName) prog_8_method_8_code (7 : Nat) (Option.some Jvm.ClassFile.FieldType.int)) ∈ zT := zT_mem (tb5 _ (List.mem_of_getElem? (l := tables_1_5) (i := 98) rfl)) rfl
set_option maxRecDepth 100000 in
theorem wd_1177 : (Jvm.Cond.methodLink "ReedOracles$Survey" (65 : Nat) ({ cls := "ReedOracles$Duchy", name := "coughs", desc := "(III)Z" } : Jvm.MethodName)) ∈ zT := zT_mem (tb5 _ (List.mem_of_getElem? (l := tables_1_5) (i := 99) rfl)) rfl
set_option maxRecDepth 100000 in
theorem wd_1178 : (Jvm.Cond.methodLink "ReedOraclesLaw" (114 : Nat) ({ cls := "ReedOracles", name := "program", desc := "(IIII)I" } : Jvm.MethodName)) ∈ zT := zT_mem (tb5 _ (List.mem_of_getElem? (l := tables_1_5) (i := 100) rfl)) rfl
set_option maxRecDepth 100000 in
theorem wd_1179 : (Jvm.Cond.instanceMethod ({ cls := "ReedOracles", name := "program", desc := "(IIII)I" } : Jvm.MethodName)) ∈ zT := zT_mem (tb5 _ (List.mem_of_getElem? (l := tables_1_5) (i := 101) rfl)) rfl
set_option maxRecDepth 100000 in
theorem wd_1180 : (Jvm.Cond.selects "ReedOracles" ({ cls := "ReedOracles", name := "program", desc := "(IIII)I" } : Jvm.MethodName) ({ cls := "ReedOracles", name := "program", desc := "(IIII)I" } : Jvm.MethodName)) ∈ zT := zT_mem (tb5 _ (List.mem_of_getElem? (l := tables_1_5) (i := 102) rfl)) rfl
set_option maxRecDepth 100000 in
theorem wd_1181 : (Jvm.Cond.code ({ cls := "ReedOracles", name := "program", desc := "(IIII)I" } : Jvm.MethodName) prog_1_method_25_code (6 : Nat) (Option.some Jvm.ClassFile.FieldType.int)) ∈ zT := zT_mem (tb5 _ (List.mem_of_getElem? (l := tables_1_5) (i := 103) rfl)) rfl
set_option maxRecDepth 100000 in
theorem wd_1182 : (Jvm.Cond.methodLink "ReedOracles" (273 : Nat) ({ cls := "ReedOracles$Plans", name := "compose", desc := "(LReedOracles$Duchy;II)V" } : Jvm.MethodName)) ∈ zT := zT_mem (tb5 _ (List.mem_of_getElem? (l := tables_1_5) (i := 104) rfl)) rfl
set_option maxRecDepth 100000 in
theorem wd_1183 : (Jvm.Cond.instanceMethod ({ cls := "ReedOracles$Plans", name := "compose", desc := "(LReedOracles$Duchy;II)V" } : Jvm.MethodName)) ∈ zT := zT_mem (tb5 _ (List.mem_of_getElem? (l := tables_1_5) (i := 105) rfl)) rfl
set_option maxRecDepth 100000 in
theorem wd_1184 : (Jvm.Cond.selects "ReedOracles$Plans" ({ cls := "ReedOracles$Plans", name := "compose", desc := "(LReedOracles$Duchy;II)V" } : Jvm.MethodName) ({ cls := "ReedOracles$Plans", name := "compose", desc := "(LReedOracles$Duchy;II)V" } : Jvm.MethodName)) ∈ zT := zT_mem (tb5 _ (List.mem_of_getElem? (l := tables_1_5) (i := 106) rfl)) rfl
set_option maxRecDepth 100000 in
theorem wd_1185 : (Jvm.Cond.code ({ cls := "ReedOracles$Plans", name := "compose", desc := "(LReedOracles$Duchy;II)V" } : Jvm.MethodName) prog_6_method_14_code (8 : Nat) (Option.none : Option Jvm.ClassFile.FieldType)) ∈ zT := zT_mem (tb5 _ (List.mem_of_getElem? (l := tables_1_5) (i := 107) rfl)) rfl
set_option maxRecDepth 100000 in
theorem wd_1186 : (Jvm.Cond.methodLink "ReedOracles$Plans" (74 : Nat) ({ cls := "ReedOracles$Plans", name := "programWorth", desc := "(II)I" } : Jvm.MethodName)) ∈ zT := zT_mem (tb5 _ (List.mem_of_getElem? (l := tables_1_5) (i := 108) rfl)) rfl
set_option maxRecDepth 100000 in
theorem wd_1188 : (Jvm.Cond.instanceMethod ({ cls := "ReedOracles$Plans", name := "programWorth", desc := "(II)I" } : Jvm.MethodName)) ∈ zT := zT_mem (tb5 _ (List.mem_of_getElem? (l := tables_1_5) (i := 110) rfl)) rfl
set_option maxRecDepth 100000 in
theorem wd_1189 : (Jvm.Cond.code ({ cls := "ReedOracles$Plans", name := "programWorth", desc := "(II)I" } : Jvm.MethodName) prog_6_method_15_code (3 : Nat) (Option.some Jvm.ClassFile.FieldType.int)) ∈ zT := zT_mem (tb5 _ (List.mem_of_getElem? (l := tables_1_5) (i := 111) rfl)) rfl
set_option maxRecDepth 100000 in
theorem wd_1190 : (Jvm.Cond.methodLink "ReedOracles" (276 : Nat) ({ cls := "ReedOracles$Plans", name := "longest", desc := "()I" } : Jvm.MethodName)) ∈ zT := zT_mem (tb5 _ (List.mem_of_getElem? (l := tables_1_5) (i := 112) rfl)) rfl
set_option maxRecDepth 100000 in
theorem wd_1191 : (Jvm.Cond.instanceMethod ({ cls := "ReedOracles$Plans", name := "longest", desc := "()I" } : Jvm.MethodName)) ∈ zT := zT_mem (tb5 _ (List.mem_of_getElem? (l := tables_1_5) (i := 113) rfl)) rfl
set_option maxRecDepth 100000 in
theorem wd_1192 : (Jvm.Cond.selects "ReedOracles$Plans" ({ cls := "ReedOracles$Plans", name := "longest", desc := "()I" } : Jvm.MethodName) ({ cls := "ReedOracles$Plans", name := "longest", desc := "()I" } : Jvm.MethodName)) ∈ zT := zT_mem (tb5 _ (List.mem_of_getElem? (l := tables_1_5) (i := 114) rfl)) rfl
set_option maxRecDepth 100000 in
theorem wd_1193 : (Jvm.Cond.code ({ cls := "ReedOracles$Plans", name := "longest", desc := "()I" } : Jvm.MethodName) prog_6_method_16_code (1 : Nat) (Option.some Jvm.ClassFile.FieldType.int)) ∈ zT := zT_mem (tb5 _ (List.mem_of_getElem? (l := tables_1_5) (i := 115) rfl)) rfl
set_option maxRecDepth 100000 in
theorem wd_1194 : (Jvm.Cond.methodLink "ReedOracles" (279 : Nat) ({ cls := "ReedOracles$Plans", name := "programAt", desc := "(LReedOracles$Duchy;I)I" } : Jvm.MethodName)) ∈ zT := zT_mem (tb5 _ (List.mem_of_getElem? (l := tables_1_5) (i := 116) rfl)) rfl
set_option maxRecDepth 100000 in
theorem wd_1195 : (Jvm.Cond.instanceMethod ({ cls := "ReedOracles$Plans", name := "programAt", desc := "(LReedOracles$Duchy;I)I" } : Jvm.MethodName)) ∈ zT := zT_mem (tb5 _ (List.mem_of_getElem? (l := tables_1_5) (i := 117) rfl)) rfl
set_option maxRecDepth 100000 in
theorem wd_1196 : (Jvm.Cond.selects "ReedOracles$Plans" ({ cls := "ReedOracles$Plans", name := "programAt", desc := "(LReedOracles$Duchy;I)I" } : Jvm.MethodName) ({ cls := "ReedOracles$Plans", name := "programAt", desc := "(LReedOracles$Duchy;I)I" } : Jvm.MethodName)) ∈ zT := zT_mem (tb5 _ (List.mem_of_getElem? (l := tables_1_5) (i := 118) rfl)) rfl
set_option maxRecDepth 100000 in
theorem wd_1197 : (Jvm.Cond.code ({ cls := "ReedOracles$Plans", name := "programAt", desc := "(LReedOracles$Duchy;I)I" } : Jvm.MethodName) prog_6_method_17_code (6 : Nat) (Option.some Jvm.ClassFile.FieldType.int)) ∈ zT := zT_mem (tb5 _ (List.mem_of_getElem? (l := tables_1_5) (i := 119) rfl)) rfl
set_option maxRecDepth 100000 in
theorem wd_1198 : (Jvm.Cond.methodLink "ReedOracles$Plans" (77 : Nat) ({ cls := "ReedOracles$Plans", name := "firstProgram", desc := "(LReedOracles$Duchy;I)I" } : Jvm.MethodName)) ∈ zT := zT_mem (tb5 _ (List.mem_of_getElem? (l := tables_1_5) (i := 120) rfl)) rfl
set_option maxRecDepth 100000 in
theorem wd_1200 : (Jvm.Cond.instanceMethod ({ cls := "ReedOracles$Plans", name := "firstProgram", desc := "(LReedOracles$Duchy;I)I" } : Jvm.MethodName)) ∈ zT := zT_mem (tb5 _ (List.mem_of_getElem? (l := tables_1_5) (i := 122) rfl)) rfl
set_option maxRecDepth 100000 in
theorem wd_1201 : (Jvm.Cond.code ({ cls := "ReedOracles$Plans", name := "firstProgram", desc := "(LReedOracles$Duchy;I)I" } : Jvm.MethodName) prog_6_method_18_code (4 : Nat) (Option.some Jvm.ClassFile.FieldType.int)) ∈ zT := zT_mem (tb5 _ (List.mem_of_getElem? (l := tables_1_5) (i := 123) rfl)) rfl
set_option maxRecDepth 100000 in
theorem wd_1202 : (Jvm.Cond.methodLink "ReedOraclesLaw" (118 : Nat) ({ cls := "ReedOracles", name := "edit", desc := "(IIII)I" } : Jvm.MethodName)) ∈ zT := zT_mem (tb5 _ (List.mem_of_getElem? (l := tables_1_5) (i := 124) rfl)) rfl
set_option maxRecDepth 100000 in
theorem wd_1203 : (Jvm.Cond.instanceMethod ({ cls := "ReedOracles", name := "edit", desc := "(IIII)I" } : Jvm.MethodName)) ∈ zT := zT_mem (tb5 _ (List.mem_of_getElem? (l := tables_1_5) (i := 125) rfl)) rfl
set_option maxRecDepth 100000 in
theorem wd_1204 : (Jvm.Cond.selects "ReedOracles" ({ cls := "ReedOracles", name := "edit", desc := "(IIII)I" } : Jvm.MethodName) ({ cls := "ReedOracles", name := "edit", desc := "(IIII)I" } : Jvm.MethodName)) ∈ zT := zT_mem (tb5 _ (List.mem_of_getElem? (l := tables_1_5) (i := 126) rfl)) rfl
set_option maxRecDepth 100000 in
theorem wd_1205 : (Jvm.Cond.code ({ cls := "ReedOracles", name := "edit", desc := "(IIII)I" } : Jvm.MethodName) prog_1_method_26_code (6 : Nat) (Option.some Jvm.ClassFile.FieldType.int)) ∈ zT := zT_mem (tb5 _ (List.mem_of_getElem? (l := tables_1_5) (i := 127) rfl)) rfl
set_option maxRecDepth 100000 in
theorem wd_1206 : (Jvm.Cond.methodLink "ReedOracles" (282 : Nat) ({ cls := "ReedOracles$Survey", name := "changedNotes", desc := "(LReedOracles$Duchy;III)I" } : Jvm.MethodName)) ∈ zT := zT_mem (tb5 _ (List.mem_of_getElem? (l := tables_1_5) (i := 128) rfl)) rfl
set_option maxRecDepth 100000 in
theorem wd_1207 : (Jvm.Cond.instanceMethod ({ cls := "ReedOracles$Survey", name := "changedNotes", desc := "(LReedOracles$Duchy;III)I" } : Jvm.MethodName)) ∈ zT := zT_mem (tb5 _ (List.mem_of_getElem? (l := tables_1_5) (i := 129) rfl)) rfl
set_option maxRecDepth 100000 in
theorem wd_1208 : (Jvm.Cond.selects "ReedOracles$Survey" ({ cls := "ReedOracles$Survey", name := "changedNotes", desc := "(LReedOracles$Duchy;III)I" } : Jvm.MethodName) ({ cls := "ReedOracles$Survey", name := "changedNotes", desc := "(LReedOracles$Duchy;III)I" } : Jvm.MethodName)) ∈ zT := zT_mem (tb5 _ (List.mem_of_getElem? (l := tables_1_5) (i := 130) rfl)) rfl
set_option maxRecDepth 100000 in
theorem wd_1209 : (Jvm.Cond.code ({ cls := "ReedOracles$Survey", name := "changedNotes", desc := "(LReedOracles$Duchy;III)I" } : Jvm.MethodName) prog_8_method_9_code (8 : Nat) (Option.some Jvm.ClassFile.FieldType.int)) ∈ zT := zT_mem (tb5 _ (List.mem_of_getElem? (l := tables_1_5) (i := 131) rfl)) rfl
set_option maxRecDepth 100000 in
theorem wd_1210 : (Jvm.Cond.methodLink "ReedOracles$Survey" (72 : Nat) ({ cls := "ReedOracles$Duchy", name := "noteOf", desc := "(III)I" } : Jvm.MethodName)) ∈ zT := zT_mem (tb5 _ (List.mem_of_getElem? (l := tables_1_5) (i := 132) rfl)) rfl
set_option maxRecDepth 100000 in
theorem wd_1211 : (Jvm.Cond.methodLink "ReedOracles$Survey" (75 : Nat) ({ cls := "java/lang/Integer", name := "bitCount", desc := "(I)I" } : Jvm.MethodName)) ∈ zT := zT_mem (tb5 _ (List.mem_of_getElem? (l := tables_1_5) (i := 133) rfl)) rfl
set_option maxRecDepth 100000 in
theorem wd_1212 : (Jvm.Cond.methodLink "ReedOraclesLaw" (122 : Nat) ({ cls := "ReedOracles", name := "choir", desc := "(IIZ)I" } : Jvm.MethodName)) ∈ zT := zT_mem (tb5 _ (List.mem_of_getElem? (l := tables_1_5) (i := 134) rfl)) rfl
set_option maxRecDepth 100000 in
theorem wd_1213 : (Jvm.Cond.instanceMethod ({ cls := "ReedOracles", name := "choir", desc := "(IIZ)I" } : Jvm.MethodName)) ∈ zT := zT_mem (tb5 _ (List.mem_of_getElem? (l := tables_1_5) (i := 135) rfl)) rfl
set_option maxRecDepth 100000 in
theorem wd_1214 : (Jvm.Cond.selects "ReedOracles" ({ cls := "ReedOracles", name := "choir", desc := "(IIZ)I" } : Jvm.MethodName) ({ cls := "ReedOracles", name := "choir", desc := "(IIZ)I" } : Jvm.MethodName)) ∈ zT := zT_mem (tb5 _ (List.mem_of_getElem? (l := tables_1_5) (i := 136) rfl)) rfl
set_option maxRecDepth 100000 in
theorem wd_1215 : (Jvm.Cond.code ({ cls := "ReedOracles", name := "choir", desc := "(IIZ)I" } : Jvm.MethodName) prog_1_method_27_code (6 : Nat) (Option.some Jvm.ClassFile.FieldType.int)) ∈ zT := zT_mem (tb5 _ (List.mem_of_getElem? (l := tables_1_5) (i := 137) rfl)) rfl
set_option maxRecDepth 100000 in
theorem wd_1216 : (Jvm.Cond.methodLink "ReedOracles" (286 : Nat) ({ cls := "ReedOracles$Survey", name := "leastChoir", desc := "(LReedOracles$Duchy;I)I" } : Jvm.MethodName)) ∈ zT := zT_mem (tb5 _ (List.mem_of_getElem? (l := tables_1_5) (i := 138) rfl)) rfl
set_option maxRecDepth 100000 in
theorem wd_1217 : (Jvm.Cond.instanceMethod ({ cls := "ReedOracles$Survey", name := "leastChoir", desc := "(LReedOracles$Duchy;I)I" } : Jvm.MethodName)) ∈ zT := zT_mem (tb5 _ (List.mem_of_getElem? (l := tables_1_5) (i := 139) rfl)) rfl
set_option maxRecDepth 100000 in
theorem wd_1218 : (Jvm.Cond.selects "ReedOracles$Survey" ({ cls := "ReedOracles$Survey", name := "leastChoir", desc := "(LReedOracles$Duchy;I)I" } : Jvm.MethodName) ({ cls := "ReedOracles$Survey", name := "leastChoir", desc := "(LReedOracles$Duchy;I)I" } : Jvm.MethodName)) ∈ zT := zT_mem (tb5 _ (List.mem_of_getElem? (l := tables_1_5) (i := 140) rfl)) rfl
set_option maxRecDepth 100000 in
theorem wd_1219 : (Jvm.Cond.code ({ cls := "ReedOracles$Survey", name := "leastChoir", desc := "(LReedOracles$Duchy;I)I" } : Jvm.MethodName) prog_8_method_10_code (7 : Nat) (Option.some Jvm.ClassFile.FieldType.int)) ∈ zT := zT_mem (tb5 _ (List.mem_of_getElem? (l := tables_1_5) (i := 141) rfl)) rfl
set_option maxRecDepth 100000 in
theorem wd_1220 : (Jvm.Cond.methodLink "ReedOracles$Survey" (80 : Nat) ({ cls := "ReedOracles$Survey", name := "heardQuestions", desc := "(LReedOracles$Duchy;II)I" } : Jvm.MethodName)) ∈ zT := zT_mem (tb5 _ (List.mem_of_getElem? (l := tables_1_5) (i := 142) rfl)) rfl
set_option maxRecDepth 100000 in
theorem wd_1222 : (Jvm.Cond.instanceMethod ({ cls := "ReedOracles$Survey", name := "heardQuestions", desc := "(LReedOracles$Duchy;II)I" } : Jvm.MethodName)) ∈ zT := zT_mem (tb5 _ (List.mem_of_getElem? (l := tables_1_5) (i := 144) rfl)) rfl
set_option maxRecDepth 100000 in
theorem wd_1223 : (Jvm.Cond.code ({ cls := "ReedOracles$Survey", name := "heardQuestions", desc := "(LReedOracles$Duchy;II)I" } : Jvm.MethodName) prog_8_method_11_code (6 : Nat) (Option.some Jvm.ClassFile.FieldType.int)) ∈ zT := zT_mem (tb5 _ (List.mem_of_getElem? (l := tables_1_5) (i := 145) rfl)) rfl
set_option maxRecDepth 100000 in
theorem wd_1224 : (Jvm.Cond.methodLink "ReedOracles$Survey" (84 : Nat) ({ cls := "ReedOracles$Survey", name := "unionOf", desc := "(LReedOracles$Duchy;I)I" } : Jvm.MethodName)) ∈ zT := zT_mem (tb5 _ (List.mem_of_getElem? (l := tables_1_5) (i := 146) rfl)) rfl
set_option maxRecDepth 100000 in
theorem wd_1226 : (Jvm.Cond.instanceMethod ({ cls := "ReedOracles$Survey", name := "unionOf", desc := "(LReedOracles$Duchy;I)I" } : Jvm.MethodName)) ∈ zT := zT_mem (tb5 _ (List.mem_of_getElem? (l := tables_1_5) (i := 148) rfl)) rfl
set_option maxRecDepth 100000 in
theorem wd_1227 : (Jvm.Cond.code ({ cls := "ReedOracles$Survey", name := "unionOf", desc := "(LReedOracles$Duchy;I)I" } : Jvm.MethodName) prog_8_method_12_code (5 : Nat) (Option.some Jvm.ClassFile.FieldType.int)) ∈ zT := zT_mem (tb5 _ (List.mem_of_getElem? (l := tables_1_5) (i := 149) rfl)) rfl
set_option maxRecDepth 100000 in
theorem wd_1228 : (Jvm.Cond.methodLink "ReedOracles" (289 : Nat) ({ cls := "java/lang/Integer", name := "bitCount", desc := "(I)I" } : Jvm.MethodName)) ∈ zT := zT_mem (tb5 _ (List.mem_of_getElem? (l := tables_1_5) (i := 150) rfl)) rfl
set_option maxRecDepth 100000 in
theorem wd_1229 : (Jvm.Cond.methodLink "ReedOraclesLaw" (127 : Nat) ({ cls := "ReedOracles", name := "peace", desc := "(IIZ)I" } : Jvm.MethodName)) ∈ zT := zT_mem (tb5 _ (List.mem_of_getElem? (l := tables_1_5) (i := 151) rfl)) rfl
set_option maxRecDepth 100000 in
theorem wd_1230 : (Jvm.Cond.instanceMethod ({ cls := "ReedOracles", name := "peace", desc := "(IIZ)I" } : Jvm.MethodName)) ∈ zT := zT_mem (tb5 _ (List.mem_of_getElem? (l := tables_1_5) (i := 152) rfl)) rfl
set_option maxRecDepth 100000 in
theorem wd_1231 : (Jvm.Cond.selects "ReedOracles" ({ cls := "ReedOracles", name := "peace", desc := "(IIZ)I" } : Jvm.MethodName) ({ cls := "ReedOracles", name := "peace", desc := "(IIZ)I" } : Jvm.MethodName)) ∈ zT := zT_mem (tb5 _ (List.mem_of_getElem? (l := tables_1_5) (i := 153) rfl)) rfl
set_option maxRecDepth 100000 in
theorem wd_1232 : (Jvm.Cond.code ({ cls := "ReedOracles", name := "peace", desc := "(IIZ)I" } : Jvm.MethodName) prog_1_method_28_code (6 : Nat) (Option.some Jvm.ClassFile.FieldType.int)) ∈ zT := zT_mem (tb5 _ (List.mem_of_getElem? (l := tables_1_5) (i := 154) rfl)) rfl
set_option maxRecDepth 100000 in
theorem wd_1233 : (Jvm.Cond.methodLink "ReedOracles" (294 : Nat) ({ cls := "ReedOracles$Survey", name := "mostPeaceful", desc := "(LReedOracles$Duchy;I)I" } : Jvm.MethodName)) ∈ zT := zT_mem (tb5 _ (List.mem_of_getElem? (l := tables_1_5) (i := 155) rfl)) rfl
set_option maxRecDepth 100000 in
theorem wd_1234 : (Jvm.Cond.instanceMethod ({ cls := "ReedOracles$Survey", name := "mostPeaceful", desc := "(LReedOracles$Duchy;I)I" } : Jvm.MethodName)) ∈ zT := zT_mem (tb5 _ (List.mem_of_getElem? (l := tables_1_5) (i := 156) rfl)) rfl
set_option maxRecDepth 100000 in
theorem wd_1235 : (Jvm.Cond.selects "ReedOracles$Survey" ({ cls := "ReedOracles$Survey", name := "mostPeaceful", desc := "(LReedOracles$Duchy;I)I" } : Jvm.MethodName) ({ cls := "ReedOracles$Survey", name := "mostPeaceful", desc := "(LReedOracles$Duchy;I)I" } : Jvm.MethodName)) ∈ zT := zT_mem (tb5 _ (List.mem_of_getElem? (l := tables_1_5) (i := 157) rfl)) rfl
set_option maxRecDepth 100000 in
theorem wd_1236 : (Jvm.Cond.code ({ cls := "ReedOracles$Survey", name := "mostPeaceful", desc := "(LReedOracles$Duchy;I)I" } : Jvm.MethodName) prog_8_method_13_code (6 : Nat) (Option.some Jvm.ClassFile.FieldType.int)) ∈ zT := zT_mem (tb5 _ (List.mem_of_getElem? (l := tables_1_5) (i := 158) rfl)) rfl
set_option maxRecDepth 100000 in
theorem wd_1237 : (Jvm.Cond.methodLink "ReedOracles$Survey" (88 : Nat) ({ cls := "ReedOracles$Survey", name := "foes", desc := "(LReedOracles$Duchy;II)I" } : Jvm.MethodName)) ∈ zT := zT_mem (tb5 _ (List.mem_of_getElem? (l := tables_1_5) (i := 159) rfl)) rfl
set_option maxRecDepth 100000 in
theorem wd_1239 : (Jvm.Cond.instanceMethod ({ cls := "ReedOracles$Survey", name := "foes", desc := "(LReedOracles$Duchy;II)I" } : Jvm.MethodName)) ∈ zT := zT_mem (tb5 _ (List.mem_of_getElem? (l := tables_1_5) (i := 161) rfl)) rfl
set_option maxRecDepth 100000 in
theorem wd_1240 : (Jvm.Cond.code ({ cls := "ReedOracles$Survey", name := "foes", desc := "(LReedOracles$Duchy;II)I" } : Jvm.MethodName) prog_8_method_14_code (8 : Nat) (Option.some Jvm.ClassFile.FieldType.int)) ∈ zT := zT_mem (tb5 _ (List.mem_of_getElem? (l := tables_1_5) (i := 162) rfl)) rfl
set_option maxRecDepth 100000 in
theorem wd_1242 : (Jvm.Cond.methodLink "ReedOraclesLaw" (131 : Nat) ({ cls := "ReedOracles", name := "marched", desc := "(II)I" } : Jvm.MethodName)) ∈ zT := zT_mem (tb5 _ (List.mem_of_getElem? (l := tables_1_5) (i := 164) rfl)) rfl
set_option maxRecDepth 100000 in
theorem wd_1243 : (Jvm.Cond.instanceMethod ({ cls := "ReedOracles", name := "marched", desc := "(II)I" } : Jvm.MethodName)) ∈ zT := zT_mem (tb5 _ (List.mem_of_getElem? (l := tables_1_5) (i := 165) rfl)) rfl
set_option maxRecDepth 100000 in
theorem wd_1244 : (Jvm.Cond.selects "ReedOracles" ({ cls := "ReedOracles", name := "marched", desc := "(II)I" } : Jvm.MethodName) ({ cls := "ReedOracles", name := "marched", desc := "(II)I" } : Jvm.MethodName)) ∈ zT := zT_mem (tb5 _ (List.mem_of_getElem? (l := tables_1_5) (i := 166) rfl)) rfl
set_option maxRecDepth 100000 in
theorem wd_1245 : (Jvm.Cond.code ({ cls := "ReedOracles", name := "marched", desc := "(II)I" } : Jvm.MethodName) prog_1_method_29_code (4 : Nat) (Option.some Jvm.ClassFile.FieldType.int)) ∈ zT := zT_mem (tb5 _ (List.mem_of_getElem? (l := tables_1_5) (i := 167) rfl)) rfl
set_option maxRecDepth 100000 in
theorem wd_1246 : (Jvm.Cond.methodLink "ReedOracles" (297 : Nat) ({ cls := "ReedOracles$Survey", name := "marches", desc := "(LReedOracles$Duchy;I)I" } : Jvm.MethodName)) ∈ zT := zT_mem (tb5 _ (List.mem_of_getElem? (l := tables_1_5) (i := 168) rfl)) rfl
set_option maxRecDepth 100000 in
theorem wd_1247 : (Jvm.Cond.instanceMethod ({ cls := "ReedOracles$Survey", name := "marches", desc := "(LReedOracles$Duchy;I)I" } : Jvm.MethodName)) ∈ zT := zT_mem (tb5 _ (List.mem_of_getElem? (l := tables_1_5) (i := 169) rfl)) rfl
set_option maxRecDepth 100000 in
theorem wd_1248 : (Jvm.Cond.selects "ReedOracles$Survey" ({ cls := "ReedOracles$Survey", name := "marches", desc := "(LReedOracles$Duchy;I)I" } : Jvm.MethodName) ({ cls := "ReedOracles$Survey", name := "marches", desc := "(LReedOracles$Duchy;I)I" } : Jvm.MethodName)) ∈ zT := zT_mem (tb5 _ (List.mem_of_getElem? (l := tables_1_5) (i := 170) rfl)) rfl
set_option maxRecDepth 100000 in
theorem wd_1249 : (Jvm.Cond.code ({ cls := "ReedOracles$Survey", name := "marches", desc := "(LReedOracles$Duchy;I)I" } : Jvm.MethodName) prog_8_method_15_code (7 : Nat) (Option.some Jvm.ClassFile.FieldType.int)) ∈ zT := zT_mem (tb5 _ (List.mem_of_getElem? (l := tables_1_5) (i := 171) rfl)) rfl
set_option maxRecDepth 100000 in
theorem wd_1250 : (Jvm.Cond.methodLink "ReedOracles$Survey" (95 : Nat) ({ cls := "ReedOracles$Survey", name := "partners", desc := "(LReedOracles$Duchy;IIII)I" } : Jvm.MethodName)) ∈ zT := zT_mem (tb5 _ (List.mem_of_getElem? (l := tables_1_5) (i := 172) rfl)) rfl
set_option maxRecDepth 100000 in
theorem wd_1252 : (Jvm.Cond.instanceMethod ({ cls := "ReedOracles$Survey", name := "partners", desc := "(LReedOracles$Duchy;IIII)I" } : Jvm.MethodName)) ∈ zT := zT_mem (tb5 _ (List.mem_of_getElem? (l := tables_1_5) (i := 174) rfl)) rfl
set_option maxRecDepth 100000 in
theorem wd_1253 : (Jvm.Cond.code ({ cls := "ReedOracles$Survey", name := "partners", desc := "(LReedOracles$Duchy;IIII)I" } : Jvm.MethodName) prog_8_method_16_code (9 : Nat) (Option.some Jvm.ClassFile.FieldType.int)) ∈ zT := zT_mem (tb5 _ (List.mem_of_getElem? (l := tables_1_5) (i := 175) rfl)) rfl
set_option maxRecDepth 100000 in
theorem wd_1254 : (Jvm.Cond.methodLink "ReedOraclesLaw" (135 : Nat) ({ cls := "ReedOracles", name := "chords", desc := "(III)I" } : Jvm.MethodName)) ∈ zT := zT_mem (tb5 _ (List.mem_of_getElem? (l := tables_1_5) (i := 176) rfl)) rfl
set_option maxRecDepth 100000 in
theorem wd_1255 : (Jvm.Cond.instanceMethod ({ cls := "ReedOracles", name := "chords", desc := "(III)I" } : Jvm.MethodName)) ∈ zT := zT_mem (tb5 _ (List.mem_of_getElem? (l := tables_1_5) (i := 177) rfl)) rfl
set_option maxRecDepth 100000 in
theorem wd_1256 : (Jvm.Cond.selects "ReedOracles" ({ cls := "ReedOracles", name := "chords", desc := "(III)I" } : Jvm.MethodName) ({ cls := "ReedOracles", name := "chords", desc := "(III)I" } : Jvm.MethodName)) ∈ zT := zT_mem (tb5 _ (List.mem_of_getElem? (l := tables_1_5) (i := 178) rfl)) rfl
set_option maxRecDepth 100000 in
theorem wd_1257 : (Jvm.Cond.code ({ cls := "ReedOracles", name := "chords", desc := "(III)I" } : Jvm.MethodName) prog_1_method_30_code (5 : Nat) (Option.some Jvm.ClassFile.FieldType.int)) ∈ zT := zT_mem (tb5 _ (List.mem_of_getElem? (l := tables_1_5) (i := 179) rfl)) rfl
set_option maxRecDepth 100000 in
theorem wd_1258 : (Jvm.Cond.methodLink "ReedOracles" (300 : Nat) ({ cls := "ReedOracles$Survey", name := "triads", desc := "(LReedOracles$Duchy;II)I" } : Jvm.MethodName)) ∈ zT := zT_mem (tb5 _ (List.mem_of_getElem? (l := tables_1_5) (i := 180) rfl)) rfl
set_option maxRecDepth 100000 in
theorem wd_1259 : (Jvm.Cond.instanceMethod ({ cls := "ReedOracles$Survey", name := "triads", desc := "(LReedOracles$Duchy;II)I" } : Jvm.MethodName)) ∈ zT := zT_mem (tb5 _ (List.mem_of_getElem? (l := tables_1_5) (i := 181) rfl)) rfl
set_option maxRecDepth 100000 in
theorem wd_1260 : (Jvm.Cond.selects "ReedOracles$Survey" ({ cls := "ReedOracles$Survey", name := "triads", desc := "(LReedOracles$Duchy;II)I" } : Jvm.MethodName) ({ cls := "ReedOracles$Survey", name := "triads", desc := "(LReedOracles$Duchy;II)I" } : Jvm.MethodName)) ∈ zT := zT_mem (tb5 _ (List.mem_of_getElem? (l := tables_1_5) (i := 182) rfl)) rfl
set_option maxRecDepth 100000 in
theorem wd_1261 : (Jvm.Cond.code ({ cls := "ReedOracles$Survey", name := "triads", desc := "(LReedOracles$Duchy;II)I" } : Jvm.MethodName) prog_8_method_17_code (6 : Nat) (Option.some Jvm.ClassFile.FieldType.int)) ∈ zT := zT_mem (tb5 _ (List.mem_of_getElem? (l := tables_1_5) (i := 183) rfl)) rfl
set_option maxRecDepth 100000 in
theorem wd_1262 : (Jvm.Cond.methodLink "ReedOraclesLaw" (139 : Nat) ({ cls := "ReedOracles", name := "twins", desc := "(II)I" } : Jvm.MethodName)) ∈ zT := zT_mem (tb5 _ (List.mem_of_getElem? (l := tables_1_5) (i := 184) rfl)) rfl
set_option maxRecDepth 100000 in
theorem wd_1263 : (Jvm.Cond.instanceMethod ({ cls := "ReedOracles", name := "twins", desc := "(II)I" } : Jvm.MethodName)) ∈ zT := zT_mem (tb5 _ (List.mem_of_getElem? (l := tables_1_5) (i := 185) rfl)) rfl
set_option maxRecDepth 100000 in
theorem wd_1264 : (Jvm.Cond.selects "ReedOracles" ({ cls := "ReedOracles", name := "twins", desc := "(II)I" } : Jvm.MethodName) ({ cls := "ReedOracles", name := "twins", desc := "(II)I" } : Jvm.MethodName)) ∈ zT := zT_mem (tb5 _ (List.mem_of_getElem? (l := tables_1_5) (i := 186) rfl)) rfl
set_option maxRecDepth 100000 in
theorem wd_1265 : (Jvm.Cond.code ({ cls := "ReedOracles", name := "twins", desc := "(II)I" } : Jvm.MethodName) prog_1_method_31_code (5 : Nat) (Option.some Jvm.ClassFile.FieldType.int)) ∈ zT := zT_mem (tb5 _ (List.mem_of_getElem? (l := tables_1_5) (i := 187) rfl)) rfl
set_option maxRecDepth 100000 in
theorem wd_1266 : (Jvm.Cond.methodLink "ReedOracles" (303 : Nat) ({ cls := "ReedOracles$Survey", name := "twinCouples", desc := "(LReedOracles$Duchy;)I" } : Jvm.MethodName)) ∈ zT := zT_mem (tb5 _ (List.mem_of_getElem? (l := tables_1_5) (i := 188) rfl)) rfl
set_option maxRecDepth 100000 in
theorem wd_1267 : (Jvm.Cond.instanceMethod ({ cls := "ReedOracles$Survey", name := "twinCouples", desc := "(LReedOracles$Duchy;)I" } : Jvm.MethodName)) ∈ zT := zT_mem (tb5 _ (List.mem_of_getElem? (l := tables_1_5) (i := 189) rfl)) rfl
set_option maxRecDepth 100000 in
theorem wd_1268 : (Jvm.Cond.selects "ReedOracles$Survey" ({ cls := "ReedOracles$Survey", name := "twinCouples", desc := "(LReedOracles$Duchy;)I" } : Jvm.MethodName) ({ cls := "ReedOracles$Survey", name := "twinCouples", desc := "(LReedOracles$Duchy;)I" } : Jvm.MethodName)) ∈ zT := zT_mem (tb5 _ (List.mem_of_getElem? (l := tables_1_5) (i := 190) rfl)) rfl
set_option maxRecDepth 100000 in
theorem wd_1269 : (Jvm.Cond.code ({ cls := "ReedOracles$Survey", name := "twinCouples", desc := "(LReedOracles$Duchy;)I" } : Jvm.MethodName) prog_8_method_18_code (5 : Nat) (Option.some Jvm.ClassFile.FieldType.int)) ∈ zT := zT_mem (tb5 _ (List.mem_of_getElem? (l := tables_1_5) (i := 191) rfl)) rfl
set_option maxRecDepth 100000 in
theorem wd_1270 : (Jvm.Cond.methodLink "ReedOracles$Survey" (99 : Nat) ({ cls := "ReedOracles$Survey", name := "areTwins", desc := "(LReedOracles$Duchy;II)Z" } : Jvm.MethodName)) ∈ zT := zT_mem (tb5 _ (List.mem_of_getElem? (l := tables_1_5) (i := 192) rfl)) rfl
set_option maxRecDepth 100000 in
theorem wd_1271 : (Jvm.Cond.static ({ cls := "ReedOracles$Survey", name := "areTwins", desc := "(LReedOracles$Duchy;II)Z" } : Jvm.MethodName)) ∈ zT := zT_mem (tb5 _ (List.mem_of_getElem? (l := tables_1_5) (i := 193) rfl)) rfl
set_option maxRecDepth 100000 in
theorem wd_1272 : (Jvm.Cond.code ({ cls := "ReedOracles$Survey", name := "areTwins", desc := "(LReedOracles$Duchy;II)Z" } : Jvm.MethodName) prog_8_method_19_code (5 : Nat) (Option.some Jvm.ClassFile.FieldType.boolean)) ∈ zT := zT_mem (tb5 _ (List.mem_of_getElem? (l := tables_1_5) (i := 194) rfl)) rfl
set_option maxRecDepth 100000 in
theorem wd_1273 : (Jvm.Cond.methodLink "ReedOracles" (306 : Nat) ({ cls := "ReedOracles$Survey", name := "bestKey", desc := "(LReedOracles$Duchy;)I" } : Jvm.MethodName)) ∈ zT := zT_mem (tb5 _ (List.mem_of_getElem? (l := tables_1_5) (i := 195) rfl)) rfl
set_option maxRecDepth 100000 in
theorem wd_1274 : (Jvm.Cond.instanceMethod ({ cls := "ReedOracles$Survey", name := "bestKey", desc := "(LReedOracles$Duchy;)I" } : Jvm.MethodName)) ∈ zT := zT_mem (tb5 _ (List.mem_of_getElem? (l := tables_1_5) (i := 196) rfl)) rfl
set_option maxRecDepth 100000 in
theorem wd_1275 : (Jvm.Cond.selects "ReedOracles$Survey" ({ cls := "ReedOracles$Survey", name := "bestKey", desc := "(LReedOracles$Duchy;)I" } : Jvm.MethodName) ({ cls := "ReedOracles$Survey", name := "bestKey", desc := "(LReedOracles$Duchy;)I" } : Jvm.MethodName)) ∈ zT := zT_mem (tb5 _ (List.mem_of_getElem? (l := tables_1_5) (i := 197) rfl)) rfl
set_option maxRecDepth 100000 in
theorem wd_1276 : (Jvm.Cond.code ({ cls := "ReedOracles$Survey", name := "bestKey", desc := "(LReedOracles$Duchy;)I" } : Jvm.MethodName) prog_8_method_21_code (4 : Nat) (Option.some Jvm.ClassFile.FieldType.int)) ∈ zT := zT_mem (tb5 _ (List.mem_of_getElem? (l := tables_1_5) (i := 198) rfl)) rfl
set_option maxRecDepth 100000 in
theorem wd_1277 : (Jvm.Cond.methodLink "ReedOracles$Survey" (103 : Nat) ({ cls := "ReedOracles$Survey", name := "cutsTo", desc := "(LReedOracles$Duchy;I)I" } : Jvm.MethodName)) ∈ zT := zT_mem (tb5 _ (List.mem_of_getElem? (l := tables_1_5) (i := 199) rfl)) rfl
set_option maxRecDepth 100000 in
theorem wd_1278 : (Jvm.Cond.instanceMethod ({ cls := "ReedOracles$Survey", name := "cutsTo", desc := "(LReedOracles$Duchy;I)I" } : Jvm.MethodName)) ∈ zT := zT_mem (tb5 _ (List.mem_of_getElem? (l := tables_1_5) (i := 200) rfl)) rfl
set_option maxRecDepth 100000 in
theorem wd_1279 : (Jvm.Cond.selects "ReedOracles$Survey" ({ cls := "ReedOracles$Survey", name := "cutsTo", desc := "(LReedOracles$Duchy;I)I" } : Jvm.MethodName) ({ cls := "ReedOracles$Survey", name := "cutsTo", desc := "(LReedOracles$Duchy;I)I" } : Jvm.MethodName)) ∈ zT := zT_mem (tb5 _ (List.mem_of_getElem? (l := tables_1_5) (i := 201) rfl)) rfl
set_option maxRecDepth 100000 in
theorem wd_1280 : (Jvm.Cond.code ({ cls := "ReedOracles$Survey", name := "cutsTo", desc := "(LReedOracles$Duchy;I)I" } : Jvm.MethodName) prog_8_method_20_code (5 : Nat) (Option.some Jvm.ClassFile.FieldType.int)) ∈ zT := zT_mem (tb5 _ (List.mem_of_getElem? (l := tables_1_5) (i := 202) rfl)) rfl
set_option maxRecDepth 100000 in
theorem wd_1281 : (Jvm.Cond.methodLink "ReedOracles" (309 : Nat) ({ cls := "ReedOracles$Survey", name := "cutsTo", desc := "(LReedOracles$Duchy;I)I" } : Jvm.MethodName)) ∈ zT := zT_mem (tb5 _ (List.mem_of_getElem? (l := tables_1_5) (i := 203) rfl)) rfl
set_option maxRecDepth 100000 in
theorem wd_1282 : (Jvm.Cond.methodLink "ReedOraclesLaw" (143 : Nat) ({ cls := "ReedOracles", name := "fairest", desc := "(IIZ)I" } : Jvm.MethodName)) ∈ zT := zT_mem (tb5 _ (List.mem_of_getElem? (l := tables_1_5) (i := 204) rfl)) rfl
set_option maxRecDepth 100000 in
theorem wd_1283 : (Jvm.Cond.instanceMethod ({ cls := "ReedOracles", name := "fairest", desc := "(IIZ)I" } : Jvm.MethodName)) ∈ zT := zT_mem (tb5 _ (List.mem_of_getElem? (l := tables_1_5) (i := 205) rfl)) rfl
set_option maxRecDepth 100000 in
theorem wd_1284 : (Jvm.Cond.selects "ReedOracles" ({ cls := "ReedOracles", name := "fairest", desc := "(IIZ)I" } : Jvm.MethodName) ({ cls := "ReedOracles", name := "fairest", desc := "(IIZ)I" } : Jvm.MethodName)) ∈ zT := zT_mem (tb5 _ (List.mem_of_getElem? (l := tables_1_5) (i := 206) rfl)) rfl
set_option maxRecDepth 100000 in
theorem wd_1285 : (Jvm.Cond.code ({ cls := "ReedOracles", name := "fairest", desc := "(IIZ)I" } : Jvm.MethodName) prog_1_method_32_code (6 : Nat) (Option.some Jvm.ClassFile.FieldType.int)) ∈ zT := zT_mem (tb5 _ (List.mem_of_getElem? (l := tables_1_5) (i := 207) rfl)) rfl
set_option maxRecDepth 100000 in
theorem wd_1286 : (Jvm.Cond.methodLink "ReedOracles" (312 : Nat) ({ cls := "ReedOracles$Survey", name := "fairestCold", desc := "(LReedOracles$Duchy;I)I" } : Jvm.MethodName)) ∈ zT := zT_mem (tb5 _ (List.mem_of_getElem? (l := tables_1_5) (i := 208) rfl)) rfl
set_option maxRecDepth 100000 in
theorem wd_1287 : (Jvm.Cond.instanceMethod ({ cls := "ReedOracles$Survey", name := "fairestCold", desc := "(LReedOracles$Duchy;I)I" } : Jvm.MethodName)) ∈ zT := zT_mem (tb5 _ (List.mem_of_getElem? (l := tables_1_5) (i := 209) rfl)) rfl
set_option maxRecDepth 100000 in
theorem wd_1288 : (Jvm.Cond.selects "ReedOracles$Survey" ({ cls := "ReedOracles$Survey", name := "fairestCold", desc := "(LReedOracles$Duchy;I)I" } : Jvm.MethodName) ({ cls := "ReedOracles$Survey", name := "fairestCold", desc := "(LReedOracles$Duchy;I)I" } : Jvm.MethodName)) ∈ zT := zT_mem (tb5 _ (List.mem_of_getElem? (l := tables_1_5) (i := 210) rfl)) rfl
set_option maxRecDepth 100000 in
theorem wd_1289 : (Jvm.Cond.code ({ cls := "ReedOracles$Survey", name := "fairestCold", desc := "(LReedOracles$Duchy;I)I" } : Jvm.MethodName) prog_8_method_23_code (5 : Nat) (Option.some Jvm.ClassFile.FieldType.int)) ∈ zT := zT_mem (tb5 _ (List.mem_of_getElem? (l := tables_1_5) (i := 211) rfl)) rfl
set_option maxRecDepth 100000 in
theorem wd_1290 : (Jvm.Cond.methodLink "ReedOracles$Survey" (109 : Nat) ({ cls := "ReedOracles$Survey", name := "answersIn", desc := "(LReedOracles$Duchy;II)I" } : Jvm.MethodName)) ∈ zT := zT_mem (tb5 _ (List.mem_of_getElem? (l := tables_1_5) (i := 212) rfl)) rfl
set_option maxRecDepth 100000 in
theorem wd_1291 : (Jvm.Cond.instanceMethod ({ cls := "ReedOracles$Survey", name := "answersIn", desc := "(LReedOracles$Duchy;II)I" } : Jvm.MethodName)) ∈ zT := zT_mem (tb5 _ (List.mem_of_getElem? (l := tables_1_5) (i := 213) rfl)) rfl
set_option maxRecDepth 100000 in
theorem wd_1292 : (Jvm.Cond.selects "ReedOracles$Survey" ({ cls := "ReedOracles$Survey", name := "answersIn", desc := "(LReedOracles$Duchy;II)I" } : Jvm.MethodName) ({ cls := "ReedOracles$Survey", name := "answersIn", desc := "(LReedOracles$Duchy;II)I" } : Jvm.MethodName)) ∈ zT := zT_mem (tb5 _ (List.mem_of_getElem? (l := tables_1_5) (i := 214) rfl)) rfl
set_option maxRecDepth 100000 in
theorem wd_1293 : (Jvm.Cond.code ({ cls := "ReedOracles$Survey", name := "answersIn", desc := "(LReedOracles$Duchy;II)I" } : Jvm.MethodName) prog_8_method_22_code (6 : Nat) (Option.some Jvm.ClassFile.FieldType.int)) ∈ zT := zT_mem (tb5 _ (List.mem_of_getElem? (l := tables_1_5) (i := 215) rfl)) rfl
set_option maxRecDepth 100000 in
theorem wd_1294 : (Jvm.Cond.methodLink "ReedOracles" (315 : Nat) ({ cls := "ReedOracles$Survey", name := "answersIn", desc := "(LReedOracles$Duchy;II)I" } : Jvm.MethodName)) ∈ zT := zT_mem (tb5 _ (List.mem_of_getElem? (l := tables_1_5) (i := 216) rfl)) rfl
set_option maxRecDepth 100000 in
theorem wd_1295 : (Jvm.Cond.methodLink "ReedOraclesLaw" (147 : Nat) ({ cls := "ReedOracles", name := "after", desc := "(III)I" } : Jvm.MethodName)) ∈ zT := zT_mem (tb5 _ (List.mem_of_getElem? (l := tables_1_5) (i := 217) rfl)) rfl
set_option maxRecDepth 100000 in
theorem wd_1296 : (Jvm.Cond.instanceMethod ({ cls := "ReedOracles", name := "after", desc := "(III)I" } : Jvm.MethodName)) ∈ zT := zT_mem (tb5 _ (List.mem_of_getElem? (l := tables_1_5) (i := 218) rfl)) rfl
set_option maxRecDepth 100000 in
theorem wd_1297 : (Jvm.Cond.selects "ReedOracles" ({ cls := "ReedOracles", name := "after", desc := "(III)I" } : Jvm.MethodName) ({ cls := "ReedOracles", name := "after", desc := "(III)I" } : Jvm.MethodName)) ∈ zT := zT_mem (tb5 _ (List.mem_of_getElem? (l := tables_1_5) (i := 219) rfl)) rfl
set_option maxRecDepth 100000 in
theorem wd_1298 : (Jvm.Cond.code ({ cls := "ReedOracles", name := "after", desc := "(III)I" } : Jvm.MethodName) prog_1_method_33_code (6 : Nat) (Option.some Jvm.ClassFile.FieldType.int)) ∈ zT := zT_mem (tb5 _ (List.mem_of_getElem? (l := tables_1_5) (i := 220) rfl)) rfl
set_option maxRecDepth 100000 in
theorem wd_1299 : (Jvm.Cond.methodLink "ReedOracles" (321 : Nat) ({ cls := "ReedOracles$Course", name := "famous", desc := "()I" } : Jvm.MethodName)) ∈ zT := zT_mem (tb5 _ (List.mem_of_getElem? (l := tables_1_5) (i := 221) rfl)) rfl
set_option maxRecDepth 100000 in
theorem wd_1300 : (Jvm.Cond.instanceMethod ({ cls := "ReedOracles$Course", name := "famous", desc := "()I" } : Jvm.MethodName)) ∈ zT := zT_mem (tb5 _ (List.mem_of_getElem? (l := tables_1_5) (i := 222) rfl)) rfl
set_option maxRecDepth 100000 in
theorem wd_1301 : (Jvm.Cond.selects "ReedOracles$Course" ({ cls := "ReedOracles$Course", name := "famous", desc := "()I" } : Jvm.MethodName) ({ cls := "ReedOracles$Course", name := "famous", desc := "()I" } : Jvm.MethodName)) ∈ zT := zT_mem (tb5 _ (List.mem_of_getElem? (l := tables_1_5) (i := 223) rfl)) rfl
set_option maxRecDepth 100000 in
theorem wd_1302 : (Jvm.Cond.code ({ cls := "ReedOracles$Course", name := "famous", desc := "()I" } : Jvm.MethodName) prog_3_method_19_code (1 : Nat) (Option.some Jvm.ClassFile.FieldType.int)) ∈ zT := zT_mem (tb5 _ (List.mem_of_getElem? (l := tables_1_5) (i := 224) rfl)) rfl
set_option maxRecDepth 100000 in
theorem wd_1303 : (Jvm.Cond.methodLink "ReedOracles$Course" (176 : Nat) ({ cls := "ReedOracles$Course", name := "firstGreatest", desc := "([I)I" } : Jvm.MethodName)) ∈ zT := zT_mem (tb5 _ (List.mem_of_getElem? (l := tables_1_5) (i := 225) rfl)) rfl
set_option maxRecDepth 100000 in
theorem wd_1304 : (Jvm.Cond.static ({ cls := "ReedOracles$Course", name := "firstGreatest", desc := "([I)I" } : Jvm.MethodName)) ∈ zT := zT_mem (tb5 _ (List.mem_of_getElem? (l := tables_1_5) (i := 226) rfl)) rfl
set_option maxRecDepth 100000 in
theorem wd_1305 : (Jvm.Cond.code ({ cls := "ReedOracles$Course", name := "firstGreatest", desc := "([I)I" } : Jvm.MethodName) prog_3_method_21_code (4 : Nat) (Option.some Jvm.ClassFile.FieldType.int)) ∈ zT := zT_mem (tb5 _ (List.mem_of_getElem? (l := tables_1_5) (i := 227) rfl)) rfl
set_option maxRecDepth 100000 in
theorem wd_1306 : (Jvm.Cond.methodLink "ReedOracles" (324 : Nat) ({ cls := "ReedOracles$Course", name := "hoarse", desc := "()I" } : Jvm.MethodName)) ∈ zT := zT_mem (tb5 _ (List.mem_of_getElem? (l := tables_1_5) (i := 228) rfl)) rfl
set_option maxRecDepth 100000 in
theorem wd_1307 : (Jvm.Cond.instanceMethod ({ cls := "ReedOracles$Course", name := "hoarse", desc := "()I" } : Jvm.MethodName)) ∈ zT := zT_mem (tb5 _ (List.mem_of_getElem? (l := tables_1_5) (i := 229) rfl)) rfl
set_option maxRecDepth 100000 in
theorem wd_1308 : (Jvm.Cond.selects "ReedOracles$Course" ({ cls := "ReedOracles$Course", name := "hoarse", desc := "()I" } : Jvm.MethodName) ({ cls := "ReedOracles$Course", name := "hoarse", desc := "()I" } : Jvm.MethodName)) ∈ zT := zT_mem (tb5 _ (List.mem_of_getElem? (l := tables_1_5) (i := 230) rfl)) rfl
set_option maxRecDepth 100000 in
theorem wd_1309 : (Jvm.Cond.code ({ cls := "ReedOracles$Course", name := "hoarse", desc := "()I" } : Jvm.MethodName) prog_3_method_20_code (1 : Nat) (Option.some Jvm.ClassFile.FieldType.int)) ∈ zT := zT_mem (tb5 _ (List.mem_of_getElem? (l := tables_1_5) (i := 231) rfl)) rfl
set_option maxRecDepth 100000 in
theorem wd_1310 : (Jvm.Cond.methodLink "ReedOracles" (327 : Nat) ({ cls := "ReedOracles$Course", name := "driest", desc := "(LReedOracles$Duchy;)I" } : Jvm.MethodName)) ∈ zT := zT_mem (tb5 _ (List.mem_of_getElem? (l := tables_1_5) (i := 232) rfl)) rfl
set_option maxRecDepth 100000 in
theorem wd_1311 : (Jvm.Cond.instanceMethod ({ cls := "ReedOracles$Course", name := "driest", desc := "(LReedOracles$Duchy;)I" } : Jvm.MethodName)) ∈ zT := zT_mem (tb5 _ (List.mem_of_getElem? (l := tables_1_5) (i := 233) rfl)) rfl
set_option maxRecDepth 100000 in
theorem wd_1312 : (Jvm.Cond.selects "ReedOracles$Course" ({ cls := "ReedOracles$Course", name := "driest", desc := "(LReedOracles$Duchy;)I" } : Jvm.MethodName) ({ cls := "ReedOracles$Course", name := "driest", desc := "(LReedOracles$Duchy;)I" } : Jvm.MethodName)) ∈ zT := zT_mem (tb5 _ (List.mem_of_getElem? (l := tables_1_5) (i := 234) rfl)) rfl
set_option maxRecDepth 100000 in
theorem wd_1313 : (Jvm.Cond.code ({ cls := "ReedOracles$Course", name := "driest", desc := "(LReedOracles$Duchy;)I" } : Jvm.MethodName) prog_3_method_22_code (4 : Nat) (Option.some Jvm.ClassFile.FieldType.int)) ∈ zT := zT_mem (tb5 _ (List.mem_of_getElem? (l := tables_1_5) (i := 235) rfl)) rfl
set_option maxRecDepth 100000 in
theorem wd_1314 : (Jvm.Cond.methodLink "ReedOraclesLaw" (151 : Nat) ({ cls := "ReedOracles", name := "odds", desc := "(IIIIIZ)J" } : Jvm.MethodName)) ∈ zT := zT_mem (tb5 _ (List.mem_of_getElem? (l := tables_1_5) (i := 236) rfl)) rfl
set_option maxRecDepth 100000 in
theorem wd_1315 : (Jvm.Cond.instanceMethod ({ cls := "ReedOracles", name := "odds", desc := "(IIIIIZ)J" } : Jvm.MethodName)) ∈ zT := zT_mem (tb5 _ (List.mem_of_getElem? (l := tables_1_5) (i := 237) rfl)) rfl
set_option maxRecDepth 100000 in
theorem wd_1316 : (Jvm.Cond.selects "ReedOracles" ({ cls := "ReedOracles", name := "odds", desc := "(IIIIIZ)J" } : Jvm.MethodName) ({ cls := "ReedOracles", name := "odds", desc := "(IIIIIZ)J" } : Jvm.MethodName)) ∈ zT := zT_mem (tb5 _ (List.mem_of_getElem? (l := tables_1_5) (i := 238) rfl)) rfl
set_option maxRecDepth 100000 in
theorem wd_1317 : (Jvm.Cond.code ({ cls := "ReedOracles", name := "odds", desc := "(IIIIIZ)J" } : Jvm.MethodName) prog_1_method_34_code (10 : Nat) (Option.some Jvm.ClassFile.FieldType.long)) ∈ zT := zT_mem (tb5 _ (List.mem_of_getElem? (l := tables_1_5) (i := 239) rfl)) rfl
set_option maxRecDepth 100000 in
theorem wd_1318 : (Jvm.Cond.methodLink "ReedOracles" (330 : Nat) ({ cls := "ReedOracles$Suspects", name := "answering", desc := "(LReedOracles$Duchy;IIII)I" } : Jvm.MethodName)) ∈ zT := zT_mem (tb6 _ (List.mem_of_getElem? (l := tables_1_6) (i := 0) rfl)) rfl
set_option maxRecDepth 100000 in
theorem wd_1319 : (Jvm.Cond.instanceMethod ({ cls := "ReedOracles$Suspects", name := "answering", desc := "(LReedOracles$Duchy;IIII)I" } : Jvm.MethodName)) ∈ zT := zT_mem (tb6 _ (List.mem_of_getElem? (l := tables_1_6) (i := 1) rfl)) rfl
set_option maxRecDepth 100000 in
theorem wd_1320 : (Jvm.Cond.selects "ReedOracles$Suspects" ({ cls := "ReedOracles$Suspects", name := "answering", desc := "(LReedOracles$Duchy;IIII)I" } : Jvm.MethodName) ({ cls := "ReedOracles$Suspects", name := "answering", desc := "(LReedOracles$Duchy;IIII)I" } : Jvm.MethodName)) ∈ zT := zT_mem (tb6 _ (List.mem_of_getElem? (l := tables_1_6) (i := 2) rfl)) rfl
set_option maxRecDepth 100000 in
theorem wd_1321 : (Jvm.Cond.code ({ cls := "ReedOracles$Suspects", name := "answering", desc := "(LReedOracles$Duchy;IIII)I" } : Jvm.MethodName) prog_9_method_11_code (8 : Nat) (Option.some Jvm.ClassFile.FieldType.int)) ∈ zT := zT_mem (tb6 _ (List.mem_of_getElem? (l := tables_1_6) (i := 3) rfl)) rfl
set_option maxRecDepth 100000 in
theorem wd_1322 : (Jvm.Cond.methodLink "ReedOracles$Suspects" (85 : Nat) ({ cls := "ReedOracles$Duchy", name := "meaning", desc := "(I)I" } : Jvm.MethodName)) ∈ zT := zT_mem (tb6 _ (List.mem_of_getElem? (l := tables_1_6) (i := 4) rfl)) rfl
set_option maxRecDepth 100000 in
theorem wd_1323 : (Jvm.Cond.methodLink "ReedOraclesLaw" (156 : Nat) ({ cls := "ReedOracles", name := "owns", desc := "(IIZ)I" } : Jvm.MethodName)) ∈ zT := zT_mem (tb6 _ (List.mem_of_getElem? (l := tables_1_6) (i := 5) rfl)) rfl
set_option maxRecDepth 100000 in
theorem wd_1324 : (Jvm.Cond.instanceMethod ({ cls := "ReedOracles", name := "owns", desc := "(IIZ)I" } : Jvm.MethodName)) ∈ zT := zT_mem (tb6 _ (List.mem_of_getElem? (l := tables_1_6) (i := 6) rfl)) rfl
set_option maxRecDepth 100000 in
theorem wd_1325 : (Jvm.Cond.selects "ReedOracles" ({ cls := "ReedOracles", name := "owns", desc := "(IIZ)I" } : Jvm.MethodName) ({ cls := "ReedOracles", name := "owns", desc := "(IIZ)I" } : Jvm.MethodName)) ∈ zT := zT_mem (tb6 _ (List.mem_of_getElem? (l := tables_1_6) (i := 7) rfl)) rfl
set_option maxRecDepth 100000 in
theorem wd_1326 : (Jvm.Cond.code ({ cls := "ReedOracles", name := "owns", desc := "(IIZ)I" } : Jvm.MethodName) prog_1_method_35_code (5 : Nat) (Option.some Jvm.ClassFile.FieldType.int)) ∈ zT := zT_mem (tb6 _ (List.mem_of_getElem? (l := tables_1_6) (i := 8) rfl)) rfl
set_option maxRecDepth 100000 in
theorem wd_1327 : (Jvm.Cond.methodLink "ReedOracles" (333 : Nat) ({ cls := "ReedOracles$Survey", name := "shareOut", desc := "(LReedOracles$Duchy;)V" } : Jvm.MethodName)) ∈ zT := zT_mem (tb6 _ (List.mem_of_getElem? (l := tables_1_6) (i := 9) rfl)) rfl
set_option maxRecDepth 100000 in
theorem wd_1328 : (Jvm.Cond.instanceMethod ({ cls := "ReedOracles$Survey", name := "shareOut", desc := "(LReedOracles$Duchy;)V" } : Jvm.MethodName)) ∈ zT := zT_mem (tb6 _ (List.mem_of_getElem? (l := tables_1_6) (i := 10) rfl)) rfl
set_option maxRecDepth 100000 in
theorem wd_1329 : (Jvm.Cond.selects "ReedOracles$Survey" ({ cls := "ReedOracles$Survey", name := "shareOut", desc := "(LReedOracles$Duchy;)V" } : Jvm.MethodName) ({ cls := "ReedOracles$Survey", name := "shareOut", desc := "(LReedOracles$Duchy;)V" } : Jvm.MethodName)) ∈ zT := zT_mem (tb6 _ (List.mem_of_getElem? (l := tables_1_6) (i := 11) rfl)) rfl
set_option maxRecDepth 100000 in
theorem wd_1330 : (Jvm.Cond.code ({ cls := "ReedOracles$Survey", name := "shareOut", desc := "(LReedOracles$Duchy;)V" } : Jvm.MethodName) prog_8_method_24_code (7 : Nat) (Option.none : Option Jvm.ClassFile.FieldType)) ∈ zT := zT_mem (tb6 _ (List.mem_of_getElem? (l := tables_1_6) (i := 12) rfl)) rfl
set_option maxRecDepth 100000 in
theorem wd_1331 : (Jvm.Cond.methodLink "ReedOracles$Survey" (112 : Nat) ({ cls := "ReedOracles$Survey", name := "strongest", desc := "(LReedOracles$Duchy;I)I" } : Jvm.MethodName)) ∈ zT := zT_mem (tb6 _ (List.mem_of_getElem? (l := tables_1_6) (i := 13) rfl)) rfl
set_option maxRecDepth 100000 in
theorem wd_1332 : (Jvm.Cond.static ({ cls := "ReedOracles$Survey", name := "strongest", desc := "(LReedOracles$Duchy;I)I" } : Jvm.MethodName)) ∈ zT := zT_mem (tb6 _ (List.mem_of_getElem? (l := tables_1_6) (i := 14) rfl)) rfl
set_option maxRecDepth 100000 in
theorem wd_1333 : (Jvm.Cond.code ({ cls := "ReedOracles$Survey", name := "strongest", desc := "(LReedOracles$Duchy;I)I" } : Jvm.MethodName) prog_8_method_25_code (5 : Nat) (Option.some Jvm.ClassFile.FieldType.int)) ∈ zT := zT_mem (tb6 _ (List.mem_of_getElem? (l := tables_1_6) (i := 15) rfl)) rfl
